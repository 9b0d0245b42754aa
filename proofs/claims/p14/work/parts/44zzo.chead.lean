/-! reading bits: the pure side -/
def bitO (o : Int → Int) (p : Int) : Int := o (p / 8) / 2 ^ (7 - p % 8).toNat % 2
theorem bitO_r (o : Int → Int) (p : Int) : 0 ≤ bitO o p ∧ bitO o p ≤ 1 := by
  unfold bitO
  omega
def tbS (o : Int → Int) (p : Int) : Nat → Int
  | 0 => 0
  | k + 1 => min (2 * tbS o p k + bitO o (p + (k : Int))) 1048576
def rbS (o : Int → Int) (p : Int) : Nat → Int
  | 0 => 0
  | k + 1 => if 268435456 ≤ rbS o p k then rbS o p k else 2 * rbS o p k + bitO o (p + (k : Int))
theorem tbS_s {o : Int → Int} {p : Int} {k : Nat} : tbS o p (k + 1) = min (2 * tbS o p k + bitO o (p + (k : Int))) 1048576 := rfl
theorem rbS_s {o : Int → Int} {p : Int} {k : Nat} : rbS o p (k + 1) = if 268435456 ≤ rbS o p k then rbS o p k else 2 * rbS o p k + bitO o (p + (k : Int)) := rfl
theorem tbS_r (o : Int → Int) (p : Int) : ∀ k : Nat, 0 ≤ tbS o p k ∧ tbS o p k ≤ 1048576
  | 0 => ⟨Int.le_refl _, (show (0 : Int) ≤ 1048576 by decide)⟩
  | k + 1 => by
    have i := tbS_r o p k
    have b := bitO_r o (p + (k : Int))
    rw [tbS_s]
    omega
theorem tbS_1 (o : Int → Int) (p : Int) : tbS o p 1 = bitO o p := by
  have b := bitO_r o p
  show min (2 * 0 + bitO o (p + ((0 : Nat) : Int))) 1048576 = _
  rw [show p + ((0 : Nat) : Int) = p by omega]
  omega
theorem tbS_lt {o : Int → Int} {p : Int} : ∀ k : Nat, tbS o p k < 2 ^ k
  | 0 => (show (0 : Int) < 1 by decide)
  | k + 1 => by
    have i := tbS_lt (o := o) (p := p) k
    have b := bitO_r o (p + (k : Int))
    rw [tbS_s, Int.pow_succ]
    omega
theorem tb_rb {o : Int → Int} {p : Int} : ∀ k : Nat, (tbS o p k < 1048576 → rbS o p k = tbS o p k) ∧ (1048576 ≤ tbS o p k → 1048576 ≤ rbS o p k)
  | 0 => ⟨fun _ => rfl, fun h => h⟩
  | k + 1 => by
    have i := tb_rb (o := o) (p := p) k
    have t := tbS_r o p k
    have b := bitO_r o (p + (k : Int))
    rw [tbS_s, rbS_s]
    by_cases c : tbS o p k < 1048576
    · rw [i.1 c, if_neg (by omega)]
      omega
    · have j := i.2 (by omega)
      split <;> omega
theorem rb_5 {o : Int → Int} {p : Int} {k : Nat} (hk : k ≤ 5) : rbS o p k = tbS o p k := by
  refine (tb_rb k).1 ?_
  have t := tbS_lt (o := o) (p := p) k
  have e : k = 0 ∨ k = 1 ∨ k = 2 ∨ k = 3 ∨ k = 4 ∨ k = 5 := by omega
  rcases e with rfl | rfl | rfl | rfl | rfl | rfl <;> omega
theorem tb_24 (o : Int → Int) (p : Int) : (0 ≤ tbS o p 1 ∧ tbS o p 1 ≤ 1) ∧ (0 ≤ tbS o p 2 ∧ tbS o p 2 ≤ 3) ∧ (0 ≤ tbS o p 4 ∧ tbS o p 4 ≤ 15) ∧ (0 ≤ tbS o p 5 ∧ tbS o p 5 ≤ 31) := by
  have a1 := tbS_lt (o := o) (p := p) 1
  have a2 := tbS_lt (o := o) (p := p) 2
  have a4 := tbS_lt (o := o) (p := p) 4
  have a5 := tbS_lt (o := o) (p := p) 5
  have b1 := tbS_r o p 1
  have b2 := tbS_r o p 2
  have b4 := tbS_r o p 4
  have b5 := tbS_r o p 5
  omega
/-- how many ones there are -/
def onS (o : Int → Int) (e : Int) : Nat → Int → Int
  | 0, _ => 0
  | k + 1, p => if p < e ∧ bitO o p = 1 then 1 + onS o e k (p + 1) else 0
def gnS (o : Int → Int) (e p : Int) : Int := onS o e (e - p).toNat p
theorem onS_r {o : Int → Int} {e : Int} : ∀ (k : Nat) (p : Int), 0 ≤ onS o e k p ∧ onS o e k p ≤ (k : Int)
  | 0, _ => ⟨Int.le_refl _, Int.le_refl _⟩
  | k + 1, p => by
    have i := onS_r (o := o) (e := e) k (p + 1)
    show 0 ≤ (if p < e ∧ bitO o p = 1 then 1 + onS o e k (p + 1) else 0) ∧ (if p < e ∧ bitO o p = 1 then 1 + onS o e k (p + 1) else 0) ≤ ((k + 1 : Nat) : Int)
    split <;> omega
theorem onS_u {o : Int → Int} {e : Int} : ∀ (k : Nat) (p g : Int), (k : Int) = e - p → 0 ≤ g → p + g ≤ e → (∀ j : Int, 0 ≤ j → j < g → bitO o (p + j) = 1) → (p + g = e ∨ bitO o (p + g) ≠ 1) → g = onS o e k p
  | 0, p, g, hk, h0, h1, _, _ => by
    show g = 0
    omega
  | k + 1, p, g, hk, h0, h1, h2, h3 => by
    show g = if p < e ∧ bitO o p = 1 then 1 + onS o e k (p + 1) else 0
    by_cases z : g = 0
    · rw [z, Int.add_zero] at h3
      rw [if_neg (fun q => by
        rcases h3 with e1 | e1
        · omega
        · exact e1 q.2)]
      exact z
    · have b0 := h2 0 (Int.le_refl _) (by omega)
      rw [Int.add_zero] at b0
      rw [if_pos ⟨by omega, b0⟩]
      have i := onS_u (o := o) (e := e) k (p + 1) (g - 1) (by omega) (by omega) (by omega) (fun j j0 j1 => by
        have := h2 (j + 1) (by omega) (by omega)
        rw [show p + 1 + j = p + (j + 1) by omega]
        exact this) (by rw [show p + 1 + (g - 1) = p + g by omega]; exact h3)
      omega
theorem gnS_u {o : Int → Int} {e p g : Int} (h0 : 0 ≤ g) (h1 : p + g ≤ e) (h2 : ∀ j : Int, 0 ≤ j → j < g → bitO o (p + j) = 1) (h3 : p + g = e ∨ bitO o (p + g) ≠ 1) : g = gnS o e p := onS_u _ p g (by omega) h0 h1 h2 h3
theorem gnS_r {o : Int → Int} {e p : Int} (h : p ≤ e) : 0 ≤ gnS o e p ∧ p + gnS o e p ≤ e := by
  have k := onS_r (o := o) (e := e) (e - p).toNat p
  unfold gnS
  omega
/-- where reading goes on behind the ones -/
def gpS (o : Int → Int) (e p : Int) : Int := p + gnS o e p + (if p + gnS o e p < e then 1 else 0)
/-- a count of passes: -1 when its bits aren't all there -/
def ctS (o : Int → Int) (e p : Int) : Int × Int :=
  if e - p < 1 then (-1, p) else if tbS o p 1 ≠ 1 then (1, p + 1)
  else if e - (p + 1) < 1 then (-1, p) else if tbS o (p + 1) 1 ≠ 1 then (2, p + 2)
  else if e - (p + 2) < 2 then (-1, p) else if tbS o (p + 2) 2 ≠ 3 then (3 + tbS o (p + 2) 2, p + 4)
  else if e - (p + 4) < 5 then (-1, p) else (6 + tbS o (p + 4) 5, p + 9)
theorem ctS_r (o : Int → Int) (e p : Int) : ((ctS o e p).1 = -1 ∨ 1 ≤ (ctS o e p).1 ∧ (ctS o e p).1 ≤ 37) ∧ (0 ≤ (ctS o e p).1 → p < (ctS o e p).2 ∧ (ctS o e p).2 ≤ e) := by
  have t1 := tb_24 o (p + 2)
  have t2 := tb_24 o (p + 4)
  unfold ctS
  by_cases c1 : e - p < 1
  · rw [if_pos c1]; dsimp only; omega
  rw [if_neg c1]
  by_cases c2 : tbS o p 1 ≠ 1
  · rw [if_pos c2]; dsimp only; omega
  rw [if_neg c2]
  by_cases c3 : e - (p + 1) < 1
  · rw [if_pos c3]; dsimp only; omega
  rw [if_neg c3]
  by_cases c4 : tbS o (p + 1) 1 ≠ 1
  · rw [if_pos c4]; dsimp only; omega
  rw [if_neg c4]
  by_cases c5 : e - (p + 2) < 2
  · rw [if_pos c5]; dsimp only; omega
  rw [if_neg c5]
  by_cases c6 : tbS o (p + 2) 2 ≠ 3
  · rw [if_pos c6]; dsimp only; omega
  rw [if_neg c6]
  by_cases c7 : e - (p + 4) < 5
  · rw [if_pos c7]; dsimp only; omega
  rw [if_neg c7]; dsimp only; omega
/-- what a head says of one band: code (0 whole, 1 cut, -1 malformed), passes, bytes, place, planes, width -/
abbrev BR_ := Int × Int × Int × Int × Int × Int
def hlS (o : Int → Int) (e q pl n w : Int) : BR_ := if e - gpS o e q < w + (bl n - 1) then (1, 0, 0, q, pl, w) else (0, n, tbS o (gpS o e q) (w + (bl n - 1)).toNat, gpS o e q + (w + (bl n - 1)), pl, w)
def hcS (o : Int → Int) (e p pl tk w : Int) : BR_ := if (ctS o e p).1 < 0 then (1, 0, 0, p, pl, w) else if pas pl < tk + (ctS o e p).1 then (-1, 0, 0, p, pl, w) else hlS o e (ctS o e p).2 pl (ctS o e p).1 (w + gnS o e (ctS o e p).2)
def hbS (o : Int → Int) (e p pl tk w : Int) : BR_ :=
  if e - p < 1 then (1, 0, 0, p, pl, w) else if tbS o p 1 ≠ 1 then (0, 0, 0, p + 1, pl, w)
  else if tk = 0 then (if e - (p + 1) < 4 then (1, 0, 0, p, pl, w) else if tbS o (p + 1) 4 = 0 ∨ 12 < tbS o (p + 1) 4 then (-1, 0, 0, p, pl, w) else hcS o e (p + 5) (tbS o (p + 1) 4) tk w)
  else hcS o e (p + 1) pl tk w
set_option maxRecDepth 20000 in
theorem s_takeFrom5_e (s t : Int) (h : Hp_) (hT : TY h) (hs : -2147483648 ≤ s ∧ s ≤ 2147483647) (ht : -2147483648 ≤ t ∧ t ≤ 2147483647) (hst : 0 ≤ s ∧ s ≤ 100000 ∧ 0 ≤ t ∧ t ≤ 100000) : Ctr yX1_takeFrom cX1_takeFrom 3 none (rmd 0) ly ly 0 0 [vR 5, vI s, vI t] h (fun r h' => (TY h' ∧ FR [5] h h') ∧ r = none ∧ ((h' 5 3) = 8 * s ∧ (h' 5 4) = 8 * t) ∧ ((h' 5 1) = (h 5 1))) := by
  refine Ctr_of (by decide) (Nat.le_of_ble_eq_true rfl) ⟨Nat.le_refl _, Nat.le_refl _⟩ (fun K hK hQ _ => ?_)
  show TT K ly 0 0 0 [(0, vR 5), (1, vI s), (2, vI t)] [] h
  have hF : FR [5] h h := FR_rf _ _
  refine TT_aload_n hK rfl 0 rfl dX1_takeFrom_0 ?_
  refine TT_bipush hK (by decide) dX1_takeFrom_1 ?_
  refine TT_iload_n hK rfl 1 rfl dX1_takeFrom_3 ?_
  refine TT_imul hK dX1_takeFrom_4 ?_
  refine pf_X1_38 hK (by decide) rfl dX1_takeFrom_5 ?_
  refine TT_hp (h' := setO h 5 (fup (h 5) 3 (8 * s))) (up_can rfl rfl rfl) ?_
  have hT_1 : TY (setO h 5 (fup (h 5) 3 (8 * s))) := tu_5_3 hT (show up h 5 3 (8 * s) = (setO h 5 (fup (h 5) 3 (8 * s))) from up_can rfl rfl rfl) (by omega)
  have hF_1 : FR [5] h (setO h 5 (fup (h 5) 3 (8 * s))) := FR_up (show up h 5 3 (8 * s) = (setO h 5 (fup (h 5) 3 (8 * s))) from up_can rfl rfl rfl) hF (by decide)
  refine TT_aload_n hK rfl 0 rfl dX1_takeFrom_8 ?_
  refine TT_bipush hK (by decide) dX1_takeFrom_9 ?_
  refine TT_iload_n hK rfl 2 rfl dX1_takeFrom_11 ?_
  refine TT_imul hK dX1_takeFrom_12 ?_
  refine pf_X1_41 hK (by decide) rfl dX1_takeFrom_13 ?_
  refine TT_hp (h' := setO h 5 (fup (fup (h 5) 3 (8 * s)) 4 (8 * t))) (up_can (sOf_eq _ _ _) rfl (setO_same _ _ _ _)) ?_
  have hT_2 : TY (setO h 5 (fup (fup (h 5) 3 (8 * s)) 4 (8 * t))) := tu_5_4 hT_1 (show up (setO h 5 (fup (h 5) 3 (8 * s))) 5 4 (8 * t) = (setO h 5 (fup (fup (h 5) 3 (8 * s)) 4 (8 * t))) from up_can (sOf_eq _ _ _) rfl (setO_same _ _ _ _)) (by omega)
  have hF_2 : FR [5] h (setO h 5 (fup (fup (h 5) 3 (8 * s)) 4 (8 * t))) := FR_up (show up (setO h 5 (fup (h 5) 3 (8 * s))) 5 4 (8 * t) = (setO h 5 (fup (fup (h 5) 3 (8 * s)) 4 (8 * t))) from up_can (sOf_eq _ _ _) rfl (setO_same _ _ _ _)) hF_1 (by decide)
  refine TT_vret hK hQ ?_ dX1_takeFrom_16
  have e3_5_3 : (setO h 5 (fup (fup (h 5) 3 (8 * s)) 4 (8 * t))) 5 3 = 8 * s := rd_ (sOf_eq _ _ _) ((fup_ne _ _ (by decide)).trans (fup_eq _ _ _))
  have e4_5_4 : (setO h 5 (fup (fup (h 5) 3 (8 * s)) 4 (8 * t))) 5 4 = 8 * t := rd_ (sOf_eq _ _ _) (fup_eq _ _ _)
  have e5_5_1 : (setO h 5 (fup (fup (h 5) 3 (8 * s)) 4 (8 * t))) 5 1 = (h 5) 1 := rd_ (sOf_eq _ _ _) ((fup_ne _ _ (by decide)).trans (fup_ne _ _ (by decide)))
  exact ⟨⟨hT_2, hF_2⟩, rfl, (by rewrite [e3_5_3, e4_5_4]; omega), (by rewrite [e5_5_1]; omega)⟩
set_option maxRecDepth 20000 in
theorem s_byteBehind5_e (h : Hp_) (hT : TY h) (hp9 : 0 ≤ (h 5 3) ∧ (h 5 3) ≤ 100000) : Ctr yX1_byteBehindBits cX1_byteBehindBits 1 (some .int) (rmd 0) ly ly 0 0 [vR 5] h (fun r h' => (TY h' ∧ FR [] h h') ∧ ∃ z : Int, r = some (vI z) ∧ (-2147483648 ≤ z ∧ z ≤ 2147483647) ∧ (z = ((h 5 3) + 7) / 8)) := by
  refine Ctr_of (by decide) (Nat.le_of_ble_eq_true rfl) ⟨Nat.le_refl _, Nat.le_refl _⟩ (fun K hK hQ _ => ?_)
  show TT K ly 0 0 0 [(0, vR 5)] [] h
  have hF : FR [] h h := FR_rf _ _
  refine TT_aload_n hK rfl 0 rfl dX1_byteBehindBits_0 ?_
  refine gf_X1_38 hK (by decide) rfl (v := (h 5) 3) rfl dX1_byteBehindBits_1 ?_
  have r1 := ty_5_3 (v := (h 5) 3) hT rfl
  refine TT_bipush hK (by decide) dX1_byteBehindBits_4 ?_
  refine TT_iadd hK dX1_byteBehindBits_6 ?_
  refine TT_bipush hK (by decide) dX1_byteBehindBits_7 ?_
  refine TT_idivn hK (irm (by omega) (by omega)) (by decide) (by first | omega | (simp [up, setR] <;> omega)) (by first | omega | (simp [up, setR] <;> omega)) dX1_byteBehindBits_9 ?_
  refine TT_iret hK hQ ?_ dX1_byteBehindBits_10
  exact ⟨⟨hT, hF⟩, ((((h 5) 3) + 7) / 8), rfl, (by omega), (by omega)⟩
set_option maxRecDepth 20000 in
theorem s_takeBits5_e (o9 : Int → Int) (n : Int) (h : Hp_) (hT : TY h) (hn : -2147483648 ≤ n ∧ n ≤ 2147483647) (ho : ∀ j : Int, 0 ≤ j → j < (h 5 1) → (h 6) j = o9 j) (hp : (0 ≤ (h 5 3) ∧ (h 5 3) ≤ (h 5 4)) ∧ (h 5 4) ≤ 8 * (h 5 1)) (hn0 : 0 ≤ n ∧ n ≤ 20000) : Ctr yX1_takeBits cX1_takeBits 5 (some .int) (rmd 1) ly ly 0 0 [vR 5, vI n] h (fun r h' => (TY h' ∧ FR [5] h h') ∧ ∃ z : Int, r = some (vI z) ∧ (-1 ≤ z ∧ z ≤ 1048576) ∧ ((n ≤ (h 5 4) - (h 5 3) → z = tbS o9 (h 5 3) n.toNat ∧ (h' 5 3) = (h 5 3) + n) ∧ ((h 5 4) - (h 5 3) < n → z = -1 ∧ (h' 5 3) = (h 5 3))) ∧ ((h' 5 4) = (h 5 4) ∧ (h' 5 1) = (h 5 1))) := by
  refine Ctr_of (by decide) (Nat.le_of_ble_eq_true rfl) ⟨Nat.le_refl _, Nat.le_refl _⟩ (fun K hK hQ _ => ?_)
  show TT K ly 0 0 0 [(0, vR 5), (1, vI n)] [] h
  have hF : FR [5] h h := FR_rf _ _
  have r51 := ty_5_1 (v := h 5 1) hT rfl
  refine TT_iload_n hK rfl 1 rfl dX1_takeBits_0 ?_
  refine TT_aload_n hK rfl 0 rfl dX1_takeBits_1 ?_
  refine gf_X1_41 hK (by decide) rfl (v := (h 5) 4) rfl dX1_takeBits_2 ?_
  have r1 := ty_5_4 (v := (h 5) 4) hT rfl
  refine TT_aload_n hK rfl 0 rfl dX1_takeBits_5 ?_
  refine gf_X1_38 hK (by decide) rfl (v := (h 5) 3) rfl dX1_takeBits_6 ?_
  have r2 := ty_5_3 (v := (h 5) 3) hT rfl
  refine TT_isub hK dX1_takeBits_9 ?_
  refine TT_icmp_le hK (tgt := 15) (irm (by omega) (by omega)) (irm (by omega) (by omega)) dX1_takeBits_10 (by decide) (fun hb10_3 => ?_) (fun hb10_3 => ?_)
  · refine TT_iconst hK dX1_takeBits_15 ?_
    refine TT_istore_n hK rfl (lv' := [(2, vI 0), (0, vR 5), (1, vI n)]) (by decide) rfl dX1_takeBits_16 ?_
    refine TT_iconst hK dX1_takeBits_17 ?_
    refine TT_istore_n hK rfl (lv' := [(3, vI 0), (2, vI 0), (0, vR 5), (1, vI n)]) (by decide) rfl dX1_takeBits_18 ?_
    have L19_4 : ∀ (k4 : Nat) (v : Int) (k : Int) (w19_4 : Hp_), TY w19_4 → FR [5] h w19_4 → (0 ≤ v ∧ v ≤ 1048576) → (0 ≤ k ∧ (k ≤ n ∨ k = 0)) → (k ≤ n) → ((w19_4 5 3) = h 5 3 + k) → ((w19_4 5 4) = h 5 4 ∧ (w19_4 5 1) = h 5 1) → (v = tbS o9 (h 5 3) k.toNat) → (n - k).toNat < k4 → TT K ly 0 0 19 [(0, vR 5), (1, vI n), (2, vI v), (3, vI k)] [] w19_4 := by
      intro k4
      induction k4 with
      | zero => intro v k w19_4 hT19_4 hF19_4 hv hk hkn k53 k54 hv9 hk4; exact absurd hk4 (Nat.not_lt_zero _)
      | succ k4 ih4 =>
        intro v k w19_4 hT19_4 hF19_4 hv hk hkn k53 k54 hv9 hk4
        refine TT_iload_n hK rfl 3 rfl dX1_takeBits_19 ?_
        refine TT_iload_n hK rfl 1 rfl dX1_takeBits_20 ?_
        refine TT_icmp_ge hK (tgt := 77) (irm (by omega) (by omega)) (irm (by omega) (by omega)) dX1_takeBits_21 (by decide) (fun hb21_5 => ?_) (fun hb21_5 => ?_)
        · refine TT_iload_n hK rfl 2 rfl dX1_takeBits_77 ?_
          refine TT_iret hK hQ ?_ dX1_takeBits_78
          have e6_5_3 : w19_4 5 3 = (w19_4 5) 3 := rfl
          have e7_5_1 : w19_4 5 1 = (w19_4 5) 1 := rfl
          have e8_5_4 : w19_4 5 4 = (w19_4 5) 4 := rfl
          exact ⟨⟨hT19_4, hF19_4⟩, v, rfl, (by omega), (by rewrite [e6_5_3]; first | exact ⟨fun _ => ⟨by rw [hv9, show k = n by omega], by omega⟩, fun q => by exfalso; omega⟩ | exact ⟨fun q => by exfalso; omega, fun _ => ⟨rfl, rfl⟩⟩), (by rewrite [e7_5_1, e8_5_4]; omega)⟩
        · refine TT_aload_n hK rfl 0 rfl dX1_takeBits_24 ?_
          refine TT_aload_n hK rfl 0 rfl dX1_takeBits_25 ?_
          refine gf_X1_38 hK (by decide) rfl (v := (w19_4 5) 3) rfl dX1_takeBits_26 ?_
          have r9 := ty_5_3 (v := (w19_4 5) 3) hT19_4 rfl
          refine TT_iconst hK dX1_takeBits_29 ?_
          refine TT_ishr hK (irm (by omega) (by omega)) (by omega) (by omega) dX1_takeBits_30 ?_
          refine TT_cgI (b := ((w19_4 5) 3) / 8) rfl ?_
          refine iv_X1_26 hK (s_X1_at_5 (((w19_4 5) 3) / 8) w19_4 hT19_4 (by first | omega | (simp [up, setR] <;> omega))) (by decide) rfl ⟨by decide, by decide⟩ (by decide) rfl rfl (Nat.le_of_ble_eq_true rfl) ⟨by decide, by decide⟩ dX1_takeBits_31 ?_
          intro r9 g31_10 hp9
          obtain ⟨⟨hT_10, hG_10⟩, z31_10, hr9, hz_10, p1_10⟩ := hp9
          rw [hr9]
          have hF_10 : FR [5] h g31_10 := FR_tr hF19_4 hG_10 (by decide)
          rw [show w19_4 5 1 = (w19_4 5) 1 from rfl] at p1_10
          rw [show w19_4 6 = h 6 from (hF19_4 6 (by decide))] at p1_10
          have p1_at31 := p1_10
          show TT K ly 0 0 34 [(0, vR 5), (1, vI n), (2, vI v), (3, vI k)] [vI z31_10] g31_10
          have zb9 : z31_10 = o9 (((w19_4 5) 3) / 8) := (p1_at31.1 (by omega)).trans (ho _ (by omega) (by omega))
          refine TT_bipush hK (by decide) dX1_takeBits_34 ?_
          refine TT_aload_n hK rfl 0 rfl dX1_takeBits_36 ?_
          refine gf_X1_38 hK (by decide) rfl (v := (w19_4 5) 3) (rd_ (hG_10 5 (by decide)) rfl) dX1_takeBits_37 ?_
          refine TT_bipush hK (by decide) dX1_takeBits_40 ?_
          refine TT_iand hK dX1_takeBits_42 ?_
          refine TT_cgI (iand_m ((w19_4 5) 3) 3 (by decide)) ?_
          show TT K ly 0 0 43 [(0, vR 5), (1, vI n), (2, vI v), (3, vI k)] (vI (((w19_4 5) 3) % 8) :: [vI 7, vI z31_10]) g31_10
          refine TT_isub hK dX1_takeBits_43 ?_
          refine TT_ishr hK (irm (by omega) (by omega)) (by omega) (by omega) dX1_takeBits_44 ?_
          refine TT_iconst hK dX1_takeBits_45 ?_
          refine TT_iand hK dX1_takeBits_46 ?_
          refine TT_cgI (iand_m (z31_10 / 2 ^ (7 - (((w19_4 5) 3) % 8)).toNat) 1 (by decide)) ?_
          show TT K ly 0 0 47 [(0, vR 5), (1, vI n), (2, vI v), (3, vI k)] (vI ((z31_10 / 2 ^ (7 - (((w19_4 5) 3) % 8)).toNat) % 2) :: []) g31_10
          refine TT_istore hK (lv' := [(4, vI ((z31_10 / 2 ^ (7 - (((w19_4 5) 3) % 8)).toNat) % 2)), (0, vR 5), (1, vI n), (2, vI v), (3, vI k)]) (by decide) rfl dX1_takeBits_47 ?_
          have bz9 : (z31_10 / 2 ^ (7 - (((w19_4 5) 3) % 8)).toNat) % 2 = bitO o9 (h 5 3 + (k.toNat : Int)) := by
              unfold bitO
              rw [show h 5 3 + (k.toNat : Int) = (w19_4 5) 3 by omega, ← zb9]
          refine TT_iconst hK dX1_takeBits_49 ?_
          refine TT_iload_n hK rfl 3 rfl dX1_takeBits_50 ?_
          refine TT_imul hK dX1_takeBits_51 ?_
          refine TT_iload hK 0 rfl dX1_takeBits_52 ?_
          refine TT_iadd hK dX1_takeBits_54 ?_
          refine TT_ldc hK lc_X1_44 dX1_takeBits_55 ?_
          refine TT_mmin hK (irm (by omega) (by omega)) (by decide) iw_X1_45 (by decide) (Nat.le_of_ble_eq_true rfl) ⟨by decide, by decide⟩ dX1_takeBits_57 ?_
          refine TT_istore_n hK rfl (lv' := [(2, vI (min ((2 * v) + ((z31_10 / 2 ^ (7 - (((w19_4 5) 3) % 8)).toNat) % 2)) 1048576)), (4, vI ((z31_10 / 2 ^ (7 - (((w19_4 5) 3) % 8)).toNat) % 2)), (0, vR 5), (1, vI n), (3, vI k)]) (by decide) rfl dX1_takeBits_60 ?_
          refine TT_aload_n hK rfl 2 rfl dX1_takeBits_61 ?_
          refine TT_dup hK rfl dX1_takeBits_62 ?_
          refine gf_X1_38 hK (by decide) rfl (v := (w19_4 5) 3) (rd_ (hG_10 5 (by decide)) rfl) dX1_takeBits_63 ?_
          refine TT_iconst hK dX1_takeBits_66 ?_
          refine TT_iadd hK dX1_takeBits_67 ?_
          refine pf_X1_38 hK (by decide) rfl dX1_takeBits_68 ?_
          refine TT_hp (h' := setO g31_10 5 (fup (w19_4 5) 3 (((w19_4 5) 3) + 1))) (up_can (hG_10 5 (by decide)) rfl rfl) ?_
          have hT_11 : TY (setO g31_10 5 (fup (w19_4 5) 3 (((w19_4 5) 3) + 1))) := tu_5_3 hT_10 (show up g31_10 5 3 (((w19_4 5) 3) + 1) = (setO g31_10 5 (fup (w19_4 5) 3 (((w19_4 5) 3) + 1))) from up_can (hG_10 5 (by decide)) rfl rfl) (by omega)
          have hF_11 : FR [5] h (setO g31_10 5 (fup (w19_4 5) 3 (((w19_4 5) 3) + 1))) := FR_up (show up g31_10 5 3 (((w19_4 5) 3) + 1) = (setO g31_10 5 (fup (w19_4 5) 3 (((w19_4 5) 3) + 1))) from up_can (hG_10 5 (by decide)) rfl rfl) hF_10 (by decide)
          refine TT_iinc hK (v := k + 1) (lv' := [(3, vI (k + 1)), (2, vI (min ((2 * v) + ((z31_10 / 2 ^ (7 - (((w19_4 5) 3) % 8)).toNat) % 2)) 1048576)), (4, vI ((z31_10 / 2 ^ (7 - (((w19_4 5) 3) % 8)).toNat) % 2)), (0, vR 5), (1, vI n)]) 4 rfl rfl (by decide) rfl dX1_takeBits_71 ?_
          refine TT_goto hK (tgt := 19) dX1_takeBits_74 (by decide) ?_
          refine TT_sub [3, 4, 1, 0] rfl ?_
          have e12_5_3 : (setO g31_10 5 (fup (w19_4 5) 3 (((w19_4 5) 3) + 1))) 5 3 = ((w19_4 5) 3) + 1 := rd_ (sOf_eq _ _ _) (fup_eq _ _ _)
          have e13_5_1 : (setO g31_10 5 (fup (w19_4 5) 3 (((w19_4 5) 3) + 1))) 5 1 = (w19_4 5) 1 := rd_ (sOf_eq _ _ _) (fup_ne _ _ (by decide))
          have e14_5_4 : (setO g31_10 5 (fup (w19_4 5) 3 (((w19_4 5) 3) + 1))) 5 4 = (w19_4 5) 4 := rd_ (sOf_eq _ _ _) (fup_ne _ _ (by decide))
          exact ih4 (min ((2 * v) + ((z31_10 / 2 ^ (7 - (((w19_4 5) 3) % 8)).toNat) % 2)) 1048576) (k + 1) (setO g31_10 5 (fup (w19_4 5) 3 (((w19_4 5) 3) + 1))) hT_11 hF_11 (by first | omega | (simp [up, setR] <;> omega)) (by first | omega | (simp [up, setR] <;> omega)) (by first | omega | (simp [up, setR] <;> omega)) (by rewrite [e12_5_3]; first | omega | (simp [up, setR] <;> omega)) (by rewrite [e13_5_1, e14_5_4]; first | omega | (simp [up, setR] <;> omega)) (by rw [show (k + 1).toNat = k.toNat + 1 by omega, tbS_s, ← bz9, ← hv9]) (by first | omega | (simp [up, setR] <;> omega))
    refine TT_sub [2, 3, 1, 0] rfl ?_
    have e15_5_3 : h 5 3 = (h 5) 3 := rfl
    have e16_5_1 : h 5 1 = (h 5) 1 := rfl
    have e17_5_4 : h 5 4 = (h 5) 4 := rfl
    exact L19_4 (((n - 0).toNat) + 1) 0 0 h hT hF (by first | omega | (simp [up, setR] <;> omega)) (by first | omega | (simp [up, setR] <;> omega)) (by first | omega | (simp [up, setR] <;> omega)) (by rewrite [e15_5_3]; first | omega | (simp [up, setR] <;> omega)) (by rewrite [e16_5_1, e17_5_4]; first | omega | (simp [up, setR] <;> omega)) (by rfl) (Nat.lt_succ_self _)
  · refine TT_iconst hK dX1_takeBits_13 ?_
    refine TT_iret hK hQ ?_ dX1_takeBits_14
    have e18_5_3 : h 5 3 = (h 5) 3 := rfl
    have e19_5_1 : h 5 1 = (h 5) 1 := rfl
    have e20_5_4 : h 5 4 = (h 5) 4 := rfl
    exact ⟨⟨hT, hF⟩, (-1), rfl, (by omega), (by rewrite [e18_5_3]; first | exact ⟨fun q => by exfalso; omega, fun _ => ⟨rfl, rfl⟩⟩), (by rewrite [e19_5_1, e20_5_4]; omega)⟩
set_option maxRecDepth 20000 in
theorem s_readCount5_e (o9 : Int → Int) (h : Hp_) (hT : TY h) (ho : ∀ j : Int, 0 ≤ j → j < (h 5 1) → (h 6) j = o9 j) (hp : (0 ≤ (h 5 3) ∧ (h 5 3) ≤ (h 5 4)) ∧ (h 5 4) ≤ 8 * (h 5 1)) : Ctr yX10_readCount cX10_readCount 4 (some .int) (rmd 2) ly ly 0 0 [vR 5] h (fun r h' => (TY h' ∧ FR [5] h h') ∧ ∃ z : Int, r = some (vI z) ∧ (-1 ≤ z ∧ z ≤ 1048582) ∧ (z = (ctS o9 (h 5 4) (h 5 3)).1 ∧ (0 ≤ z → (h' 5 3) = (ctS o9 (h 5 4) (h 5 3)).2)) ∧ (((h' 5 4) = (h 5 4) ∧ (h' 5 1) = (h 5 1)) ∧ ((h 5 3) ≤ (h' 5 3) ∧ (h' 5 3) ≤ (h 5 4)))) := by
  refine Ctr_of (by decide) (Nat.le_of_ble_eq_true rfl) ⟨Nat.le_refl _, Nat.le_refl _⟩ (fun K hK hQ _ => ?_)
  show TT K ly 0 0 0 [(0, vR 5)] [] h
  have hF : FR [5] h h := FR_rf _ _
  refine TT_aload_n hK rfl 0 rfl dX10_readCount_0 ?_
  refine TT_iconst hK dX10_readCount_1 ?_
  have e2 : ((h 5) 3) = h 5 3 := by omega
  have e1_5_1 : h 5 1 = (h 5) 1 := rfl
  have e2_5_1 : h 5 1 = (h 5) 1 := rfl
  have e3_5_3 : h 5 3 = (h 5) 3 := rfl
  have e4_5_4 : h 5 4 = (h 5) 4 := rfl
  refine iv_X10_118 hK (s_takeBits5_e o9 1 h hT (by first | omega | (simp [up, setR] <;> omega)) (by rewrite [e1_5_1]; first | assumption | (intro j j0 j1; exact ho j j0 (by omega))) (by rewrite [e2_5_1, e3_5_3, e4_5_4]; first | omega | (simp [up, setR] <;> omega)) (by first | omega | (simp [up, setR] <;> omega))) (by decide) rfl ⟨by decide, by decide⟩ (by decide) rfl rfl (Nat.le_of_ble_eq_true rfl) ⟨by decide, by decide⟩ dX10_readCount_2 ?_
  intro r9 g2_5 hp9
  obtain ⟨⟨hT_5, hG_5⟩, z2_5, hr9, hz_5, tb_5, k5_5⟩ := hp9
  rw [hr9]
  have hF_5 : FR [5] h g2_5 := FR_tr hF hG_5 (by decide)
  rw [show h 5 3 = (h 5) 3 from rfl] at tb_5
  rw [show h 5 4 = (h 5) 4 from rfl] at tb_5
  rw [show h 5 1 = (h 5) 1 from rfl] at k5_5
  rw [show h 5 4 = (h 5) 4 from rfl] at k5_5
  have tb_at2 := tb_5
  show TT K ly 0 0 5 [(0, vR 5)] [vI z2_5] g2_5
  have t2 := tb_at2
  rw [show (1 : Int).toNat = 1 from rfl, e2] at t2
  have tt2 := tb_24 o9 (h 5 3)
  refine TT_istore_n hK rfl (lv' := [(1, vI z2_5), (0, vR 5)]) (by decide) rfl dX10_readCount_5 ?_
  refine TT_iload_n hK rfl 0 rfl dX10_readCount_6 ?_
  refine TT_iconst hK dX10_readCount_7 ?_
  refine TT_icmp_eq hK (tgt := 21) (irm (by omega) (by omega)) (by decide) dX10_readCount_8 (by decide) (fun hb8_6 => ?_) (fun hb8_6 => ?_)
  · refine TT_aload_n hK rfl 1 rfl dX10_readCount_21 ?_
    refine TT_iconst hK dX10_readCount_22 ?_
    have e23 : ((g2_5 5) 3) = h 5 3 + 1 := by omega
    have e7_5_1 : g2_5 5 1 = (g2_5 5) 1 := rfl
    have e8_6 : g2_5 6 = h 6 := (hG_5 6 (by decide))
    have e9_5_1 : g2_5 5 1 = (g2_5 5) 1 := rfl
    have e10_5_3 : g2_5 5 3 = (g2_5 5) 3 := rfl
    have e11_5_4 : g2_5 5 4 = (g2_5 5) 4 := rfl
    refine iv_X10_118 hK (s_takeBits5_e o9 1 g2_5 hT_5 (by first | omega | (simp [up, setR] <;> omega)) (by rewrite [e7_5_1, e8_6]; first | assumption | (intro j j0 j1; exact ho j j0 (by omega))) (by rewrite [e9_5_1, e10_5_3, e11_5_4]; first | omega | (simp [up, setR] <;> omega)) (by first | omega | (simp [up, setR] <;> omega))) (by decide) rfl ⟨by decide, by decide⟩ (by decide) rfl rfl (Nat.le_of_ble_eq_true rfl) ⟨by decide, by decide⟩ dX10_readCount_23 ?_
    intro r9 g23_12 hp9
    obtain ⟨⟨hT_12, hG_12⟩, z23_12, hr9, hz_12, tb_12, k5_12⟩ := hp9
    rw [hr9]
    have hF_12 : FR [5] h g23_12 := FR_tr hF_5 hG_12 (by decide)
    rw [show g2_5 5 3 = (g2_5 5) 3 from rfl] at tb_12
    rw [show g2_5 5 4 = (g2_5 5) 4 from rfl] at tb_12
    rw [show g2_5 5 1 = (g2_5 5) 1 from rfl] at k5_12
    rw [show g2_5 5 4 = (g2_5 5) 4 from rfl] at k5_12
    have tb_at23 := tb_12
    show TT K ly 0 0 26 [(1, vI z2_5), (0, vR 5)] [vI z23_12] g23_12
    have t23 := tb_at23
    rw [show (1 : Int).toNat = 1 from rfl, e23] at t23
    have tt23 := tb_24 o9 (h 5 3 + 1)
    refine TT_istore_n hK rfl (lv' := [(1, vI z23_12), (0, vR 5)]) (by decide) rfl dX10_readCount_26 ?_
    refine TT_iload_n hK rfl 0 rfl dX10_readCount_27 ?_
    refine TT_iconst hK dX10_readCount_28 ?_
    refine TT_icmp_eq hK (tgt := 42) (irm (by omega) (by omega)) (by decide) dX10_readCount_29 (by decide) (fun hb29_13 => ?_) (fun hb29_13 => ?_)
    · refine TT_aload_n hK rfl 1 rfl dX10_readCount_42 ?_
      refine TT_iconst hK dX10_readCount_43 ?_
      have e44 : ((g23_12 5) 3) = h 5 3 + 2 := by omega
      have e14_5_1 : g23_12 5 1 = (g23_12 5) 1 := rfl
      have e15_6 : g23_12 6 = h 6 := ((hG_12 6 (by decide))).trans (hG_5 6 (by decide))
      have e16_5_1 : g23_12 5 1 = (g23_12 5) 1 := rfl
      have e17_5_3 : g23_12 5 3 = (g23_12 5) 3 := rfl
      have e18_5_4 : g23_12 5 4 = (g23_12 5) 4 := rfl
      refine iv_X10_118 hK (s_takeBits5_e o9 2 g23_12 hT_12 (by first | omega | (simp [up, setR] <;> omega)) (by rewrite [e14_5_1, e15_6]; first | assumption | (intro j j0 j1; exact ho j j0 (by omega))) (by rewrite [e16_5_1, e17_5_3, e18_5_4]; first | omega | (simp [up, setR] <;> omega)) (by first | omega | (simp [up, setR] <;> omega))) (by decide) rfl ⟨by decide, by decide⟩ (by decide) rfl rfl (Nat.le_of_ble_eq_true rfl) ⟨by decide, by decide⟩ dX10_readCount_44 ?_
      intro r9 g44_19 hp9
      obtain ⟨⟨hT_19, hG_19⟩, z44_19, hr9, hz_19, tb_19, k5_19⟩ := hp9
      rw [hr9]
      have hF_19 : FR [5] h g44_19 := FR_tr hF_12 hG_19 (by decide)
      rw [show g23_12 5 3 = (g23_12 5) 3 from rfl] at tb_19
      rw [show g23_12 5 4 = (g23_12 5) 4 from rfl] at tb_19
      rw [show g23_12 5 1 = (g23_12 5) 1 from rfl] at k5_19
      rw [show g23_12 5 4 = (g23_12 5) 4 from rfl] at k5_19
      have tb_at44 := tb_19
      show TT K ly 0 0 47 [(1, vI z23_12), (0, vR 5)] [vI z44_19] g44_19
      have t44 := tb_at44
      rw [show (2 : Int).toNat = 2 from rfl, e44] at t44
      have tt44 := tb_24 o9 (h 5 3 + 2)
      refine TT_istore_n hK rfl (lv' := [(2, vI z44_19), (1, vI z23_12), (0, vR 5)]) (by decide) rfl dX10_readCount_47 ?_
      refine TT_iload_n hK rfl 0 rfl dX10_readCount_48 ?_
      refine TT_iconst hK dX10_readCount_49 ?_
      refine TT_icmp_eq hK (tgt := 65) (irm (by omega) (by omega)) (by decide) dX10_readCount_50 (by decide) (fun hb50_20 => ?_) (fun hb50_20 => ?_)
      · refine TT_aload_n hK rfl 2 rfl dX10_readCount_65 ?_
        refine TT_iconst hK dX10_readCount_66 ?_
        have e67 : ((g44_19 5) 3) = h 5 3 + 4 := by omega
        have e21_5_1 : g44_19 5 1 = (g44_19 5) 1 := rfl
        have e22_6 : g44_19 6 = h 6 := ((hG_19 6 (by decide))).trans (((hG_12 6 (by decide))).trans (hG_5 6 (by decide)))
        have e23_5_1 : g44_19 5 1 = (g44_19 5) 1 := rfl
        have e24_5_3 : g44_19 5 3 = (g44_19 5) 3 := rfl
        have e25_5_4 : g44_19 5 4 = (g44_19 5) 4 := rfl
        refine iv_X10_118 hK (s_takeBits5_e o9 5 g44_19 hT_19 (by first | omega | (simp [up, setR] <;> omega)) (by rewrite [e21_5_1, e22_6]; first | assumption | (intro j j0 j1; exact ho j j0 (by omega))) (by rewrite [e23_5_1, e24_5_3, e25_5_4]; first | omega | (simp [up, setR] <;> omega)) (by first | omega | (simp [up, setR] <;> omega))) (by decide) rfl ⟨by decide, by decide⟩ (by decide) rfl rfl (Nat.le_of_ble_eq_true rfl) ⟨by decide, by decide⟩ dX10_readCount_67 ?_
        intro r9 g67_26 hp9
        obtain ⟨⟨hT_26, hG_26⟩, z67_26, hr9, hz_26, tb_26, k5_26⟩ := hp9
        rw [hr9]
        have hF_26 : FR [5] h g67_26 := FR_tr hF_19 hG_26 (by decide)
        rw [show g44_19 5 3 = (g44_19 5) 3 from rfl] at tb_26
        rw [show g44_19 5 4 = (g44_19 5) 4 from rfl] at tb_26
        rw [show g44_19 5 1 = (g44_19 5) 1 from rfl] at k5_26
        rw [show g44_19 5 4 = (g44_19 5) 4 from rfl] at k5_26
        have tb_at67 := tb_26
        show TT K ly 0 0 70 [(2, vI z44_19), (1, vI z23_12), (0, vR 5)] [vI z67_26] g67_26
        have t67 := tb_at67
        rw [show (5 : Int).toNat = 5 from rfl, e67] at t67
        have tt67 := tb_24 o9 (h 5 3 + 4)
        refine TT_istore_n hK rfl (lv' := [(3, vI z67_26), (2, vI z44_19), (1, vI z23_12), (0, vR 5)]) (by decide) rfl dX10_readCount_70 ?_
        refine TT_iload_n hK rfl 0 rfl dX10_readCount_71 ?_
        refine TT_if_ge hK (tgt := 79) (irm (by omega) (by omega)) dX10_readCount_72 (by decide) (fun hb72_27 => ?_) (fun hb72_27 => ?_)
        · refine TT_bipush hK (by decide) dX10_readCount_79 ?_
          refine TT_iload_n hK rfl 0 rfl dX10_readCount_81 ?_
          refine TT_iadd hK dX10_readCount_82 ?_
          refine TT_iret hK hQ ?_ dX10_readCount_83
          have e28_5_3 : g67_26 5 3 = (g67_26 5) 3 := rfl
          have e29_5_1 : g67_26 5 1 = (g67_26 5) 1 := rfl
          have e30_5_3 : g67_26 5 3 = (g67_26 5) 3 := rfl
          have e31_5_4 : g67_26 5 4 = (g67_26 5) 4 := rfl
          exact ⟨⟨hT_26, hF_26⟩, (6 + z67_26), rfl, (by omega), (by rewrite [e28_5_3]; unfold ctS; first | (rw [if_pos (by omega)]; dsimp only; exact ⟨by omega, fun q => by omega⟩) | (rw [if_neg (by omega), if_pos (by omega)]; dsimp only; exact ⟨by omega, fun q => by omega⟩) | (rw [if_neg (by omega), if_neg (by omega), if_pos (by omega)]; dsimp only; exact ⟨by omega, fun q => by omega⟩) | (rw [if_neg (by omega), if_neg (by omega), if_neg (by omega), if_pos (by omega)]; dsimp only; exact ⟨by omega, fun q => by omega⟩) | (rw [if_neg (by omega), if_neg (by omega), if_neg (by omega), if_neg (by omega), if_pos (by omega)]; dsimp only; exact ⟨by omega, fun q => by omega⟩) | (rw [if_neg (by omega), if_neg (by omega), if_neg (by omega), if_neg (by omega), if_neg (by omega), if_pos (by omega)]; dsimp only; exact ⟨by omega, fun q => by omega⟩) | (rw [if_neg (by omega), if_neg (by omega), if_neg (by omega), if_neg (by omega), if_neg (by omega), if_neg (by omega), if_pos (by omega)]; dsimp only; exact ⟨by omega, fun q => by omega⟩) | (rw [if_neg (by omega), if_neg (by omega), if_neg (by omega), if_neg (by omega), if_neg (by omega), if_neg (by omega), if_neg (by omega)]; dsimp only; exact ⟨by omega, fun q => by omega⟩)), (by rewrite [e29_5_1, e30_5_3, e31_5_4]; omega)⟩
        · refine TT_iload_n hK rfl 0 rfl dX10_readCount_75 ?_
          refine TT_goto hK (tgt := 83) dX10_readCount_76 (by decide) ?_
          refine TT_iret hK hQ ?_ dX10_readCount_83
          have e32_5_3 : g67_26 5 3 = (g67_26 5) 3 := rfl
          have e33_5_1 : g67_26 5 1 = (g67_26 5) 1 := rfl
          have e34_5_3 : g67_26 5 3 = (g67_26 5) 3 := rfl
          have e35_5_4 : g67_26 5 4 = (g67_26 5) 4 := rfl
          exact ⟨⟨hT_26, hF_26⟩, z67_26, rfl, (by omega), (by rewrite [e32_5_3]; unfold ctS; first | (rw [if_pos (by omega)]; dsimp only; exact ⟨by omega, fun q => by omega⟩) | (rw [if_neg (by omega), if_pos (by omega)]; dsimp only; exact ⟨by omega, fun q => by omega⟩) | (rw [if_neg (by omega), if_neg (by omega), if_pos (by omega)]; dsimp only; exact ⟨by omega, fun q => by omega⟩) | (rw [if_neg (by omega), if_neg (by omega), if_neg (by omega), if_pos (by omega)]; dsimp only; exact ⟨by omega, fun q => by omega⟩) | (rw [if_neg (by omega), if_neg (by omega), if_neg (by omega), if_neg (by omega), if_pos (by omega)]; dsimp only; exact ⟨by omega, fun q => by omega⟩) | (rw [if_neg (by omega), if_neg (by omega), if_neg (by omega), if_neg (by omega), if_neg (by omega), if_pos (by omega)]; dsimp only; exact ⟨by omega, fun q => by omega⟩) | (rw [if_neg (by omega), if_neg (by omega), if_neg (by omega), if_neg (by omega), if_neg (by omega), if_neg (by omega), if_pos (by omega)]; dsimp only; exact ⟨by omega, fun q => by omega⟩) | (rw [if_neg (by omega), if_neg (by omega), if_neg (by omega), if_neg (by omega), if_neg (by omega), if_neg (by omega), if_neg (by omega)]; dsimp only; exact ⟨by omega, fun q => by omega⟩)), (by rewrite [e33_5_1, e34_5_3, e35_5_4]; omega)⟩
      · refine TT_iload_n hK rfl 0 rfl dX10_readCount_53 ?_
        refine TT_if_ge hK (tgt := 61) (irm (by omega) (by omega)) dX10_readCount_54 (by decide) (fun hb54_36 => ?_) (fun hb54_36 => ?_)
        · refine TT_iconst hK dX10_readCount_61 ?_
          refine TT_iload_n hK rfl 0 rfl dX10_readCount_62 ?_
          refine TT_iadd hK dX10_readCount_63 ?_
          refine TT_iret hK hQ ?_ dX10_readCount_64
          have e37_5_3 : g44_19 5 3 = (g44_19 5) 3 := rfl
          have e38_5_1 : g44_19 5 1 = (g44_19 5) 1 := rfl
          have e39_5_3 : g44_19 5 3 = (g44_19 5) 3 := rfl
          have e40_5_4 : g44_19 5 4 = (g44_19 5) 4 := rfl
          exact ⟨⟨hT_19, hF_19⟩, (3 + z44_19), rfl, (by omega), (by rewrite [e37_5_3]; unfold ctS; first | (rw [if_pos (by omega)]; dsimp only; exact ⟨by omega, fun q => by omega⟩) | (rw [if_neg (by omega), if_pos (by omega)]; dsimp only; exact ⟨by omega, fun q => by omega⟩) | (rw [if_neg (by omega), if_neg (by omega), if_pos (by omega)]; dsimp only; exact ⟨by omega, fun q => by omega⟩) | (rw [if_neg (by omega), if_neg (by omega), if_neg (by omega), if_pos (by omega)]; dsimp only; exact ⟨by omega, fun q => by omega⟩) | (rw [if_neg (by omega), if_neg (by omega), if_neg (by omega), if_neg (by omega), if_pos (by omega)]; dsimp only; exact ⟨by omega, fun q => by omega⟩) | (rw [if_neg (by omega), if_neg (by omega), if_neg (by omega), if_neg (by omega), if_neg (by omega), if_pos (by omega)]; dsimp only; exact ⟨by omega, fun q => by omega⟩) | (rw [if_neg (by omega), if_neg (by omega), if_neg (by omega), if_neg (by omega), if_neg (by omega), if_neg (by omega), if_pos (by omega)]; dsimp only; exact ⟨by omega, fun q => by omega⟩) | (rw [if_neg (by omega), if_neg (by omega), if_neg (by omega), if_neg (by omega), if_neg (by omega), if_neg (by omega), if_neg (by omega)]; dsimp only; exact ⟨by omega, fun q => by omega⟩)), (by rewrite [e38_5_1, e39_5_3, e40_5_4]; omega)⟩
        · refine TT_iload_n hK rfl 0 rfl dX10_readCount_57 ?_
          refine TT_goto hK (tgt := 64) dX10_readCount_58 (by decide) ?_
          refine TT_iret hK hQ ?_ dX10_readCount_64
          have e41_5_3 : g44_19 5 3 = (g44_19 5) 3 := rfl
          have e42_5_1 : g44_19 5 1 = (g44_19 5) 1 := rfl
          have e43_5_3 : g44_19 5 3 = (g44_19 5) 3 := rfl
          have e44_5_4 : g44_19 5 4 = (g44_19 5) 4 := rfl
          exact ⟨⟨hT_19, hF_19⟩, z44_19, rfl, (by omega), (by rewrite [e41_5_3]; unfold ctS; first | (rw [if_pos (by omega)]; dsimp only; exact ⟨by omega, fun q => by omega⟩) | (rw [if_neg (by omega), if_pos (by omega)]; dsimp only; exact ⟨by omega, fun q => by omega⟩) | (rw [if_neg (by omega), if_neg (by omega), if_pos (by omega)]; dsimp only; exact ⟨by omega, fun q => by omega⟩) | (rw [if_neg (by omega), if_neg (by omega), if_neg (by omega), if_pos (by omega)]; dsimp only; exact ⟨by omega, fun q => by omega⟩) | (rw [if_neg (by omega), if_neg (by omega), if_neg (by omega), if_neg (by omega), if_pos (by omega)]; dsimp only; exact ⟨by omega, fun q => by omega⟩) | (rw [if_neg (by omega), if_neg (by omega), if_neg (by omega), if_neg (by omega), if_neg (by omega), if_pos (by omega)]; dsimp only; exact ⟨by omega, fun q => by omega⟩) | (rw [if_neg (by omega), if_neg (by omega), if_neg (by omega), if_neg (by omega), if_neg (by omega), if_neg (by omega), if_pos (by omega)]; dsimp only; exact ⟨by omega, fun q => by omega⟩) | (rw [if_neg (by omega), if_neg (by omega), if_neg (by omega), if_neg (by omega), if_neg (by omega), if_neg (by omega), if_neg (by omega)]; dsimp only; exact ⟨by omega, fun q => by omega⟩)), (by rewrite [e42_5_1, e43_5_3, e44_5_4]; omega)⟩
    · refine TT_iload_n hK rfl 0 rfl dX10_readCount_32 ?_
      refine TT_if_ne hK (tgt := 40) (irm (by omega) (by omega)) dX10_readCount_33 (by decide) (fun hb33_45 => ?_) (fun hb33_45 => ?_)
      · refine TT_iload_n hK rfl 0 rfl dX10_readCount_40 ?_
        refine TT_iret hK hQ ?_ dX10_readCount_41
        have e46_5_3 : g23_12 5 3 = (g23_12 5) 3 := rfl
        have e47_5_1 : g23_12 5 1 = (g23_12 5) 1 := rfl
        have e48_5_3 : g23_12 5 3 = (g23_12 5) 3 := rfl
        have e49_5_4 : g23_12 5 4 = (g23_12 5) 4 := rfl
        exact ⟨⟨hT_12, hF_12⟩, z23_12, rfl, (by omega), (by rewrite [e46_5_3]; unfold ctS; first | (rw [if_pos (by omega)]; dsimp only; exact ⟨by omega, fun q => by omega⟩) | (rw [if_neg (by omega), if_pos (by omega)]; dsimp only; exact ⟨by omega, fun q => by omega⟩) | (rw [if_neg (by omega), if_neg (by omega), if_pos (by omega)]; dsimp only; exact ⟨by omega, fun q => by omega⟩) | (rw [if_neg (by omega), if_neg (by omega), if_neg (by omega), if_pos (by omega)]; dsimp only; exact ⟨by omega, fun q => by omega⟩) | (rw [if_neg (by omega), if_neg (by omega), if_neg (by omega), if_neg (by omega), if_pos (by omega)]; dsimp only; exact ⟨by omega, fun q => by omega⟩) | (rw [if_neg (by omega), if_neg (by omega), if_neg (by omega), if_neg (by omega), if_neg (by omega), if_pos (by omega)]; dsimp only; exact ⟨by omega, fun q => by omega⟩) | (rw [if_neg (by omega), if_neg (by omega), if_neg (by omega), if_neg (by omega), if_neg (by omega), if_neg (by omega), if_pos (by omega)]; dsimp only; exact ⟨by omega, fun q => by omega⟩) | (rw [if_neg (by omega), if_neg (by omega), if_neg (by omega), if_neg (by omega), if_neg (by omega), if_neg (by omega), if_neg (by omega)]; dsimp only; exact ⟨by omega, fun q => by omega⟩)), (by rewrite [e47_5_1, e48_5_3, e49_5_4]; omega)⟩
      · refine TT_iconst hK dX10_readCount_36 ?_
        refine TT_goto hK (tgt := 41) dX10_readCount_37 (by decide) ?_
        refine TT_iret hK hQ ?_ dX10_readCount_41
        have e50_5_3 : g23_12 5 3 = (g23_12 5) 3 := rfl
        have e51_5_1 : g23_12 5 1 = (g23_12 5) 1 := rfl
        have e52_5_3 : g23_12 5 3 = (g23_12 5) 3 := rfl
        have e53_5_4 : g23_12 5 4 = (g23_12 5) 4 := rfl
        exact ⟨⟨hT_12, hF_12⟩, 2, rfl, (by omega), (by rewrite [e50_5_3]; unfold ctS; first | (rw [if_pos (by omega)]; dsimp only; exact ⟨by omega, fun q => by omega⟩) | (rw [if_neg (by omega), if_pos (by omega)]; dsimp only; exact ⟨by omega, fun q => by omega⟩) | (rw [if_neg (by omega), if_neg (by omega), if_pos (by omega)]; dsimp only; exact ⟨by omega, fun q => by omega⟩) | (rw [if_neg (by omega), if_neg (by omega), if_neg (by omega), if_pos (by omega)]; dsimp only; exact ⟨by omega, fun q => by omega⟩) | (rw [if_neg (by omega), if_neg (by omega), if_neg (by omega), if_neg (by omega), if_pos (by omega)]; dsimp only; exact ⟨by omega, fun q => by omega⟩) | (rw [if_neg (by omega), if_neg (by omega), if_neg (by omega), if_neg (by omega), if_neg (by omega), if_pos (by omega)]; dsimp only; exact ⟨by omega, fun q => by omega⟩) | (rw [if_neg (by omega), if_neg (by omega), if_neg (by omega), if_neg (by omega), if_neg (by omega), if_neg (by omega), if_pos (by omega)]; dsimp only; exact ⟨by omega, fun q => by omega⟩) | (rw [if_neg (by omega), if_neg (by omega), if_neg (by omega), if_neg (by omega), if_neg (by omega), if_neg (by omega), if_neg (by omega)]; dsimp only; exact ⟨by omega, fun q => by omega⟩)), (by rewrite [e51_5_1, e52_5_3, e53_5_4]; omega)⟩
  · refine TT_iload_n hK rfl 0 rfl dX10_readCount_11 ?_
    refine TT_if_ne hK (tgt := 19) (irm (by omega) (by omega)) dX10_readCount_12 (by decide) (fun hb12_54 => ?_) (fun hb12_54 => ?_)
    · refine TT_iload_n hK rfl 0 rfl dX10_readCount_19 ?_
      refine TT_iret hK hQ ?_ dX10_readCount_20
      have e55_5_3 : g2_5 5 3 = (g2_5 5) 3 := rfl
      have e56_5_1 : g2_5 5 1 = (g2_5 5) 1 := rfl
      have e57_5_3 : g2_5 5 3 = (g2_5 5) 3 := rfl
      have e58_5_4 : g2_5 5 4 = (g2_5 5) 4 := rfl
      exact ⟨⟨hT_5, hF_5⟩, z2_5, rfl, (by omega), (by rewrite [e55_5_3]; unfold ctS; first | (rw [if_pos (by omega)]; dsimp only; exact ⟨by omega, fun q => by omega⟩) | (rw [if_neg (by omega), if_pos (by omega)]; dsimp only; exact ⟨by omega, fun q => by omega⟩) | (rw [if_neg (by omega), if_neg (by omega), if_pos (by omega)]; dsimp only; exact ⟨by omega, fun q => by omega⟩) | (rw [if_neg (by omega), if_neg (by omega), if_neg (by omega), if_pos (by omega)]; dsimp only; exact ⟨by omega, fun q => by omega⟩) | (rw [if_neg (by omega), if_neg (by omega), if_neg (by omega), if_neg (by omega), if_pos (by omega)]; dsimp only; exact ⟨by omega, fun q => by omega⟩) | (rw [if_neg (by omega), if_neg (by omega), if_neg (by omega), if_neg (by omega), if_neg (by omega), if_pos (by omega)]; dsimp only; exact ⟨by omega, fun q => by omega⟩) | (rw [if_neg (by omega), if_neg (by omega), if_neg (by omega), if_neg (by omega), if_neg (by omega), if_neg (by omega), if_pos (by omega)]; dsimp only; exact ⟨by omega, fun q => by omega⟩) | (rw [if_neg (by omega), if_neg (by omega), if_neg (by omega), if_neg (by omega), if_neg (by omega), if_neg (by omega), if_neg (by omega)]; dsimp only; exact ⟨by omega, fun q => by omega⟩)), (by rewrite [e56_5_1, e57_5_3, e58_5_4]; omega)⟩
    · refine TT_iconst hK dX10_readCount_15 ?_
      refine TT_goto hK (tgt := 20) dX10_readCount_16 (by decide) ?_
      refine TT_iret hK hQ ?_ dX10_readCount_20
      have e59_5_3 : g2_5 5 3 = (g2_5 5) 3 := rfl
      have e60_5_1 : g2_5 5 1 = (g2_5 5) 1 := rfl
      have e61_5_3 : g2_5 5 3 = (g2_5 5) 3 := rfl
      have e62_5_4 : g2_5 5 4 = (g2_5 5) 4 := rfl
      exact ⟨⟨hT_5, hF_5⟩, 1, rfl, (by omega), (by rewrite [e59_5_3]; unfold ctS; first | (rw [if_pos (by omega)]; dsimp only; exact ⟨by omega, fun q => by omega⟩) | (rw [if_neg (by omega), if_pos (by omega)]; dsimp only; exact ⟨by omega, fun q => by omega⟩) | (rw [if_neg (by omega), if_neg (by omega), if_pos (by omega)]; dsimp only; exact ⟨by omega, fun q => by omega⟩) | (rw [if_neg (by omega), if_neg (by omega), if_neg (by omega), if_pos (by omega)]; dsimp only; exact ⟨by omega, fun q => by omega⟩) | (rw [if_neg (by omega), if_neg (by omega), if_neg (by omega), if_neg (by omega), if_pos (by omega)]; dsimp only; exact ⟨by omega, fun q => by omega⟩) | (rw [if_neg (by omega), if_neg (by omega), if_neg (by omega), if_neg (by omega), if_neg (by omega), if_pos (by omega)]; dsimp only; exact ⟨by omega, fun q => by omega⟩) | (rw [if_neg (by omega), if_neg (by omega), if_neg (by omega), if_neg (by omega), if_neg (by omega), if_neg (by omega), if_pos (by omega)]; dsimp only; exact ⟨by omega, fun q => by omega⟩) | (rw [if_neg (by omega), if_neg (by omega), if_neg (by omega), if_neg (by omega), if_neg (by omega), if_neg (by omega), if_neg (by omega)]; dsimp only; exact ⟨by omega, fun q => by omega⟩)), (by rewrite [e60_5_1, e61_5_3, e62_5_4]; omega)⟩
set_option maxRecDepth 20000 in
theorem s_growWidth_e (o9 : Int → Int) (b : Int) (h : Hp_) (hT : TY h) (hb : 0 ≤ b ∧ b ≤ 9) (ho : ∀ j : Int, 0 ≤ j → j < (h 5 1) → (h 6) j = o9 j) (hp : (0 ≤ (h 5 3) ∧ (h 5 3) ≤ (h 5 4)) ∧ (h 5 4) ≤ 8 * (h 5 1)) (hw : 0 ≤ (h 55) b ∧ (h 55) b ≤ 10000) (h51 : (h 5 4) ≤ 8192) : Ctr yX10_growWidth cX10_growWidth 4 none (rmd 2) ly ly 0 0 [vR 44, vR 5, vI b] h (fun r h' => (TY h' ∧ FR [5, 55] h h') ∧ r = none ∧ ((h' 55) = fup (h 55) b ((h 55) b + gnS o9 (h 5 4) (h 5 3)) ∧ (h' 5 3) = gpS o9 (h 5 4) (h 5 3)) ∧ ((h' 5 4) = (h 5 4) ∧ (h' 5 1) = (h 5 1))) := by
  refine Ctr_of (by decide) (Nat.le_of_ble_eq_true rfl) ⟨Nat.le_refl _, Nat.le_refl _⟩ (fun K hK hQ _ => ?_)
  show TT K ly 0 0 0 [(0, vR 44), (1, vR 5), (2, vI b)] [] h
  have hF : FR [5, 55] h h := FR_rf _ _
  refine TT_iconst hK dX10_growWidth_0 ?_
  refine TT_istore_n hK rfl (lv' := [(3, vI 0), (0, vR 44), (1, vR 5), (2, vI b)]) (by decide) rfl dX10_growWidth_1 ?_
  have L2_1 : ∀ (k1 : Nat) (i : Int) (w2_1 : Hp_), TY w2_1 → FR [5, 55] h w2_1 → (0 ≤ i ∧ i ≤ 8192) → ((w2_1 55) = fup (h 55) b (h 55 b + i)) → ((w2_1 5 3) = h 5 3 + i ∧ (w2_1 5 3) ≤ h 5 4) → ((w2_1 5 4) = h 5 4 ∧ (w2_1 5 1) = h 5 1) → (∀ j : Int, 0 ≤ j → j < i → bitO o9 (h 5 3 + j) = 1) → ((8192 : Int) - i).toNat < k1 → TT K ly 0 0 2 [(0, vR 44), (1, vR 5), (2, vI b), (3, vI i)] [] w2_1 := by
    intro k1
    induction k1 with
    | zero => intro i w2_1 hT2_1 hF2_1 hi k55 k53 k54 hbi hk1; exact absurd hk1 (Nat.not_lt_zero _)
    | succ k1 ih1 =>
      intro i w2_1 hT2_1 hF2_1 hi k55 k53 k54 hbi hk1
      refine TT_iload_n hK rfl 3 rfl dX10_growWidth_2 ?_
      refine TT_sipush hK (by decide) dX10_growWidth_3 ?_
      refine TT_icmp_ge hK (tgt := 34) (irm (by omega) (by omega)) (by decide) dX10_growWidth_6 (by decide) (fun hb6_2 => ?_) (fun hb6_2 => ?_)
      · refine TT_vret hK hQ ?_ dX10_growWidth_34
        have e3_5_3 : w2_1 5 3 = (w2_1 5) 3 := rfl
        have e4_5_1 : w2_1 5 1 = (w2_1 5) 1 := rfl
        have e5_5_4 : w2_1 5 4 = (w2_1 5) 4 := rfl
        exact ⟨⟨hT2_1, hF2_1⟩, rfl, (by rewrite [e3_5_3]; have g9 : i = gnS o9 (h 5 4) (h 5 3) := gnS_u (by omega) (by omega) hbi (by by_cases y9 : h 5 3 + i = h 5 4; exact Or.inl y9; (refine Or.inr ?_; rw [← tbS_1]; omega)); exact ⟨by rw [k55, ← g9], by unfold gpS; rw [← g9]; by_cases y8 : h 5 3 + i < h 5 4; (rw [if_pos y8]; omega); (rw [if_neg y8]; omega)⟩), (by rewrite [e4_5_1, e5_5_4]; omega)⟩
      · refine TT_aload_n hK rfl 1 rfl dX10_growWidth_9 ?_
        refine TT_iconst hK dX10_growWidth_10 ?_
        have e11 : ((w2_1 5) 3) = h 5 3 + i := by omega
        have e6_5_1 : w2_1 5 1 = (w2_1 5) 1 := rfl
        have e7_6 : w2_1 6 = h 6 := (hF2_1 6 (by decide))
        have e8_5_1 : w2_1 5 1 = (w2_1 5) 1 := rfl
        have e9_5_3 : w2_1 5 3 = (w2_1 5) 3 := rfl
        have e10_5_4 : w2_1 5 4 = (w2_1 5) 4 := rfl
        refine iv_X10_118 hK (s_takeBits5_e o9 1 w2_1 hT2_1 (by first | omega | (simp [up, setR] <;> omega)) (by rewrite [e6_5_1, e7_6]; first | assumption | (intro j j0 j1; exact ho j j0 (by omega))) (by rewrite [e8_5_1, e9_5_3, e10_5_4]; first | omega | (simp [up, setR] <;> omega)) (by first | omega | (simp [up, setR] <;> omega))) (by decide) rfl ⟨by decide, by decide⟩ (by decide) rfl rfl (Nat.le_of_ble_eq_true rfl) ⟨by decide, by decide⟩ dX10_growWidth_11 ?_
        intro r9 g11_11 hp9
        obtain ⟨⟨hT_11, hG_11⟩, z11_11, hr9, hz_11, tb_11, k5_11⟩ := hp9
        rw [hr9]
        have hF_11 : FR [5, 55] h g11_11 := FR_tr hF2_1 hG_11 (by decide)
        rw [show w2_1 5 3 = (w2_1 5) 3 from rfl] at tb_11
        rw [show w2_1 5 4 = (w2_1 5) 4 from rfl] at tb_11
        rw [show w2_1 5 1 = (w2_1 5) 1 from rfl] at k5_11
        rw [show w2_1 5 4 = (w2_1 5) 4 from rfl] at k5_11
        have tb_at11 := tb_11
        show TT K ly 0 0 14 [(0, vR 44), (1, vR 5), (2, vI b), (3, vI i)] [vI z11_11] g11_11
        have t11 := tb_at11
        rw [show (1 : Int).toNat = 1 from rfl, e11] at t11
        have tt11 := tb_24 o9 (h 5 3 + i)
        refine TT_iconst hK dX10_growWidth_14 ?_
        refine TT_icmp_ne hK (tgt := 34) (irm (by omega) (by omega)) (by decide) dX10_growWidth_15 (by decide) (fun hb15_12 => ?_) (fun hb15_12 => ?_)
        · refine TT_vret hK hQ ?_ dX10_growWidth_34
          have e13_5_3 : g11_11 5 3 = (g11_11 5) 3 := rfl
          have e14_55 : g11_11 55 = w2_1 55 := (hG_11 55 (by decide))
          have e15_5_1 : g11_11 5 1 = (g11_11 5) 1 := rfl
          have e16_5_4 : g11_11 5 4 = (g11_11 5) 4 := rfl
          exact ⟨⟨hT_11, hF_11⟩, rfl, (by rewrite [e13_5_3, e14_55]; have g9 : i = gnS o9 (h 5 4) (h 5 3) := gnS_u (by omega) (by omega) hbi (by by_cases y9 : h 5 3 + i = h 5 4; exact Or.inl y9; (refine Or.inr ?_; rw [← tbS_1]; omega)); exact ⟨by rw [k55, ← g9], by unfold gpS; rw [← g9]; by_cases y8 : h 5 3 + i < h 5 4; (rw [if_pos y8]; omega); (rw [if_neg y8]; omega)⟩), (by rewrite [e15_5_1, e16_5_4]; omega)⟩
        · refine TT_aload_n hK rfl 0 rfl dX10_growWidth_18 ?_
          refine gf_X10_25 hK (by decide) rfl (q := 55) rfl rfl dX10_growWidth_19 ?_
          refine TT_iload_n hK rfl 2 rfl dX10_growWidth_22 ?_
          refine TT_dup2 hK rfl rfl dX10_growWidth_23 ?_
          refine TT_iald hK (o := 55) (n := 10) (by decide) rfl (by first | omega | (simp [up, setR] <;> omega)) (by first | omega | (simp [up, setR] <;> omega)) (v := (w2_1 55) b) (rd_ (hG_11 55 (by decide)) rfl) dX10_growWidth_24 ?_
          have r17 := ty_55 (i := b) (v := (w2_1 55) b) hT_11 (rd_ (hG_11 55 (by decide)) rfl) (by omega) (by omega)
          refine TT_cgI (b := h 55 b + i) (by rw [k55]; exact fup_eq _ _ _) ?_
          refine TT_iconst hK dX10_growWidth_25 ?_
          refine TT_iadd hK dX10_growWidth_26 ?_
          refine TT_iast hK (o := 55) (n := 10) (by decide) rfl (by omega) (by omega) dX10_growWidth_27 ?_
          refine TT_hp (h' := setO g11_11 55 (fup (w2_1 55) b ((h 55 b + i) + 1))) (up_can (hG_11 55 (by decide)) rfl rfl) ?_
          have hT_18 : TY (setO g11_11 55 (fup (w2_1 55) b ((h 55 b + i) + 1))) := tu_55 hT_11 (show up g11_11 55 b ((h 55 b + i) + 1) = (setO g11_11 55 (fup (w2_1 55) b ((h 55 b + i) + 1))) from up_can (hG_11 55 (by decide)) rfl rfl) (by omega)
          have hF_18 : FR [5, 55] h (setO g11_11 55 (fup (w2_1 55) b ((h 55 b + i) + 1))) := FR_up (show up g11_11 55 b ((h 55 b + i) + 1) = (setO g11_11 55 (fup (w2_1 55) b ((h 55 b + i) + 1))) from up_can (hG_11 55 (by decide)) rfl rfl) hF_11 (by decide)
          refine TT_iinc hK (v := i + 1) (lv' := [(3, vI (i + 1)), (0, vR 44), (1, vR 5), (2, vI b)]) 3 rfl rfl (by decide) rfl dX10_growWidth_28 ?_
          refine TT_goto hK (tgt := 2) dX10_growWidth_31 (by decide) ?_
          refine TT_sub [1, 2, 3, 0] rfl ?_
          have e19_55 : (setO g11_11 55 (fup (w2_1 55) b ((h 55 b + i) + 1))) 55 = fup (w2_1 55) b ((h 55 b + i) + 1) := sOf_eq _ _ _
          have e20_5_3 : (setO g11_11 55 (fup (w2_1 55) b ((h 55 b + i) + 1))) 5 3 = (g11_11 5) 3 := rd_ (sOf_ne _ _ (by decide)) rfl
          have e21_5_1 : (setO g11_11 55 (fup (w2_1 55) b ((h 55 b + i) + 1))) 5 1 = (g11_11 5) 1 := rd_ (sOf_ne _ _ (by decide)) rfl
          have e22_5_4 : (setO g11_11 55 (fup (w2_1 55) b ((h 55 b + i) + 1))) 5 4 = (g11_11 5) 4 := rd_ (sOf_ne _ _ (by decide)) rfl
          exact ih1 (i + 1) (setO g11_11 55 (fup (w2_1 55) b ((h 55 b + i) + 1))) hT_18 hF_18 (by first | omega | (simp [up, setR] <;> omega)) (by rewrite [e19_55]; rw [k55, fup_same, Int.add_assoc]) (by rewrite [e20_5_3]; first | omega | (simp [up, setR] <;> omega)) (by rewrite [e21_5_1, e22_5_4]; first | omega | (simp [up, setR] <;> omega)) (by intro j j0 j1; by_cases e : j = i; (rw [e, ← tbS_1]; omega); exact hbi j j0 (by omega)) (by first | omega | (simp [up, setR] <;> omega))
  refine TT_sub [1, 2, 3, 0] rfl ?_
  have e23_5_3 : h 5 3 = (h 5) 3 := rfl
  have e24_5_1 : h 5 1 = (h 5) 1 := rfl
  have e25_5_4 : h 5 4 = (h 5) 4 := rfl
  exact L2_1 ((((8192 : Int) - 0).toNat) + 1) 0 h hT hF (by first | omega | (simp [up, setR] <;> omega)) (by rw [Int.add_zero]; exact fup_fs.symm) (by rewrite [e23_5_3]; first | omega | (simp [up, setR] <;> omega)) (by rewrite [e24_5_1, e25_5_4]; first | omega | (simp [up, setR] <;> omega)) (by intro j j0 j1; exfalso; omega) (Nat.lt_succ_self _)
set_option maxRecDepth 20000 in
theorem s_readBandHead_e (o9 : Int → Int) (b : Int) (h : Hp_) (hT : TY h) (hb : 0 ≤ b ∧ b ≤ 9) (ho : ∀ j : Int, 0 ≤ j → j < (h 5 1) → (h 6) j = o9 j) (hp : (0 ≤ (h 5 3) ∧ (h 5 3) ≤ (h 5 4)) ∧ (h 5 4) ≤ 8 * (h 5 1)) (hw : 3 ≤ (h 55) b ∧ (h 55) b ≤ 3 + (h 5 3)) (h51 : (h 5 4) ≤ 8192) (htk : 0 ≤ (h 54) b ∧ (h 54) b ≤ 34) (h560 : (h 56) b = 0 ∧ (h 57) b = 0) : Ctr yX10_readBandHead cX10_readBandHead 6 (some .int) (rmd 3) ly ly 0 0 [vR 44, vR 5, vI b] h (fun r h' => (TY h' ∧ FR [5, 53, 55, 56, 57] h h') ∧ ∃ z : Int, r = some (vI z) ∧ (-1 ≤ z ∧ z ≤ 1) ∧ (z = (hbS o9 (h 5 4) (h 5 3) ((h 53) b) ((h 54) b) ((h 55) b)).1) ∧ (z = 0 → (h' 5 3) = (hbS o9 (h 5 4) (h 5 3) ((h 53) b) ((h 54) b) ((h 55) b)).2.2.2.1 ∧ (h' 53) b = (hbS o9 (h 5 4) (h 5 3) ((h 53) b) ((h 54) b) ((h 55) b)).2.2.2.2.1 ∧ (h' 55) b = (hbS o9 (h 5 4) (h 5 3) ((h 53) b) ((h 54) b) ((h 55) b)).2.2.2.2.2 ∧ (h' 56) b = (hbS o9 (h 5 4) (h 5 3) ((h 53) b) ((h 54) b) ((h 55) b)).2.1 ∧ (h' 57) b = (hbS o9 (h 5 4) (h 5 3) ((h 53) b) ((h 54) b) ((h 55) b)).2.2.1) ∧ (∀ j : Int, j ≠ b → (h' 53) j = (h 53) j ∧ (h' 55) j = (h 55) j ∧ (h' 56) j = (h 56) j ∧ (h' 57) j = (h 57) j) ∧ (((h' 5 4) = (h 5 4) ∧ (h' 5 1) = (h 5 1)) ∧ ((h 5 3) ≤ (h' 5 3) ∧ (h' 5 3) ≤ (h 5 4)) ∧ (3 ≤ (h' 55) b ∧ (h' 55) b ≤ 3 + (h' 5 3)))) := by
  refine Ctr_of (by decide) (Nat.le_of_ble_eq_true rfl) ⟨Nat.le_refl _, Nat.le_refl _⟩ (fun K hK hQ _ => ?_)
  show TT K ly 0 0 0 [(0, vR 44), (1, vR 5), (2, vI b)] [] h
  have hF : FR [5, 53, 55, 56, 57] h h := FR_rf _ _
  have r53 := ty_53 (i := b) (v := h 53 b) hT rfl (by omega) (by omega)
  refine TT_aload_n hK rfl 1 rfl dX10_readBandHead_0 ?_
  refine TT_iconst hK dX10_readBandHead_1 ?_
  have e2 : ((h 5) 3) = h 5 3 := by omega
  have e1_5_1 : h 5 1 = (h 5) 1 := rfl
  have e2_5_1 : h 5 1 = (h 5) 1 := rfl
  have e3_5_3 : h 5 3 = (h 5) 3 := rfl
  have e4_5_4 : h 5 4 = (h 5) 4 := rfl
  refine iv_X10_118 hK (s_takeBits5_e o9 1 h hT (by first | omega | (simp [up, setR] <;> omega)) (by rewrite [e1_5_1]; first | assumption | (intro j j0 j1; exact ho j j0 (by omega))) (by rewrite [e2_5_1, e3_5_3, e4_5_4]; first | omega | (simp [up, setR] <;> omega)) (by first | omega | (simp [up, setR] <;> omega))) (by decide) rfl ⟨by decide, by decide⟩ (by decide) rfl rfl (Nat.le_of_ble_eq_true rfl) ⟨by decide, by decide⟩ dX10_readBandHead_2 ?_
  intro r9 g2_5 hp9
  obtain ⟨⟨hT_5, hG_5⟩, z2_5, hr9, hz_5, tb_5, k5_5⟩ := hp9
  rw [hr9]
  have hF_5 : FR [5, 53, 55, 56, 57] h g2_5 := FR_tr hF hG_5 (by decide)
  rw [show h 5 3 = (h 5) 3 from rfl] at tb_5
  rw [show h 5 4 = (h 5) 4 from rfl] at tb_5
  rw [show h 5 1 = (h 5) 1 from rfl] at k5_5
  rw [show h 5 4 = (h 5) 4 from rfl] at k5_5
  have tb_at2 := tb_5
  show TT K ly 0 0 5 [(0, vR 44), (1, vR 5), (2, vI b)] [vI z2_5] g2_5
  have t2 := tb_at2
  rw [show (1 : Int).toNat = 1 from rfl, e2] at t2
  have tt2 := tb_24 o9 (h 5 3)
  refine TT_istore_n hK rfl (lv' := [(3, vI z2_5), (0, vR 44), (1, vR 5), (2, vI b)]) (by decide) rfl dX10_readBandHead_5 ?_
  refine TT_iload_n hK rfl 0 rfl dX10_readBandHead_6 ?_
  refine TT_iconst hK dX10_readBandHead_7 ?_
  refine TT_icmp_eq hK (tgt := 21) (irm (by omega) (by omega)) (by decide) dX10_readBandHead_8 (by decide) (fun hb8_6 => ?_) (fun hb8_6 => ?_)
  · have J66_7 : ∀ (q9 : Int) (pl9 : Int) (w66_7 : Hp_), TY w66_7 → FR [5, 53, 55, 56, 57] h w66_7 → ((w66_7 5 3) = q9) → ((w66_7 53) b = pl9) → ((hbS o9 (h 5 4) (h 5 3) (h 53 b) (h 54 b) (h 55 b)) = hcS o9 (h 5 4) q9 pl9 (h 54 b) (h 55 b)) → ((h 5 3 ≤ q9 ∧ q9 ≤ h 5 4) ∧ 0 ≤ pl9) → ((w66_7 5 4) = h 5 4 ∧ (w66_7 5 1) = h 5 1) → ((w66_7 55) = h 55) → ((w66_7 56) = h 56) → ((w66_7 57) = h 57) → (∀ j : Int, j ≠ b → (w66_7 53) j = h 53 j) → TT K ly 0 0 66 [(0, vR 44), (1, vR 5), (2, vI b)] [] w66_7 := by
      intro q9 pl9 w66_7 hT66_7 hF66_7 hq9 hpl hH hPP k54 k55 k56 k57 k53
      refine TT_aload_n hK rfl 1 rfl dX10_readBandHead_66 ?_
      have e8_5_1 : w66_7 5 1 = (w66_7 5) 1 := rfl
      have e9_6 : w66_7 6 = h 6 := (hF66_7 6 (by decide))
      have e10_5_1 : w66_7 5 1 = (w66_7 5) 1 := rfl
      have e11_5_3 : w66_7 5 3 = (w66_7 5) 3 := rfl
      have e12_5_4 : w66_7 5 4 = (w66_7 5) 4 := rfl
      refine iv_X10_127 hK (s_readCount5_e o9 w66_7 hT66_7 (by rewrite [e8_5_1, e9_6]; first | assumption | (intro j j0 j1; exact ho j j0 (by omega))) (by rewrite [e10_5_1, e11_5_3, e12_5_4]; first | omega | (simp [up, setR] <;> omega))) ⟨by decide, by decide⟩ (by decide) rfl rfl (Nat.le_of_ble_eq_true rfl) ⟨by decide, by decide⟩ dX10_readBandHead_67 ?_
      intro r9 g67_13 hp9
      obtain ⟨⟨hT_13, hG_13⟩, z67_13, hr9, hz_13, ct_13, k5_13⟩ := hp9
      rw [hr9]
      have hF_13 : FR [5, 53, 55, 56, 57] h g67_13 := FR_tr hF66_7 hG_13 (by decide)
      rw [show w66_7 5 3 = (w66_7 5) 3 from rfl] at ct_13
      rw [show w66_7 5 4 = (w66_7 5) 4 from rfl] at ct_13
      rw [show w66_7 5 1 = (w66_7 5) 1 from rfl] at k5_13
      rw [show w66_7 5 3 = (w66_7 5) 3 from rfl] at k5_13
      rw [show w66_7 5 4 = (w66_7 5) 4 from rfl] at k5_13
      have ct_at67 := ct_13
      show TT K ly 0 0 70 [(0, vR 44), (1, vR 5), (2, vI b)] [vI z67_13] g67_13
      have c9 := ct_at67
      rw [k54.1, hq9] at c9
      have cr9 := ctS_r o9 (h 5 4) q9
      refine TT_istore hK (lv' := [(4, vI z67_13), (0, vR 44), (1, vR 5), (2, vI b)]) (by decide) rfl dX10_readBandHead_70 ?_
      refine TT_iload hK 0 rfl dX10_readBandHead_72 ?_
      refine TT_if_ge hK (tgt := 79) (irm (by omega) (by omega)) dX10_readBandHead_74 (by decide) (fun hb74_14 => ?_) (fun hb74_14 => ?_)
      · refine TT_aload_n hK rfl 1 rfl dX10_readBandHead_79 ?_
        refine gf_X10_22 hK (by decide) rfl (q := 54) rfl rfl dX10_readBandHead_80 ?_
        refine TT_iload_n hK rfl 3 rfl dX10_readBandHead_83 ?_
        refine TT_iald hK (o := 54) (n := 10) (by decide) rfl (by first | omega | (simp [up, setR] <;> omega)) (by first | omega | (simp [up, setR] <;> omega)) (v := (h 54) b) (rd_ (((hG_13 54 (by decide))).trans (hF66_7 54 (by decide))) rfl) dX10_readBandHead_84 ?_
        have r15 := ty_54 (i := b) (v := (h 54) b) hT_13 (rd_ (((hG_13 54 (by decide))).trans (hF66_7 54 (by decide))) rfl) (by omega) (by omega)
        refine TT_iload hK 0 rfl dX10_readBandHead_85 ?_
        refine TT_iadd hK dX10_readBandHead_87 ?_
        refine TT_aload_n hK rfl 1 rfl dX10_readBandHead_88 ?_
        refine gf_X10_18 hK (by decide) rfl (q := 53) rfl rfl dX10_readBandHead_89 ?_
        refine TT_iload_n hK rfl 3 rfl dX10_readBandHead_92 ?_
        refine TT_iald hK (o := 53) (n := 10) (by decide) rfl (by first | omega | (simp [up, setR] <;> omega)) (by first | omega | (simp [up, setR] <;> omega)) (v := (w66_7 53) b) (rd_ (hG_13 53 (by decide)) rfl) dX10_readBandHead_93 ?_
        have r16 := ty_53 (i := b) (v := (w66_7 53) b) hT_13 (rd_ (hG_13 53 (by decide)) rfl) (by omega) (by omega)
        refine iv_X10_131 hK (s_cpassesOf_e ((w66_7 53) b) g67_13 hT_13 (by first | omega | (simp [up, setR] <;> omega))) ⟨by decide, by decide⟩ (by decide) rfl rfl (Nat.le_of_ble_eq_true rfl) ⟨by decide, by decide⟩ dX10_readBandHead_94 ?_
        intro r9 g94_17 hp9
        obtain ⟨⟨hT_17, hG_17⟩, z94_17, hr9, hz_17, e_17⟩ := hp9
        rw [hr9]
        have hF_17 : FR [5, 53, 55, 56, 57] h g94_17 := FR_tr hF_13 hG_17 (by decide)
        have e_at94 := e_17
        show TT K ly 0 0 97 [(4, vI z67_13), (0, vR 44), (1, vR 5), (2, vI b)] [vI z94_17, vI (((h 54) b) + z67_13)] g94_17
        have e94 := e_at94
        rw [hpl] at e94
        refine TT_icmp_le hK (tgt := 102) (irm (by omega) (by omega)) (irm (by omega) (by omega)) dX10_readBandHead_97 (by decide) (fun hb97_18 => ?_) (fun hb97_18 => ?_)
        · refine TT_aload_n hK rfl 1 rfl dX10_readBandHead_102 ?_
          refine TT_aload_n hK rfl 2 rfl dX10_readBandHead_103 ?_
          refine TT_iload_n hK rfl 3 rfl dX10_readBandHead_104 ?_
          have x54 : (g67_13 5) 4 = h 5 4 := by omega
          have x53 : (g67_13 5) 3 = (ctS o9 (h 5 4) q9).2 := by omega
          have e19_5_1 : g94_17 5 1 = (g67_13 5) 1 := rd_ (hG_17 5 (by decide)) rfl
          have e20_6 : g94_17 6 = h 6 := ((hG_17 6 (by decide))).trans (((hG_13 6 (by decide))).trans (hF66_7 6 (by decide)))
          have e21_5_1 : g94_17 5 1 = (g67_13 5) 1 := rd_ (hG_17 5 (by decide)) rfl
          have e22_5_3 : g94_17 5 3 = (g67_13 5) 3 := rd_ (hG_17 5 (by decide)) rfl
          have e23_5_4 : g94_17 5 4 = (g67_13 5) 4 := rd_ (hG_17 5 (by decide)) rfl
          have e24_55 : g94_17 55 = w66_7 55 := ((hG_17 55 (by decide))).trans (hG_13 55 (by decide))
          have e25_5_4 : g94_17 5 4 = (g67_13 5) 4 := rd_ (hG_17 5 (by decide)) rfl
          refine iv_X10_134 hK (s_growWidth_e o9 b g94_17 hT_17 (by first | omega | (simp [up, setR] <;> omega)) (by rewrite [e19_5_1, e20_6]; first | assumption | (intro j j0 j1; exact ho j j0 (by omega))) (by rewrite [e21_5_1, e22_5_3, e23_5_4]; first | omega | (simp [up, setR] <;> omega)) (by rewrite [e24_55]; rw [k55]; omega) (by rewrite [e25_5_4]; first | omega | (simp [up, setR] <;> omega))) (by decide) rfl ⟨by decide, by decide⟩ (by decide) rfl rfl (Nat.le_of_ble_eq_true rfl) ⟨by decide, by decide⟩ dX10_readBandHead_105 ?_
          intro r9 g105_26 hp9
          obtain ⟨⟨hT_26, hG_26⟩, hr9, gw_26, k5_26⟩ := hp9
          rw [hr9]
          have hF_26 : FR [5, 53, 55, 56, 57] h g105_26 := FR_tr hF_17 hG_26 (by decide)
          rw [show g94_17 5 3 = (g67_13 5) 3 from rd_ (hG_17 5 (by decide)) rfl] at gw_26
          rw [show g94_17 5 4 = (g67_13 5) 4 from rd_ (hG_17 5 (by decide)) rfl] at gw_26
          rw [show g94_17 55 = w66_7 55 from ((hG_17 55 (by decide))).trans (hG_13 55 (by decide))] at gw_26
          rw [show g94_17 5 1 = (g67_13 5) 1 from rd_ (hG_17 5 (by decide)) rfl] at k5_26
          rw [show g94_17 5 4 = (g67_13 5) 4 from rd_ (hG_17 5 (by decide)) rfl] at k5_26
          have gw_at105 := gw_26
          show TT K ly 0 0 108 [(4, vI z67_13), (0, vR 44), (1, vR 5), (2, vI b)] [] g105_26
          have g9 := gw_at105
          rw [x54, x53, k55] at g9
          have gr9 := gnS_r (o := o9) (e := h 5 4) (p := (ctS o9 (h 5 4) q9).2) (by omega)
          have gp9 : (ctS o9 (h 5 4) q9).2 + (gnS o9 (h 5 4) (ctS o9 (h 5 4) q9).2) ≤ (gpS o9 (h 5 4) (ctS o9 (h 5 4) q9).2) ∧ (gpS o9 (h 5 4) (ctS o9 (h 5 4) q9).2) ≤ h 5 4 := by
              unfold gpS
              split <;> omega
          have bn9 := bl_n (n := z67_13) (by omega)
          refine TT_aload_n hK rfl 2 rfl dX10_readBandHead_108 ?_
          refine TT_aload_n hK rfl 1 rfl dX10_readBandHead_109 ?_
          refine gf_X10_25 hK (by decide) rfl (q := 55) rfl rfl dX10_readBandHead_110 ?_
          refine TT_iload_n hK rfl 3 rfl dX10_readBandHead_113 ?_
          refine TT_iald hK (o := 55) (n := 10) (by decide) rfl (by first | omega | (simp [up, setR] <;> omega)) (by first | omega | (simp [up, setR] <;> omega)) (v := (g105_26 55) b) rfl dX10_readBandHead_114 ?_
          have r27 := ty_55 (i := b) (v := (g105_26 55) b) hT_26 rfl (by omega) (by omega)
          refine TT_cgI (b := h 55 b + (gnS o9 (h 5 4) (ctS o9 (h 5 4) q9).2)) (by rw [g9.1]; exact fup_eq _ _ _) ?_
          refine TT_iload hK 0 rfl dX10_readBandHead_115 ?_
          refine iv_X10_138 hK (s_bitsOf_e z67_13 g105_26 hT_26 (by first | omega | (simp [up, setR] <;> omega)) (by first | omega | (simp [up, setR] <;> omega))) ⟨by decide, by decide⟩ (by decide) rfl rfl (Nat.le_of_ble_eq_true rfl) ⟨by decide, by decide⟩ dX10_readBandHead_117 ?_
          intro r9 g117_28 hp9
          obtain ⟨⟨hT_28, hG_28⟩, z117_28, hr9, hz_28, e_28⟩ := hp9
          rw [hr9]
          have hF_28 : FR [5, 53, 55, 56, 57] h g117_28 := FR_tr hF_26 hG_28 (by decide)
          have e_at117 := e_28
          show TT K ly 0 0 120 [(4, vI z67_13), (0, vR 44), (1, vR 5), (2, vI b)] [vI z117_28, vI (h 55 b + (gnS o9 (h 5 4) (ctS o9 (h 5 4) q9).2)), vR 5] g117_28
          refine TT_cgI (b := bl z67_13) (by exact e_at117) ?_
          refine TT_iadd hK dX10_readBandHead_120 ?_
          refine TT_iconst hK dX10_readBandHead_121 ?_
          refine TT_isub hK dX10_readBandHead_122 ?_
          have x3 : (g105_26 5) 3 = (gpS o9 (h 5 4) (ctS o9 (h 5 4) q9).2) := g9.2
          have x4 : (g105_26 5) 4 = h 5 4 := by omega
          refine TT_cgI (b := h 55 b + (gnS o9 (h 5 4) (ctS o9 (h 5 4) q9).2) + (bl z67_13 - 1)) (by omega) ?_
          have e29_5_1 : g117_28 5 1 = (g105_26 5) 1 := rd_ (hG_28 5 (by decide)) rfl
          have e30_6 : g117_28 6 = h 6 := ((hG_28 6 (by decide))).trans (((hG_26 6 (by decide))).trans (((hG_17 6 (by decide))).trans (((hG_13 6 (by decide))).trans (hF66_7 6 (by decide)))))
          have e31_5_1 : g117_28 5 1 = (g105_26 5) 1 := rd_ (hG_28 5 (by decide)) rfl
          have e32_5_3 : g117_28 5 3 = (g105_26 5) 3 := rd_ (hG_28 5 (by decide)) rfl
          have e33_5_4 : g117_28 5 4 = (g105_26 5) 4 := rd_ (hG_28 5 (by decide)) rfl
          refine iv_X10_118 hK (s_takeBits5_e o9 (h 55 b + (gnS o9 (h 5 4) (ctS o9 (h 5 4) q9).2) + (bl z67_13 - 1)) g117_28 hT_28 (by first | omega | (simp [up, setR] <;> omega)) (by rewrite [e29_5_1, e30_6]; first | assumption | (intro j j0 j1; exact ho j j0 (by omega))) (by rewrite [e31_5_1, e32_5_3, e33_5_4]; first | omega | (simp [up, setR] <;> omega)) (by first | omega | (simp [up, setR] <;> omega))) (by decide) rfl ⟨by decide, by decide⟩ (by decide) rfl rfl (Nat.le_of_ble_eq_true rfl) ⟨by decide, by decide⟩ dX10_readBandHead_123 ?_
          intro r9 g123_34 hp9
          obtain ⟨⟨hT_34, hG_34⟩, z123_34, hr9, hz_34, tb_34, k5_34⟩ := hp9
          rw [hr9]
          have hF_34 : FR [5, 53, 55, 56, 57] h g123_34 := FR_tr hF_28 hG_34 (by decide)
          rw [show g117_28 5 3 = (g105_26 5) 3 from rd_ (hG_28 5 (by decide)) rfl] at tb_34
          rw [show g117_28 5 4 = (g105_26 5) 4 from rd_ (hG_28 5 (by decide)) rfl] at tb_34
          rw [show g117_28 5 1 = (g105_26 5) 1 from rd_ (hG_28 5 (by decide)) rfl] at k5_34
          rw [show g117_28 5 4 = (g105_26 5) 4 from rd_ (hG_28 5 (by decide)) rfl] at k5_34
          have tb_at123 := tb_34
          show TT K ly 0 0 126 [(4, vI z67_13), (0, vR 44), (1, vR 5), (2, vI b)] [vI z123_34] g123_34
          have t123 := tb_at123
          rw [x3, x4] at t123
          have tr9 := tbS_r o9 (gpS o9 (h 5 4) (ctS o9 (h 5 4) q9).2) (h 55 b + (gnS o9 (h 5 4) (ctS o9 (h 5 4) q9).2) + (bl z67_13 - 1)).toNat
          refine TT_istore hK (lv' := [(5, vI z123_34), (4, vI z67_13), (0, vR 44), (1, vR 5), (2, vI b)]) (by decide) rfl dX10_readBandHead_126 ?_
          refine TT_iload hK 0 rfl dX10_readBandHead_128 ?_
          refine TT_if_ge hK (tgt := 135) (irm (by omega) (by omega)) dX10_readBandHead_130 (by decide) (fun hb130_35 => ?_) (fun hb130_35 => ?_)
          · have fin9 : (hbS o9 (h 5 4) (h 5 3) (h 53 b) (h 54 b) (h 55 b)) = (0, z67_13, tbS o9 (gpS o9 (h 5 4) (ctS o9 (h 5 4) q9).2) (h 55 b + (gnS o9 (h 5 4) (ctS o9 (h 5 4) q9).2) + (bl z67_13 - 1)).toNat, (gpS o9 (h 5 4) (ctS o9 (h 5 4) q9).2) + (h 55 b + (gnS o9 (h 5 4) (ctS o9 (h 5 4) q9).2) + (bl z67_13 - 1)), pl9, h 55 b + (gnS o9 (h 5 4) (ctS o9 (h 5 4) q9).2)) := by
                rw [hH]
                unfold hcS
                rw [if_neg (by omega), if_neg (by omega)]
                unfold hlS
                rw [← c9.1, if_neg (by omega)]
            refine TT_aload_n hK rfl 2 rfl dX10_readBandHead_135 ?_
            refine gf_X10_28 hK (by decide) rfl (q := 56) rfl rfl dX10_readBandHead_136 ?_
            refine TT_iload_n hK rfl 4 rfl dX10_readBandHead_139 ?_
            refine TT_iload hK 1 rfl dX10_readBandHead_140 ?_
            refine TT_iast hK (o := 56) (n := 10) (by decide) rfl (by omega) (by omega) dX10_readBandHead_142 ?_
            refine TT_hp (h' := setO g123_34 56 (fup (w66_7 56) b z67_13)) (up_can (((hG_34 56 (by decide))).trans (((hG_28 56 (by decide))).trans (((hG_26 56 (by decide))).trans (((hG_17 56 (by decide))).trans (hG_13 56 (by decide)))))) rfl rfl) ?_
            have hT_36 : TY (setO g123_34 56 (fup (w66_7 56) b z67_13)) := tu_56 hT_34 (show up g123_34 56 b z67_13 = (setO g123_34 56 (fup (w66_7 56) b z67_13)) from up_can (((hG_34 56 (by decide))).trans (((hG_28 56 (by decide))).trans (((hG_26 56 (by decide))).trans (((hG_17 56 (by decide))).trans (hG_13 56 (by decide)))))) rfl rfl) (by omega)
            have hF_36 : FR [5, 53, 55, 56, 57] h (setO g123_34 56 (fup (w66_7 56) b z67_13)) := FR_up (show up g123_34 56 b z67_13 = (setO g123_34 56 (fup (w66_7 56) b z67_13)) from up_can (((hG_34 56 (by decide))).trans (((hG_28 56 (by decide))).trans (((hG_26 56 (by decide))).trans (((hG_17 56 (by decide))).trans (hG_13 56 (by decide)))))) rfl rfl) hF_34 (by decide)
            refine TT_aload_n hK rfl 2 rfl dX10_readBandHead_143 ?_
            refine gf_X10_31 hK (by decide) rfl (q := 57) rfl rfl dX10_readBandHead_144 ?_
            refine TT_iload_n hK rfl 4 rfl dX10_readBandHead_147 ?_
            refine TT_iload hK 0 rfl dX10_readBandHead_148 ?_
            refine TT_iast hK (o := 57) (n := 10) (by decide) rfl (by omega) (by omega) dX10_readBandHead_150 ?_
            refine TT_hp (h' := setO (setO g123_34 56 (fup (w66_7 56) b z67_13)) 57 (fup (w66_7 57) b z123_34)) (up_can ((sOf_ne _ _ (by decide)).trans (((hG_34 57 (by decide))).trans (((hG_28 57 (by decide))).trans (((hG_26 57 (by decide))).trans (((hG_17 57 (by decide))).trans (hG_13 57 (by decide))))))) rfl rfl) ?_
            have hT_37 : TY (setO (setO g123_34 56 (fup (w66_7 56) b z67_13)) 57 (fup (w66_7 57) b z123_34)) := tu_57 hT_36 (show up (setO g123_34 56 (fup (w66_7 56) b z67_13)) 57 b z123_34 = (setO (setO g123_34 56 (fup (w66_7 56) b z67_13)) 57 (fup (w66_7 57) b z123_34)) from up_can ((sOf_ne _ _ (by decide)).trans (((hG_34 57 (by decide))).trans (((hG_28 57 (by decide))).trans (((hG_26 57 (by decide))).trans (((hG_17 57 (by decide))).trans (hG_13 57 (by decide))))))) rfl rfl) (by omega)
            have hF_37 : FR [5, 53, 55, 56, 57] h (setO (setO g123_34 56 (fup (w66_7 56) b z67_13)) 57 (fup (w66_7 57) b z123_34)) := FR_up (show up (setO g123_34 56 (fup (w66_7 56) b z67_13)) 57 b z123_34 = (setO (setO g123_34 56 (fup (w66_7 56) b z67_13)) 57 (fup (w66_7 57) b z123_34)) from up_can ((sOf_ne _ _ (by decide)).trans (((hG_34 57 (by decide))).trans (((hG_28 57 (by decide))).trans (((hG_26 57 (by decide))).trans (((hG_17 57 (by decide))).trans (hG_13 57 (by decide))))))) rfl rfl) hF_36 (by decide)
            refine TT_iconst hK dX10_readBandHead_151 ?_
            refine TT_iret hK hQ ?_ dX10_readBandHead_152
            have e38_5_3 : (setO (setO g123_34 56 (fup (w66_7 56) b z67_13)) 57 (fup (w66_7 57) b z123_34)) 5 3 = (g123_34 5) 3 := rd_ ((sOf_ne _ _ (by decide)).trans (sOf_ne _ _ (by decide))) rfl
            have e39_53 : (setO (setO g123_34 56 (fup (w66_7 56) b z67_13)) 57 (fup (w66_7 57) b z123_34)) 53 = w66_7 53 := (sOf_ne _ _ (by decide)).trans ((sOf_ne _ _ (by decide)).trans (((hG_34 53 (by decide))).trans (((hG_28 53 (by decide))).trans (((hG_26 53 (by decide))).trans (((hG_17 53 (by decide))).trans (hG_13 53 (by decide)))))))
            have e40_55 : (setO (setO g123_34 56 (fup (w66_7 56) b z67_13)) 57 (fup (w66_7 57) b z123_34)) 55 = g105_26 55 := (sOf_ne _ _ (by decide)).trans ((sOf_ne _ _ (by decide)).trans (((hG_34 55 (by decide))).trans (hG_28 55 (by decide))))
            have e41_56 : (setO (setO g123_34 56 (fup (w66_7 56) b z67_13)) 57 (fup (w66_7 57) b z123_34)) 56 = fup (w66_7 56) b z67_13 := (sOf_ne _ _ (by decide)).trans (sOf_eq _ _ _)
            have e42_57 : (setO (setO g123_34 56 (fup (w66_7 56) b z67_13)) 57 (fup (w66_7 57) b z123_34)) 57 = fup (w66_7 57) b z123_34 := sOf_eq _ _ _
            have e43_53 : (setO (setO g123_34 56 (fup (w66_7 56) b z67_13)) 57 (fup (w66_7 57) b z123_34)) 53 = w66_7 53 := (sOf_ne _ _ (by decide)).trans ((sOf_ne _ _ (by decide)).trans (((hG_34 53 (by decide))).trans (((hG_28 53 (by decide))).trans (((hG_26 53 (by decide))).trans (((hG_17 53 (by decide))).trans (hG_13 53 (by decide)))))))
            have e44_55 : (setO (setO g123_34 56 (fup (w66_7 56) b z67_13)) 57 (fup (w66_7 57) b z123_34)) 55 = g105_26 55 := (sOf_ne _ _ (by decide)).trans ((sOf_ne _ _ (by decide)).trans (((hG_34 55 (by decide))).trans (hG_28 55 (by decide))))
            have e45_56 : (setO (setO g123_34 56 (fup (w66_7 56) b z67_13)) 57 (fup (w66_7 57) b z123_34)) 56 = fup (w66_7 56) b z67_13 := (sOf_ne _ _ (by decide)).trans (sOf_eq _ _ _)
            have e46_57 : (setO (setO g123_34 56 (fup (w66_7 56) b z67_13)) 57 (fup (w66_7 57) b z123_34)) 57 = fup (w66_7 57) b z123_34 := sOf_eq _ _ _
            have e47_5_1 : (setO (setO g123_34 56 (fup (w66_7 56) b z67_13)) 57 (fup (w66_7 57) b z123_34)) 5 1 = (g123_34 5) 1 := rd_ ((sOf_ne _ _ (by decide)).trans (sOf_ne _ _ (by decide))) rfl
            have e48_5_3 : (setO (setO g123_34 56 (fup (w66_7 56) b z67_13)) 57 (fup (w66_7 57) b z123_34)) 5 3 = (g123_34 5) 3 := rd_ ((sOf_ne _ _ (by decide)).trans (sOf_ne _ _ (by decide))) rfl
            have e49_5_4 : (setO (setO g123_34 56 (fup (w66_7 56) b z67_13)) 57 (fup (w66_7 57) b z123_34)) 5 4 = (g123_34 5) 4 := rd_ ((sOf_ne _ _ (by decide)).trans (sOf_ne _ _ (by decide))) rfl
            have e50_55 : (setO (setO g123_34 56 (fup (w66_7 56) b z67_13)) 57 (fup (w66_7 57) b z123_34)) 55 = g105_26 55 := (sOf_ne _ _ (by decide)).trans ((sOf_ne _ _ (by decide)).trans (((hG_34 55 (by decide))).trans (hG_28 55 (by decide))))
            exact ⟨⟨hT_37, hF_37⟩, 0, rfl, (by omega), (by rw [fin9]), (by rewrite [e38_5_3, e39_53, e40_55, e41_56, e42_57]; intro _; rw [fin9]; exact ⟨by show _ = (gpS o9 (h 5 4) (ctS o9 (h 5 4) q9).2) + (h 55 b + (gnS o9 (h 5 4) (ctS o9 (h 5 4) q9).2) + (bl z67_13 - 1)); omega, hpl, (congrFun g9.1 b).trans (fup_eq _ _ _), fup_eq _ _ _, (fup_eq _ _ _).trans (by show _ = tbS o9 (gpS o9 (h 5 4) (ctS o9 (h 5 4) q9).2) (h 55 b + (gnS o9 (h 5 4) (ctS o9 (h 5 4) q9).2) + (bl z67_13 - 1)).toNat; omega)⟩), (by rewrite [e43_53, e44_55, e45_56, e46_57]; intro j hj; refine ⟨?_, ?_, ?_, ?_⟩ <;> first | rfl | exact k53 j hj | exact congrFun k55 j | exact (congrFun g9.1 j).trans (fup_ne _ _ hj) | exact congrFun k56 j | exact congrFun k57 j | exact (fup_ne _ _ hj).trans (congrFun k56 j) | exact (fup_ne _ _ hj).trans (congrFun k57 j)), (by rewrite [e47_5_1, e48_5_3, e49_5_4, e50_55]; first | omega | (have k9 := congrFun k55 b; omega) | (have k9 := (congrFun g9.1 b).trans (fup_eq _ _ _); omega))⟩
          · have fin8 : (hbS o9 (h 5 4) (h 5 3) (h 53 b) (h 54 b) (h 55 b)).1 = 1 := by
                rw [hH]
                unfold hcS
                rw [if_neg (by omega), if_neg (by omega)]
                unfold hlS
                rw [← c9.1, if_pos (by omega)]
            refine TT_iconst hK dX10_readBandHead_133 ?_
            refine TT_iret hK hQ ?_ dX10_readBandHead_134
            have e51_5_3 : g123_34 5 3 = (g123_34 5) 3 := rfl
            have e52_53 : g123_34 53 = w66_7 53 := ((hG_34 53 (by decide))).trans (((hG_28 53 (by decide))).trans (((hG_26 53 (by decide))).trans (((hG_17 53 (by decide))).trans (hG_13 53 (by decide)))))
            have e53_55 : g123_34 55 = g105_26 55 := ((hG_34 55 (by decide))).trans (hG_28 55 (by decide))
            have e54_56 : g123_34 56 = w66_7 56 := ((hG_34 56 (by decide))).trans (((hG_28 56 (by decide))).trans (((hG_26 56 (by decide))).trans (((hG_17 56 (by decide))).trans (hG_13 56 (by decide)))))
            have e55_57 : g123_34 57 = w66_7 57 := ((hG_34 57 (by decide))).trans (((hG_28 57 (by decide))).trans (((hG_26 57 (by decide))).trans (((hG_17 57 (by decide))).trans (hG_13 57 (by decide)))))
            have e56_53 : g123_34 53 = w66_7 53 := ((hG_34 53 (by decide))).trans (((hG_28 53 (by decide))).trans (((hG_26 53 (by decide))).trans (((hG_17 53 (by decide))).trans (hG_13 53 (by decide)))))
            have e57_55 : g123_34 55 = g105_26 55 := ((hG_34 55 (by decide))).trans (hG_28 55 (by decide))
            have e58_56 : g123_34 56 = w66_7 56 := ((hG_34 56 (by decide))).trans (((hG_28 56 (by decide))).trans (((hG_26 56 (by decide))).trans (((hG_17 56 (by decide))).trans (hG_13 56 (by decide)))))
            have e59_57 : g123_34 57 = w66_7 57 := ((hG_34 57 (by decide))).trans (((hG_28 57 (by decide))).trans (((hG_26 57 (by decide))).trans (((hG_17 57 (by decide))).trans (hG_13 57 (by decide)))))
            have e60_5_1 : g123_34 5 1 = (g123_34 5) 1 := rfl
            have e61_5_3 : g123_34 5 3 = (g123_34 5) 3 := rfl
            have e62_5_4 : g123_34 5 4 = (g123_34 5) 4 := rfl
            have e63_55 : g123_34 55 = g105_26 55 := ((hG_34 55 (by decide))).trans (hG_28 55 (by decide))
            exact ⟨⟨hT_34, hF_34⟩, 1, rfl, (by omega), (by exact fin8.symm), (by rewrite [e51_5_3, e52_53, e53_55, e54_56, e55_57]; intro q; exfalso; omega), (by rewrite [e56_53, e57_55, e58_56, e59_57]; intro j hj; refine ⟨?_, ?_, ?_, ?_⟩ <;> first | rfl | exact k53 j hj | exact congrFun k55 j | exact (congrFun g9.1 j).trans (fup_ne _ _ hj) | exact congrFun k56 j | exact congrFun k57 j | exact (fup_ne _ _ hj).trans (congrFun k56 j) | exact (fup_ne _ _ hj).trans (congrFun k57 j)), (by rewrite [e60_5_1, e61_5_3, e62_5_4, e63_55]; first | omega | (have k9 := congrFun k55 b; omega) | (have k9 := (congrFun g9.1 b).trans (fup_eq _ _ _); omega))⟩
        · have fin8 : (hbS o9 (h 5 4) (h 5 3) (h 53 b) (h 54 b) (h 55 b)).1 = -1 := by
              rw [hH]
              unfold hcS
              rw [if_neg (by omega), if_pos (by omega)]
          refine TT_iconst hK dX10_readBandHead_100 ?_
          refine TT_iret hK hQ ?_ dX10_readBandHead_101
          have e64_5_3 : g94_17 5 3 = (g67_13 5) 3 := rd_ (hG_17 5 (by decide)) rfl
          have e65_53 : g94_17 53 = w66_7 53 := ((hG_17 53 (by decide))).trans (hG_13 53 (by decide))
          have e66_55 : g94_17 55 = w66_7 55 := ((hG_17 55 (by decide))).trans (hG_13 55 (by decide))
          have e67_56 : g94_17 56 = w66_7 56 := ((hG_17 56 (by decide))).trans (hG_13 56 (by decide))
          have e68_57 : g94_17 57 = w66_7 57 := ((hG_17 57 (by decide))).trans (hG_13 57 (by decide))
          have e69_53 : g94_17 53 = w66_7 53 := ((hG_17 53 (by decide))).trans (hG_13 53 (by decide))
          have e70_55 : g94_17 55 = w66_7 55 := ((hG_17 55 (by decide))).trans (hG_13 55 (by decide))
          have e71_56 : g94_17 56 = w66_7 56 := ((hG_17 56 (by decide))).trans (hG_13 56 (by decide))
          have e72_57 : g94_17 57 = w66_7 57 := ((hG_17 57 (by decide))).trans (hG_13 57 (by decide))
          have e73_5_1 : g94_17 5 1 = (g67_13 5) 1 := rd_ (hG_17 5 (by decide)) rfl
          have e74_5_3 : g94_17 5 3 = (g67_13 5) 3 := rd_ (hG_17 5 (by decide)) rfl
          have e75_5_4 : g94_17 5 4 = (g67_13 5) 4 := rd_ (hG_17 5 (by decide)) rfl
          have e76_55 : g94_17 55 = w66_7 55 := ((hG_17 55 (by decide))).trans (hG_13 55 (by decide))
          exact ⟨⟨hT_17, hF_17⟩, (-1), rfl, (by omega), (by exact fin8.symm), (by rewrite [e64_5_3, e65_53, e66_55, e67_56, e68_57]; intro q; exfalso; omega), (by rewrite [e69_53, e70_55, e71_56, e72_57]; intro j hj; refine ⟨?_, ?_, ?_, ?_⟩ <;> first | rfl | exact k53 j hj | exact congrFun k55 j | exact (congrFun g9.1 j).trans (fup_ne _ _ hj) | exact congrFun k56 j | exact congrFun k57 j | exact (fup_ne _ _ hj).trans (congrFun k56 j) | exact (fup_ne _ _ hj).trans (congrFun k57 j)), (by rewrite [e73_5_1, e74_5_3, e75_5_4, e76_55]; first | omega | (have k9 := congrFun k55 b; omega) | (have k9 := (congrFun g9.1 b).trans (fup_eq _ _ _); omega))⟩
      · have fin8 : (hbS o9 (h 5 4) (h 5 3) (h 53 b) (h 54 b) (h 55 b)).1 = 1 := by
            rw [hH]
            unfold hcS
            rw [if_pos (by omega)]
        refine TT_iconst hK dX10_readBandHead_77 ?_
        refine TT_iret hK hQ ?_ dX10_readBandHead_78
        have e77_5_3 : g67_13 5 3 = (g67_13 5) 3 := rfl
        have e78_53 : g67_13 53 = w66_7 53 := (hG_13 53 (by decide))
        have e79_55 : g67_13 55 = w66_7 55 := (hG_13 55 (by decide))
        have e80_56 : g67_13 56 = w66_7 56 := (hG_13 56 (by decide))
        have e81_57 : g67_13 57 = w66_7 57 := (hG_13 57 (by decide))
        have e82_53 : g67_13 53 = w66_7 53 := (hG_13 53 (by decide))
        have e83_55 : g67_13 55 = w66_7 55 := (hG_13 55 (by decide))
        have e84_56 : g67_13 56 = w66_7 56 := (hG_13 56 (by decide))
        have e85_57 : g67_13 57 = w66_7 57 := (hG_13 57 (by decide))
        have e86_5_1 : g67_13 5 1 = (g67_13 5) 1 := rfl
        have e87_5_3 : g67_13 5 3 = (g67_13 5) 3 := rfl
        have e88_5_4 : g67_13 5 4 = (g67_13 5) 4 := rfl
        have e89_55 : g67_13 55 = w66_7 55 := (hG_13 55 (by decide))
        exact ⟨⟨hT_13, hF_13⟩, 1, rfl, (by omega), (by exact fin8.symm), (by rewrite [e77_5_3, e78_53, e79_55, e80_56, e81_57]; intro q; exfalso; omega), (by rewrite [e82_53, e83_55, e84_56, e85_57]; intro j hj; refine ⟨?_, ?_, ?_, ?_⟩ <;> first | rfl | exact k53 j hj | exact congrFun k55 j | exact (congrFun g9.1 j).trans (fup_ne _ _ hj) | exact congrFun k56 j | exact congrFun k57 j | exact (fup_ne _ _ hj).trans (congrFun k56 j) | exact (fup_ne _ _ hj).trans (congrFun k57 j)), (by rewrite [e86_5_1, e87_5_3, e88_5_4, e89_55]; first | omega | (have k9 := congrFun k55 b; omega) | (have k9 := (congrFun g9.1 b).trans (fup_eq _ _ _); omega))⟩
    refine TT_aload_n hK rfl 1 rfl dX10_readBandHead_21 ?_
    refine gf_X10_22 hK (by decide) rfl (q := 54) rfl rfl dX10_readBandHead_22 ?_
    refine TT_iload_n hK rfl 3 rfl dX10_readBandHead_25 ?_
    refine TT_iald hK (o := 54) (n := 10) (by decide) rfl (by first | omega | (simp [up, setR] <;> omega)) (by first | omega | (simp [up, setR] <;> omega)) (v := (h 54) b) (rd_ (hG_5 54 (by decide)) rfl) dX10_readBandHead_26 ?_
    have r90 := ty_54 (i := b) (v := (h 54) b) hT_5 (rd_ (hG_5 54 (by decide)) rfl) (by omega) (by omega)
    refine TT_if_ne hK (tgt := 66) (irm (by omega) (by omega)) dX10_readBandHead_27 (by decide) (fun hb27_91 => ?_) (fun hb27_91 => ?_)
    · refine TT_sub [1, 2, 3] rfl ?_
      have e92_5_3 : g2_5 5 3 = (g2_5 5) 3 := rfl
      have e93_53 : g2_5 53 = h 53 := (hG_5 53 (by decide))
      have e94_5_1 : g2_5 5 1 = (g2_5 5) 1 := rfl
      have e95_5_4 : g2_5 5 4 = (g2_5 5) 4 := rfl
      have e96_55 : g2_5 55 = h 55 := (hG_5 55 (by decide))
      have e97_56 : g2_5 56 = h 56 := (hG_5 56 (by decide))
      have e98_57 : g2_5 57 = h 57 := (hG_5 57 (by decide))
      have e99_53 : g2_5 53 = h 53 := (hG_5 53 (by decide))
      exact J66_7 ((g2_5 5) 3) ((h 53) b) g2_5 hT_5 hF_5 (by rewrite [e92_5_3]; rfl) (by rewrite [e93_53]; first | rfl | exact fup_eq _ _ _) (by unfold hbS; rw [if_neg (by omega), if_neg (by omega), if_neg (by omega), show (g2_5 5) 3 = h 5 3 + 1 by omega]) (by first | omega | (simp [up, setR] <;> omega)) (by rewrite [e94_5_1, e95_5_4]; first | omega | (simp [up, setR] <;> omega)) (by rewrite [e96_55]; first | rfl) (by rewrite [e97_56]; first | rfl) (by rewrite [e98_57]; first | rfl) (by rewrite [e99_53]; first | (intro j hj; rfl) | (intro j hj; exact fup_ne _ _ hj))
    · refine TT_aload_n hK rfl 2 rfl dX10_readBandHead_30 ?_
      refine TT_iconst hK dX10_readBandHead_31 ?_
      have e32 : ((g2_5 5) 3) = h 5 3 + 1 := by omega
      have e100_5_1 : g2_5 5 1 = (g2_5 5) 1 := rfl
      have e101_6 : g2_5 6 = h 6 := (hG_5 6 (by decide))
      have e102_5_1 : g2_5 5 1 = (g2_5 5) 1 := rfl
      have e103_5_3 : g2_5 5 3 = (g2_5 5) 3 := rfl
      have e104_5_4 : g2_5 5 4 = (g2_5 5) 4 := rfl
      refine iv_X10_118 hK (s_takeBits5_e o9 4 g2_5 hT_5 (by first | omega | (simp [up, setR] <;> omega)) (by rewrite [e100_5_1, e101_6]; first | assumption | (intro j j0 j1; exact ho j j0 (by omega))) (by rewrite [e102_5_1, e103_5_3, e104_5_4]; first | omega | (simp [up, setR] <;> omega)) (by first | omega | (simp [up, setR] <;> omega))) (by decide) rfl ⟨by decide, by decide⟩ (by decide) rfl rfl (Nat.le_of_ble_eq_true rfl) ⟨by decide, by decide⟩ dX10_readBandHead_32 ?_
      intro r9 g32_105 hp9
      obtain ⟨⟨hT_105, hG_105⟩, z32_105, hr9, hz_105, tb_105, k5_105⟩ := hp9
      rw [hr9]
      have hF_105 : FR [5, 53, 55, 56, 57] h g32_105 := FR_tr hF_5 hG_105 (by decide)
      rw [show g2_5 5 3 = (g2_5 5) 3 from rfl] at tb_105
      rw [show g2_5 5 4 = (g2_5 5) 4 from rfl] at tb_105
      rw [show g2_5 5 1 = (g2_5 5) 1 from rfl] at k5_105
      rw [show g2_5 5 4 = (g2_5 5) 4 from rfl] at k5_105
      have tb_at32 := tb_105
      show TT K ly 0 0 35 [(3, vI z2_5), (0, vR 44), (1, vR 5), (2, vI b)] [vI z32_105] g32_105
      have t32 := tb_at32
      rw [show (4 : Int).toNat = 4 from rfl, e32] at t32
      have tt32 := tb_24 o9 (h 5 3 + 1)
      refine TT_istore hK (lv' := [(4, vI z32_105), (3, vI z2_5), (0, vR 44), (1, vR 5), (2, vI b)]) (by decide) rfl dX10_readBandHead_35 ?_
      refine TT_iload hK 0 rfl dX10_readBandHead_37 ?_
      refine TT_if_ge hK (tgt := 44) (irm (by omega) (by omega)) dX10_readBandHead_39 (by decide) (fun hb39_106 => ?_) (fun hb39_106 => ?_)
      · refine TT_iload hK 0 rfl dX10_readBandHead_44 ?_
        refine TT_if_eq hK (tgt := 56) (irm (by omega) (by omega)) dX10_readBandHead_46 (by decide) (fun hb46_107 => ?_) (fun hb46_107 => ?_)
        · have fin8 : (hbS o9 (h 5 4) (h 5 3) (h 53 b) (h 54 b) (h 55 b)).1 = -1 := by
              unfold hbS
              rw [if_neg (by omega), if_neg (by omega), if_pos (by omega), if_neg (by omega), if_pos (by omega)]
          refine TT_iconst hK dX10_readBandHead_56 ?_
          refine TT_iret hK hQ ?_ dX10_readBandHead_57
          have e108_5_3 : g32_105 5 3 = (g32_105 5) 3 := rfl
          have e109_53 : g32_105 53 = h 53 := ((hG_105 53 (by decide))).trans (hG_5 53 (by decide))
          have e110_55 : g32_105 55 = h 55 := ((hG_105 55 (by decide))).trans (hG_5 55 (by decide))
          have e111_56 : g32_105 56 = h 56 := ((hG_105 56 (by decide))).trans (hG_5 56 (by decide))
          have e112_57 : g32_105 57 = h 57 := ((hG_105 57 (by decide))).trans (hG_5 57 (by decide))
          have e113_53 : g32_105 53 = h 53 := ((hG_105 53 (by decide))).trans (hG_5 53 (by decide))
          have e114_55 : g32_105 55 = h 55 := ((hG_105 55 (by decide))).trans (hG_5 55 (by decide))
          have e115_56 : g32_105 56 = h 56 := ((hG_105 56 (by decide))).trans (hG_5 56 (by decide))
          have e116_57 : g32_105 57 = h 57 := ((hG_105 57 (by decide))).trans (hG_5 57 (by decide))
          have e117_5_1 : g32_105 5 1 = (g32_105 5) 1 := rfl
          have e118_5_3 : g32_105 5 3 = (g32_105 5) 3 := rfl
          have e119_5_4 : g32_105 5 4 = (g32_105 5) 4 := rfl
          have e120_55 : g32_105 55 = h 55 := ((hG_105 55 (by decide))).trans (hG_5 55 (by decide))
          exact ⟨⟨hT_105, hF_105⟩, (-1), rfl, (by omega), (by exact fin8.symm), (by rewrite [e108_5_3, e109_53, e110_55, e111_56, e112_57]; intro q; exfalso; omega), (by rewrite [e113_53, e114_55, e115_56, e116_57]; intro j hj; refine ⟨?_, ?_, ?_, ?_⟩ <;> first | rfl | exact (congrFun g9.1 j).trans (fup_ne _ _ hj)), (by rewrite [e117_5_1, e118_5_3, e119_5_4, e120_55]; first | omega | (have k9 := (congrFun g9.1 b).trans (fup_eq _ _ _); omega))⟩
        · refine TT_iload hK 0 rfl dX10_readBandHead_49 ?_
          refine TT_bipush hK (by decide) dX10_readBandHead_51 ?_
          refine TT_icmp_le hK (tgt := 58) (irm (by omega) (by omega)) (by decide) dX10_readBandHead_53 (by decide) (fun hb53_121 => ?_) (fun hb53_121 => ?_)
          · refine TT_aload_n hK rfl 2 rfl dX10_readBandHead_58 ?_
            refine gf_X10_18 hK (by decide) rfl (q := 53) rfl rfl dX10_readBandHead_59 ?_
            refine TT_iload_n hK rfl 4 rfl dX10_readBandHead_62 ?_
            refine TT_iload hK 0 rfl dX10_readBandHead_63 ?_
            refine TT_iast hK (o := 53) (n := 10) (by decide) rfl (by omega) (by omega) dX10_readBandHead_65 ?_
            refine TT_hp (h' := setO g32_105 53 (fup (h 53) b z32_105)) (up_can (((hG_105 53 (by decide))).trans (hG_5 53 (by decide))) rfl rfl) ?_
            have hT_122 : TY (setO g32_105 53 (fup (h 53) b z32_105)) := tu_53 hT_105 (show up g32_105 53 b z32_105 = (setO g32_105 53 (fup (h 53) b z32_105)) from up_can (((hG_105 53 (by decide))).trans (hG_5 53 (by decide))) rfl rfl) (by omega)
            have hF_122 : FR [5, 53, 55, 56, 57] h (setO g32_105 53 (fup (h 53) b z32_105)) := FR_up (show up g32_105 53 b z32_105 = (setO g32_105 53 (fup (h 53) b z32_105)) from up_can (((hG_105 53 (by decide))).trans (hG_5 53 (by decide))) rfl rfl) hF_105 (by decide)
            refine TT_sub [2, 3, 4] rfl ?_
            have e123_5_3 : (setO g32_105 53 (fup (h 53) b z32_105)) 5 3 = (g32_105 5) 3 := rd_ (sOf_ne _ _ (by decide)) rfl
            have e124_53 : (setO g32_105 53 (fup (h 53) b z32_105)) 53 = fup (h 53) b z32_105 := sOf_eq _ _ _
            have e125_5_1 : (setO g32_105 53 (fup (h 53) b z32_105)) 5 1 = (g32_105 5) 1 := rd_ (sOf_ne _ _ (by decide)) rfl
            have e126_5_4 : (setO g32_105 53 (fup (h 53) b z32_105)) 5 4 = (g32_105 5) 4 := rd_ (sOf_ne _ _ (by decide)) rfl
            have e127_55 : (setO g32_105 53 (fup (h 53) b z32_105)) 55 = h 55 := (sOf_ne _ _ (by decide)).trans (((hG_105 55 (by decide))).trans (hG_5 55 (by decide)))
            have e128_56 : (setO g32_105 53 (fup (h 53) b z32_105)) 56 = h 56 := (sOf_ne _ _ (by decide)).trans (((hG_105 56 (by decide))).trans (hG_5 56 (by decide)))
            have e129_57 : (setO g32_105 53 (fup (h 53) b z32_105)) 57 = h 57 := (sOf_ne _ _ (by decide)).trans (((hG_105 57 (by decide))).trans (hG_5 57 (by decide)))
            have e130_53 : (setO g32_105 53 (fup (h 53) b z32_105)) 53 = fup (h 53) b z32_105 := sOf_eq _ _ _
            exact J66_7 ((g32_105 5) 3) z32_105 (setO g32_105 53 (fup (h 53) b z32_105)) hT_122 hF_122 (by rewrite [e123_5_3]; rfl) (by rewrite [e124_53]; first | rfl | exact fup_eq _ _ _) (by unfold hbS; rw [if_neg (by omega), if_neg (by omega), if_pos (by omega), if_neg (by omega), if_neg (by omega), show (g32_105 5) 3 = h 5 3 + 5 by omega]; exact congrArg (fun q => hcS o9 (h 5 4) (h 5 3 + 5) q (h 54 b) (h 55 b)) (by first | (rw [fup_eq]; omega) | omega)) (by first | omega | (simp [up, setR] <;> omega)) (by rewrite [e125_5_1, e126_5_4]; first | omega | (simp [up, setR] <;> omega)) (by rewrite [e127_55]; first | rfl) (by rewrite [e128_56]; first | rfl) (by rewrite [e129_57]; first | rfl) (by rewrite [e130_53]; first | (intro j hj; rfl) | (intro j hj; exact fup_ne _ _ hj))
          · have fin8 : (hbS o9 (h 5 4) (h 5 3) (h 53 b) (h 54 b) (h 55 b)).1 = -1 := by
                unfold hbS
                rw [if_neg (by omega), if_neg (by omega), if_pos (by omega), if_neg (by omega), if_pos (by omega)]
            refine TT_iconst hK dX10_readBandHead_56 ?_
            refine TT_iret hK hQ ?_ dX10_readBandHead_57
            have e131_5_3 : g32_105 5 3 = (g32_105 5) 3 := rfl
            have e132_53 : g32_105 53 = h 53 := ((hG_105 53 (by decide))).trans (hG_5 53 (by decide))
            have e133_55 : g32_105 55 = h 55 := ((hG_105 55 (by decide))).trans (hG_5 55 (by decide))
            have e134_56 : g32_105 56 = h 56 := ((hG_105 56 (by decide))).trans (hG_5 56 (by decide))
            have e135_57 : g32_105 57 = h 57 := ((hG_105 57 (by decide))).trans (hG_5 57 (by decide))
            have e136_53 : g32_105 53 = h 53 := ((hG_105 53 (by decide))).trans (hG_5 53 (by decide))
            have e137_55 : g32_105 55 = h 55 := ((hG_105 55 (by decide))).trans (hG_5 55 (by decide))
            have e138_56 : g32_105 56 = h 56 := ((hG_105 56 (by decide))).trans (hG_5 56 (by decide))
            have e139_57 : g32_105 57 = h 57 := ((hG_105 57 (by decide))).trans (hG_5 57 (by decide))
            have e140_5_1 : g32_105 5 1 = (g32_105 5) 1 := rfl
            have e141_5_3 : g32_105 5 3 = (g32_105 5) 3 := rfl
            have e142_5_4 : g32_105 5 4 = (g32_105 5) 4 := rfl
            have e143_55 : g32_105 55 = h 55 := ((hG_105 55 (by decide))).trans (hG_5 55 (by decide))
            exact ⟨⟨hT_105, hF_105⟩, (-1), rfl, (by omega), (by exact fin8.symm), (by rewrite [e131_5_3, e132_53, e133_55, e134_56, e135_57]; intro q; exfalso; omega), (by rewrite [e136_53, e137_55, e138_56, e139_57]; intro j hj; refine ⟨?_, ?_, ?_, ?_⟩ <;> first | rfl | exact (congrFun g9.1 j).trans (fup_ne _ _ hj)), (by rewrite [e140_5_1, e141_5_3, e142_5_4, e143_55]; first | omega | (have k9 := (congrFun g9.1 b).trans (fup_eq _ _ _); omega))⟩
      · have fin8 : (hbS o9 (h 5 4) (h 5 3) (h 53 b) (h 54 b) (h 55 b)).1 = 1 := by
            unfold hbS
            rw [if_neg (by omega), if_neg (by omega), if_pos (by omega), if_pos (by omega)]
        refine TT_iconst hK dX10_readBandHead_42 ?_
        refine TT_iret hK hQ ?_ dX10_readBandHead_43
        have e144_5_3 : g32_105 5 3 = (g32_105 5) 3 := rfl
        have e145_53 : g32_105 53 = h 53 := ((hG_105 53 (by decide))).trans (hG_5 53 (by decide))
        have e146_55 : g32_105 55 = h 55 := ((hG_105 55 (by decide))).trans (hG_5 55 (by decide))
        have e147_56 : g32_105 56 = h 56 := ((hG_105 56 (by decide))).trans (hG_5 56 (by decide))
        have e148_57 : g32_105 57 = h 57 := ((hG_105 57 (by decide))).trans (hG_5 57 (by decide))
        have e149_53 : g32_105 53 = h 53 := ((hG_105 53 (by decide))).trans (hG_5 53 (by decide))
        have e150_55 : g32_105 55 = h 55 := ((hG_105 55 (by decide))).trans (hG_5 55 (by decide))
        have e151_56 : g32_105 56 = h 56 := ((hG_105 56 (by decide))).trans (hG_5 56 (by decide))
        have e152_57 : g32_105 57 = h 57 := ((hG_105 57 (by decide))).trans (hG_5 57 (by decide))
        have e153_5_1 : g32_105 5 1 = (g32_105 5) 1 := rfl
        have e154_5_3 : g32_105 5 3 = (g32_105 5) 3 := rfl
        have e155_5_4 : g32_105 5 4 = (g32_105 5) 4 := rfl
        have e156_55 : g32_105 55 = h 55 := ((hG_105 55 (by decide))).trans (hG_5 55 (by decide))
        exact ⟨⟨hT_105, hF_105⟩, 1, rfl, (by omega), (by exact fin8.symm), (by rewrite [e144_5_3, e145_53, e146_55, e147_56, e148_57]; intro q; exfalso; omega), (by rewrite [e149_53, e150_55, e151_56, e152_57]; intro j hj; refine ⟨?_, ?_, ?_, ?_⟩ <;> first | rfl | exact (congrFun g9.1 j).trans (fup_ne _ _ hj)), (by rewrite [e153_5_1, e154_5_3, e155_5_4, e156_55]; first | omega | (have k9 := (congrFun g9.1 b).trans (fup_eq _ _ _); omega))⟩
  · refine TT_iload_n hK rfl 0 rfl dX10_readBandHead_11 ?_
    refine TT_if_ne hK (tgt := 19) (irm (by omega) (by omega)) dX10_readBandHead_12 (by decide) (fun hb12_157 => ?_) (fun hb12_157 => ?_)
    · have fin8 : (hbS o9 (h 5 4) (h 5 3) (h 53 b) (h 54 b) (h 55 b)).1 = 1 := by
          unfold hbS
          rw [if_pos (by omega)]
      refine TT_iconst hK dX10_readBandHead_19 ?_
      refine TT_iret hK hQ ?_ dX10_readBandHead_20
      have e158_5_3 : g2_5 5 3 = (g2_5 5) 3 := rfl
      have e159_53 : g2_5 53 = h 53 := (hG_5 53 (by decide))
      have e160_55 : g2_5 55 = h 55 := (hG_5 55 (by decide))
      have e161_56 : g2_5 56 = h 56 := (hG_5 56 (by decide))
      have e162_57 : g2_5 57 = h 57 := (hG_5 57 (by decide))
      have e163_53 : g2_5 53 = h 53 := (hG_5 53 (by decide))
      have e164_55 : g2_5 55 = h 55 := (hG_5 55 (by decide))
      have e165_56 : g2_5 56 = h 56 := (hG_5 56 (by decide))
      have e166_57 : g2_5 57 = h 57 := (hG_5 57 (by decide))
      have e167_5_1 : g2_5 5 1 = (g2_5 5) 1 := rfl
      have e168_5_3 : g2_5 5 3 = (g2_5 5) 3 := rfl
      have e169_5_4 : g2_5 5 4 = (g2_5 5) 4 := rfl
      have e170_55 : g2_5 55 = h 55 := (hG_5 55 (by decide))
      exact ⟨⟨hT_5, hF_5⟩, 1, rfl, (by omega), (by exact fin8.symm), (by rewrite [e158_5_3, e159_53, e160_55, e161_56, e162_57]; intro q; exfalso; omega), (by rewrite [e163_53, e164_55, e165_56, e166_57]; intro j hj; refine ⟨?_, ?_, ?_, ?_⟩ <;> first | rfl | exact (congrFun g9.1 j).trans (fup_ne _ _ hj)), (by rewrite [e167_5_1, e168_5_3, e169_5_4, e170_55]; first | omega | (have k9 := (congrFun g9.1 b).trans (fup_eq _ _ _); omega))⟩
    · have fin9 : (hbS o9 (h 5 4) (h 5 3) (h 53 b) (h 54 b) (h 55 b)) = (0, 0, 0, h 5 3 + 1, h 53 b, h 55 b) := by
          unfold hbS
          rw [if_neg (by omega), if_pos (by omega)]
      refine TT_iconst hK dX10_readBandHead_15 ?_
      refine TT_goto hK (tgt := 20) dX10_readBandHead_16 (by decide) ?_
      refine TT_iret hK hQ ?_ dX10_readBandHead_20
      have e171_5_3 : g2_5 5 3 = (g2_5 5) 3 := rfl
      have e172_53 : g2_5 53 = h 53 := (hG_5 53 (by decide))
      have e173_55 : g2_5 55 = h 55 := (hG_5 55 (by decide))
      have e174_56 : g2_5 56 = h 56 := (hG_5 56 (by decide))
      have e175_57 : g2_5 57 = h 57 := (hG_5 57 (by decide))
      have e176_53 : g2_5 53 = h 53 := (hG_5 53 (by decide))
      have e177_55 : g2_5 55 = h 55 := (hG_5 55 (by decide))
      have e178_56 : g2_5 56 = h 56 := (hG_5 56 (by decide))
      have e179_57 : g2_5 57 = h 57 := (hG_5 57 (by decide))
      have e180_5_1 : g2_5 5 1 = (g2_5 5) 1 := rfl
      have e181_5_3 : g2_5 5 3 = (g2_5 5) 3 := rfl
      have e182_5_4 : g2_5 5 4 = (g2_5 5) 4 := rfl
      have e183_55 : g2_5 55 = h 55 := (hG_5 55 (by decide))
      exact ⟨⟨hT_5, hF_5⟩, 0, rfl, (by omega), (by rw [fin9]), (by rewrite [e171_5_3, e172_53, e173_55, e174_56, e175_57]; intro _; rw [fin9]; exact ⟨by show _ = h 5 3 + 1; omega, rfl, rfl, h560.1, h560.2⟩), (by rewrite [e176_53, e177_55, e178_56, e179_57]; intro j hj; refine ⟨?_, ?_, ?_, ?_⟩ <;> first | rfl | exact (congrFun g9.1 j).trans (fup_ne _ _ hj)), (by rewrite [e180_5_1, e181_5_3, e182_5_4, e183_55]; first | omega | (have k9 := (congrFun g9.1 b).trans (fup_eq _ _ _); omega))⟩

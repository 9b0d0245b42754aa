section CH
variable {o : Int → Int} {e f p : Int} {wd hd T wd' hd' T' : Int → Int}
theorem hs1S_cg {b : Int} {s : HS_} (h : wd b = wd' b ∧ hd b = hd' b ∧ T b = T' b) : hs1S o e wd hd T b s = hs1S o e wd' hd' T' b s := by
  unfold hs1S
  rw [h.1, h.2.1, h.2.2]
theorem hssS_cg {s : HS_} : ∀ k : Nat, (∀ j : Int, f ≤ j → j < f + (k : Int) → wd j = wd' j ∧ hd j = hd' j ∧ T j = T' j) → hssS o e wd hd T f k s = hssS o e wd' hd' T' f k s
  | 0, _ => rfl
  | k + 1, h => by
    show hs1S o e wd hd T (f + (k : Int)) (hssS o e wd hd T f k s) = hs1S o e wd' hd' T' (f + (k : Int)) (hssS o e wd' hd' T' f k s)
    rw [hssS_cg k (fun j j0 j1 => h j j0 (by omega)), hs1S_cg (h _ (by omega) (by omega))]
theorem hdP_cg {m : Nat} {P W : Int → Int} (h : ∀ j : Int, f ≤ j → j < f + (m : Int) → wd j = wd' j ∧ hd j = hd' j ∧ T j = T' j) : hdP o e wd hd T f m p P W = hdP o e wd' hd' T' f m p P W := by
  unfold hdP
  rw [hssS_cg m h]
end CH
/-- packet k of all -/
def ppS (o : Int → Int) (n W H l k : Int) (s : PS_) : PS_ := paS o n (BW W l) (BH H l) (FS (k % (l + 1))) (3 * (k % (l + 1)) + 1 - FS (k % (l + 1))).toNat s
def fpS (o : Int → Int) (n W H l : Int) : Nat → Int → PS_ → Int × (Int → Int)
  | 0, k, s => (k, s.2.2.2.1)
  | m + 1, k, s => if (ppS o n W H l k s).1 = 0 then fpS o n W H l m (k + 1) (ppS o n W H l k s) else (if (ppS o n W H l k s).1 = 1 then k else -1, s.2.2.2.1)
def s0S : PS_ := (0, 32, fun _ => 0, fun _ => 0, fun _ => 3)
def tpS (o : Int → Int) (n : Int) : Int × (Int → Int) := if ((1 ≤ o 0 ∧ o 0 ≤ 8) ∧ (1 ≤ o 1 ∧ o 1 ≤ 8)) ∧ (0 ≤ o 2 ∧ o 2 ≤ 3) ∧ (1 ≤ o 3 ∧ o 3 ≤ 3) then fpS o n (o 0) (o 1) (o 2) (o 3 * (o 2 + 1)).toNat 0 s0S else (-1, fun _ => 0)
theorem tpZ_x : ∃ f : (Int → Int) → Int → Int, ∀ o n, f o n = (tpS o n).1 := ⟨fun o n => (tpS o n).1, fun _ _ => rfl⟩
/-- the answer, closed to the tactics -/
noncomputable def tpZ : (Int → Int) → Int → Int := Classical.choose tpZ_x
theorem tpZ_e (o : Int → Int) (n : Int) : tpZ o n = (tpS o n).1 := Classical.choose_spec tpZ_x o n
theorem tpS_n {o : Int → Int} {n : Int} (h : ¬(((1 ≤ o 0 ∧ o 0 ≤ 8) ∧ (1 ≤ o 1 ∧ o 1 ≤ 8)) ∧ (0 ≤ o 2 ∧ o 2 ≤ 3) ∧ (1 ≤ o 3 ∧ o 3 ≤ 3))) : tpS o n = (-1, fun _ => 0) := if_neg h
theorem tpS_p {o : Int → Int} {n : Int} (h : ((1 ≤ o 0 ∧ o 0 ≤ 8) ∧ (1 ≤ o 1 ∧ o 1 ≤ 8)) ∧ (0 ≤ o 2 ∧ o 2 ≤ 3) ∧ (1 ≤ o 3 ∧ o 3 ≤ 3)) : tpS o n = fpS o n (o 0) (o 1) (o 2) (o 3 * (o 2 + 1) - 0).toNat 0 s0S := by
  rw [Int.sub_zero]
  exact if_pos h
theorem fpS_0 {o : Int → Int} {n W H l t k : Int} {s : PS_} (h : t ≤ k) : fpS o n W H l (t - k).toNat k s = (k, s.2.2.2.1) := by
  rw [show (t - k).toNat = 0 by omega]
  rfl
theorem fpS_n {o : Int → Int} {n W H l t k : Int} {s : PS_} (h : k < t) (hz : (ppS o n W H l k s).1 = 0) : fpS o n W H l (t - k).toNat k s = fpS o n W H l (t - (k + 1)).toNat (k + 1) (ppS o n W H l k s) := by
  rw [show (t - k).toNat = (t - (k + 1)).toNat + 1 by omega]
  exact if_pos hz
theorem fpS_x {o : Int → Int} {n W H l t k : Int} {s : PS_} (h : k < t) (hz : (ppS o n W H l k s).1 ≠ 0) : fpS o n W H l (t - k).toNat k s = (if (ppS o n W H l k s).1 = 1 then k else -1, s.2.2.2.1) := by
  rw [show (t - k).toNat = (t - (k + 1)).toNat + 1 by omega]
  exact if_neg hz
/-- the cells between packets -/
def QRQ (p5 c : Int) (c53 c54 c55 : Int → Int) (s : PS_) : Prop := p5 = s.2.1 ∧ ∀ j : Int, 0 ≤ j → j < c → (c54 j ≠ 0 → c53 j = s.2.2.1 j) ∧ c54 j = s.2.2.2.1 j ∧ c55 j = s.2.2.2.2 j
theorem QRQ_c {o : Int → Int} {n W H l k r p5 z : Int} {c53 c54 c55 wd hd : Int → Int} {s : PS_} (h : QRQ p5 (3 * l + 1) c53 c54 c55 s) (hl : 0 ≤ l ∧ l ≤ 3) (hr : r = k % (l + 1)) (hw : ∀ j : Int, 0 ≤ j → j < 3 * l + 1 → wd j = BW W l j ∧ hd j = BH H l j) (hz : EQI z (paS o n wd hd (FS r) (3 * r + 1 - FS r).toNat (0, p5, s.2.2.1, c54, s.2.2.2.2)).1) : EQI z (ppS o n W H l k s).1 := by
  unfold EQI at hz ⊢
  have r2 : 0 ≤ r ∧ r ≤ l := by
    have := Int.emod_nonneg k (show l + 1 ≠ 0 by omega)
    have := Int.emod_lt_of_pos k (show 0 < l + 1 by omega)
    omega
  have f := FS_r (r := r) (by omega)
  have e : hdP o (8 * n) wd hd c54 (FS r) (3 * r + 1 - FS r).toNat p5 s.2.2.1 s.2.2.2.2 = hdP o (8 * n) (BW W l) (BH H l) s.2.2.2.1 (FS r) (3 * r + 1 - FS r).toNat s.2.1 s.2.2.1 s.2.2.2.2 := by
    rw [h.1]
    exact hdP_cg (fun j j0 j1 => ⟨(hw j (by omega) (by omega)).1, (hw j (by omega) (by omega)).2, (h.2 j (by omega) (by omega)).2.1⟩)
  have e2 : z = (paX n (FS r) (3 * r + 1 - FS r).toNat (hdP o (8 * n) wd hd c54 (FS r) (3 * r + 1 - FS r).toNat p5 s.2.2.1 s.2.2.2.2) (0, p5, s.2.2.1, c54, s.2.2.2.2)).1 := hz
  rw [e2, e]
  unfold ppS
  rw [← hr]
  show _ = (paX n (FS r) (3 * r + 1 - FS r).toNat (hdP o (8 * n) (BW W l) (BH H l) s.2.2.2.1 (FS r) (3 * r + 1 - FS r).toNat s.2.1 s.2.2.1 s.2.2.2.2) s).1
  unfold paX
  split
  · rfl
  · split <;> rfl
theorem QRQ_n {o : Int → Int} {n W H l k r p5 p6 : Int} {c53 c54 c55 d53 d54 d55 wd hd : Int → Int} {s : PS_} (h : QRQ p5 (3 * l + 1) c53 c54 c55 s) (hl : 0 ≤ l ∧ l ≤ 3) (hr : r = k % (l + 1)) (hw : ∀ j : Int, 0 ≤ j → j < 3 * l + 1 → wd j = BW W l j ∧ hd j = BH H l j) (hz : EQI 0 (paS o n wd hd (FS r) (3 * r + 1 - FS r).toNat (0, p5, s.2.2.1, c54, s.2.2.2.2)).1)
    (hp : PRQ p6 (FS r) (3 * r + 1) d53 d54 d55 (paS o n wd hd (FS r) (3 * r + 1 - FS r).toNat (0, p5, s.2.2.1, c54, s.2.2.2.2))) (ho : ∀ j : Int, (j < FS r ∨ 3 * r + 1 ≤ j) → d53 j = c53 j ∧ d54 j = c54 j ∧ d55 j = c55 j) (hP : ∀ j : Int, (j < FS r ∨ 3 * r + 1 ≤ j) → (paS o n wd hd (FS r) (3 * r + 1 - FS r).toNat (0, p5, s.2.2.1, c54, s.2.2.2.2)).2.2.1 j = s.2.2.1 j ∧ (paS o n wd hd (FS r) (3 * r + 1 - FS r).toNat (0, p5, s.2.2.1, c54, s.2.2.2.2)).2.2.2.2 j = s.2.2.2.2 j) : QRQ p6 (3 * l + 1) d53 d54 d55 (ppS o n W H l k s) ∧ EQI 0 (ppS o n W H l k s).1 := by
  have r2 : 0 ≤ r ∧ r ≤ l := by
    have := Int.emod_nonneg k (show l + 1 ≠ 0 by omega)
    have := Int.emod_lt_of_pos k (show 0 < l + 1 by omega)
    omega
  have f := FS_r (r := r) (by omega)
  have z : 0 = (ppS o n W H l k s).1 := QRQ_c (z := 0) h hl hr hw hz
  replace hz : (paS o n wd hd (FS r) (3 * r + 1 - FS r).toNat (0, p5, s.2.2.1, c54, s.2.2.2.2)).1 = 0 := Eq.symm hz
  refine ⟨?_, z⟩
  have e : hdP o (8 * n) wd hd c54 (FS r) (3 * r + 1 - FS r).toNat p5 s.2.2.1 s.2.2.2.2 = hdP o (8 * n) (BW W l) (BH H l) s.2.2.2.1 (FS r) (3 * r + 1 - FS r).toNat s.2.1 s.2.2.1 s.2.2.2.2 := by
    rw [h.1]
    exact hdP_cg (fun j j0 j1 => ⟨(hw j (by omega) (by omega)).1, (hw j (by omega) (by omega)).2, (h.2 j (by omega) (by omega)).2.1⟩)
  have e1 : paS o n wd hd (FS r) (3 * r + 1 - FS r).toNat (0, p5, s.2.2.1, c54, s.2.2.2.2) = paX n (FS r) (3 * r + 1 - FS r).toNat (hdP o (8 * n) (BW W l) (BH H l) s.2.2.2.1 (FS r) (3 * r + 1 - FS r).toNat s.2.1 s.2.2.1 s.2.2.2.2) (0, p5, s.2.2.1, c54, s.2.2.2.2) := by
    rw [← e]
    rfl
  have e2 : ppS o n W H l k s = paX n (FS r) (3 * r + 1 - FS r).toNat (hdP o (8 * n) (BW W l) (BH H l) s.2.2.2.1 (FS r) (3 * r + 1 - FS r).toNat s.2.1 s.2.2.1 s.2.2.2.2) s := by
    unfold ppS
    rw [← hr]
    rfl
  rw [e1] at hz hp hP
  rw [e2]
  generalize hdP o (8 * n) (BW W l) (BH H l) s.2.2.2.1 (FS r) (3 * r + 1 - FS r).toNat s.2.1 s.2.2.1 s.2.2.2.2 = X at hz hp hP ⊢
  have c1 : X.1 = 0 := by
    by_cases c : X.1 = 0
    · exact c
    · rw [paX_1 c] at hz
      exact hz
  have c2 : ¬ n - (X.2.1 + 7) / 8 < smS X.2.2.2.2.2 (FS r) (3 * r + 1 - FS r).toNat := fun q => by
    rw [paX_2 c1 q] at hz
    exact absurd hz c1_0
  rw [paX_3 c1 c2] at hp hP ⊢
  refine ⟨hp.1, fun j j0 j1 => ?_⟩
  by_cases y : FS r ≤ j ∧ j < 3 * r + 1
  · have k1 := hp.2 j y.1 y.2
    refine ⟨k1.1, ?_, k1.2.2⟩
    have k2 : d54 j = if FS r ≤ j ∧ j < FS r + ((3 * r + 1 - FS r).toNat : Int) then c54 j + X.2.2.2.2.1 j else c54 j := k1.2.1
    show d54 j = if FS r ≤ j ∧ j < FS r + ((3 * r + 1 - FS r).toNat : Int) then s.2.2.2.1 j + X.2.2.2.2.1 j else s.2.2.2.1 j
    rw [k2, (h.2 j j0 j1).2.1]
  · have k1 := ho j (by omega)
    have k2 := hP j (by omega)
    have k3 := h.2 j j0 j1
    rw [k1.1, k1.2.1, k1.2.2]
    refine ⟨fun q => ?_, ?_, ?_⟩
    · have k4 : X.2.2.1 j = s.2.2.1 j := k2.1
      show c53 j = X.2.2.1 j
      rw [k4]
      exact k3.1 q
    · show c54 j = if FS r ≤ j ∧ j < FS r + ((3 * r + 1 - FS r).toNat : Int) then s.2.2.2.1 j + X.2.2.2.2.1 j else s.2.2.2.1 j
      rw [if_neg (by omega)]
      exact k3.2.1
    · have k4 : X.2.2.2.1 j = s.2.2.2.2 j := k2.2
      show c55 j = X.2.2.2.1 j
      rw [k4]
      exact k3.2.2
theorem hssS_o {o : Int → Int} {e : Int} {wd hd T : Int → Int} {f : Int} {s : HS_} : ∀ (k : Nat) (b : Int), (b < f ∨ f + (k : Int) ≤ b) → (hssS o e wd hd T f k s).2.2.1 b = s.2.2.1 b ∧ (hssS o e wd hd T f k s).2.2.2.1 b = s.2.2.2.1 b
  | 0, _, _ => ⟨rfl, rfl⟩
  | k + 1, b, h => by
    have i := hssS_o (o := o) (e := e) (wd := wd) (hd := hd) (T := T) (f := f) (s := s) k b (by omega)
    show (hs1S o e wd hd T (f + (k : Int)) (hssS o e wd hd T f k s)).2.2.1 b = _ ∧ (hs1S o e wd hd T (f + (k : Int)) (hssS o e wd hd T f k s)).2.2.2.1 b = _
    unfold hs1S
    split
    · exact i
    · show fup _ (f + (k : Int)) _ b = _ ∧ fup _ (f + (k : Int)) _ b = _
      rw [fup_ne _ _ (by omega), fup_ne _ _ (by omega)]
      exact i
theorem paS_o {o : Int → Int} {n : Int} {wd hd : Int → Int} {f : Int} {m : Nat} {s : PS_} {b : Int} (h : b < f ∨ f + (m : Int) ≤ b) : (paS o n wd hd f m s).2.2.1 b = s.2.2.1 b ∧ (paS o n wd hd f m s).2.2.2.2 b = s.2.2.2.2 b := by
  have key : (hdP o (8 * n) wd hd s.2.2.2.1 f m s.2.1 s.2.2.1 s.2.2.2.2).2.2.1 b = s.2.2.1 b ∧ (hdP o (8 * n) wd hd s.2.2.2.1 f m s.2.1 s.2.2.1 s.2.2.2.2).2.2.2.1 b = s.2.2.2.2 b := by
    unfold hdP
    split
    · exact ⟨rfl, rfl⟩
    · split
      · exact ⟨rfl, rfl⟩
      · exact hssS_o m b h
  show (paX n f m (hdP o (8 * n) wd hd s.2.2.2.1 f m s.2.1 s.2.2.1 s.2.2.2.2) s).2.2.1 b = _ ∧ (paX n f m (hdP o (8 * n) wd hd s.2.2.2.1 f m s.2.1 s.2.2.1 s.2.2.2.2) s).2.2.2.2 b = _
  generalize hdP o (8 * n) wd hd s.2.2.2.1 f m s.2.1 s.2.2.1 s.2.2.2.2 = X at key ⊢
  unfold paX
  split
  · exact ⟨rfl, rfl⟩
  · split
    · exact ⟨rfl, rfl⟩
    · exact key
set_option maxRecDepth 20000 in
theorem s_fill54_e (v : Int) (h : Hp_) (hT : TY h) (hv : -2147483648 ≤ v ∧ v ≤ 2147483647) : Ctr yJ7_fill_53178 cJ7_fill_53178 4 none (rmd 0) ly ly 0 0 [vR 54, vI v] h (fun r h' => (TY h' ∧ FR [54] h h') ∧ r = none ∧ (∀ j : Int, 0 ≤ j → j < 10 → (h' 54) j = v)) := by
  refine Ctr_of (by decide) (Nat.le_of_ble_eq_true rfl) ⟨Nat.le_refl _, Nat.le_refl _⟩ (fun K hK hQ _ => ?_)
  show TT K ly 0 0 0 [(0, vR 54), (1, vI v)] [] h
  have hF : FR [54] h h := FR_rf _ _
  refine TT_iconst hK dJ7_fill_53178_0 ?_
  refine TT_istore_n hK rfl (lv' := [(2, vI 0), (0, vR 54), (1, vI v)]) (by decide) rfl dJ7_fill_53178_1 ?_
  refine TT_aload_n hK rfl 1 rfl dJ7_fill_53178_2 ?_
  refine TT_alen hK (o := 54) (t := 12) (n := 10) (v := 10) (by decide) rfl (by decide) rfl dJ7_fill_53178_3 ?_
  refine TT_istore_n hK rfl (lv' := [(3, vI 10), (2, vI 0), (0, vR 54), (1, vI v)]) (by decide) rfl dJ7_fill_53178_4 ?_
  have L5_1 : ∀ (k1 : Nat) (i : Int) (w5_1 : Hp_), TY w5_1 → FR [54] h w5_1 → (0 ≤ i ∧ i ≤ 10) → (∀ j : Int, 0 ≤ j → j < i → (w5_1 54) j = v) → ((10 : Int) - i).toNat < k1 → TT K ly 0 0 5 [(0, vR 54), (1, vI v), (2, vI i), (3, vI 10)] [] w5_1 := by
    intro k1
    induction k1 with
    | zero => intro i w5_1 hT5_1 hF5_1 hi hz hk1; exact absurd hk1 (Nat.not_lt_zero _)
    | succ k1 ih1 =>
      intro i w5_1 hT5_1 hF5_1 hi hz hk1
      refine TT_iload_n hK rfl 2 rfl dJ7_fill_53178_5 ?_
      refine TT_iload_n hK rfl 3 rfl dJ7_fill_53178_6 ?_
      refine TT_icmp_ge hK (tgt := 20) (irm (by omega) (by omega)) (by decide) dJ7_fill_53178_7 (by decide) (fun hb7_2 => ?_) (fun hb7_2 => ?_)
      · refine TT_vret hK hQ ?_ dJ7_fill_53178_20
        exact ⟨⟨hT5_1, hF5_1⟩, rfl, (by intro j h1 h2; exact hz j h1 (by omega))⟩
      · refine TT_aload_n hK rfl 0 rfl dJ7_fill_53178_10 ?_
        refine TT_iload_n hK rfl 2 rfl dJ7_fill_53178_11 ?_
        refine TT_iload_n hK rfl 1 rfl dJ7_fill_53178_12 ?_
        refine TT_iast hK (o := 54) (n := 10) (by decide) rfl (by omega) (by omega) dJ7_fill_53178_13 ?_
        refine TT_hp (h' := setO w5_1 54 (fup (w5_1 54) i v)) (up_can rfl rfl rfl) ?_
        have hT_3 : TY (setO w5_1 54 (fup (w5_1 54) i v)) := tu_54 hT5_1 (show up w5_1 54 i v = (setO w5_1 54 (fup (w5_1 54) i v)) from up_can rfl rfl rfl) (by omega)
        have hF_3 : FR [54] h (setO w5_1 54 (fup (w5_1 54) i v)) := FR_up (show up w5_1 54 i v = (setO w5_1 54 (fup (w5_1 54) i v)) from up_can rfl rfl rfl) hF5_1 (by decide)
        refine TT_iinc hK (v := i + 1) (lv' := [(2, vI (i + 1)), (0, vR 54), (1, vI v), (3, vI 10)]) 2 rfl rfl (by decide) rfl dJ7_fill_53178_14 ?_
        refine TT_goto hK (tgt := 5) dJ7_fill_53178_17 (by decide) ?_
        refine TT_sub [1, 2, 0, 3] rfl ?_
        have e4_54 : (setO w5_1 54 (fup (w5_1 54) i v)) 54 = fup (w5_1 54) i v := sOf_eq _ _ _
        exact ih1 (i + 1) (setO w5_1 54 (fup (w5_1 54) i v)) hT_3 hF_3 (by first | omega | (simp [up, setR] <;> omega)) (by rewrite [e4_54]; intro j h1 h2; by_cases e : j = i; (rw [e, fup_eq]); (rw [fup_ne _ _ e]; exact hz j h1 (by omega))) (by first | omega | (simp [up, setR] <;> omega))
  refine TT_sub [2, 3, 1, 0] rfl ?_
  exact L5_1 ((((10 : Int) - 0).toNat) + 1) 0 h hT hF (by first | omega | (simp [up, setR] <;> omega)) (by intro j h1 h2; exfalso; omega) (Nat.lt_succ_self _)
set_option maxRecDepth 20000 in
theorem s_fill55_e (v : Int) (h : Hp_) (hT : TY h) (hv : -2147483648 ≤ v ∧ v ≤ 2147483647) : Ctr yJ7_fill_53178 cJ7_fill_53178 4 none (rmd 0) ly ly 0 0 [vR 55, vI v] h (fun r h' => (TY h' ∧ FR [55] h h') ∧ r = none ∧ (∀ j : Int, 0 ≤ j → j < 10 → (h' 55) j = v)) := by
  refine Ctr_of (by decide) (Nat.le_of_ble_eq_true rfl) ⟨Nat.le_refl _, Nat.le_refl _⟩ (fun K hK hQ _ => ?_)
  show TT K ly 0 0 0 [(0, vR 55), (1, vI v)] [] h
  have hF : FR [55] h h := FR_rf _ _
  refine TT_iconst hK dJ7_fill_53178_0 ?_
  refine TT_istore_n hK rfl (lv' := [(2, vI 0), (0, vR 55), (1, vI v)]) (by decide) rfl dJ7_fill_53178_1 ?_
  refine TT_aload_n hK rfl 1 rfl dJ7_fill_53178_2 ?_
  refine TT_alen hK (o := 55) (t := 12) (n := 10) (v := 10) (by decide) rfl (by decide) rfl dJ7_fill_53178_3 ?_
  refine TT_istore_n hK rfl (lv' := [(3, vI 10), (2, vI 0), (0, vR 55), (1, vI v)]) (by decide) rfl dJ7_fill_53178_4 ?_
  have L5_1 : ∀ (k1 : Nat) (i : Int) (w5_1 : Hp_), TY w5_1 → FR [55] h w5_1 → (0 ≤ i ∧ i ≤ 10) → (∀ j : Int, 0 ≤ j → j < i → (w5_1 55) j = v) → ((10 : Int) - i).toNat < k1 → TT K ly 0 0 5 [(0, vR 55), (1, vI v), (2, vI i), (3, vI 10)] [] w5_1 := by
    intro k1
    induction k1 with
    | zero => intro i w5_1 hT5_1 hF5_1 hi hz hk1; exact absurd hk1 (Nat.not_lt_zero _)
    | succ k1 ih1 =>
      intro i w5_1 hT5_1 hF5_1 hi hz hk1
      refine TT_iload_n hK rfl 2 rfl dJ7_fill_53178_5 ?_
      refine TT_iload_n hK rfl 3 rfl dJ7_fill_53178_6 ?_
      refine TT_icmp_ge hK (tgt := 20) (irm (by omega) (by omega)) (by decide) dJ7_fill_53178_7 (by decide) (fun hb7_2 => ?_) (fun hb7_2 => ?_)
      · refine TT_vret hK hQ ?_ dJ7_fill_53178_20
        exact ⟨⟨hT5_1, hF5_1⟩, rfl, (by intro j h1 h2; exact hz j h1 (by omega))⟩
      · refine TT_aload_n hK rfl 0 rfl dJ7_fill_53178_10 ?_
        refine TT_iload_n hK rfl 2 rfl dJ7_fill_53178_11 ?_
        refine TT_iload_n hK rfl 1 rfl dJ7_fill_53178_12 ?_
        refine TT_iast hK (o := 55) (n := 10) (by decide) rfl (by omega) (by omega) dJ7_fill_53178_13 ?_
        refine TT_hp (h' := setO w5_1 55 (fup (w5_1 55) i v)) (up_can rfl rfl rfl) ?_
        have hT_3 : TY (setO w5_1 55 (fup (w5_1 55) i v)) := tu_55 hT5_1 (show up w5_1 55 i v = (setO w5_1 55 (fup (w5_1 55) i v)) from up_can rfl rfl rfl) (by omega)
        have hF_3 : FR [55] h (setO w5_1 55 (fup (w5_1 55) i v)) := FR_up (show up w5_1 55 i v = (setO w5_1 55 (fup (w5_1 55) i v)) from up_can rfl rfl rfl) hF5_1 (by decide)
        refine TT_iinc hK (v := i + 1) (lv' := [(2, vI (i + 1)), (0, vR 55), (1, vI v), (3, vI 10)]) 2 rfl rfl (by decide) rfl dJ7_fill_53178_14 ?_
        refine TT_goto hK (tgt := 5) dJ7_fill_53178_17 (by decide) ?_
        refine TT_sub [1, 2, 0, 3] rfl ?_
        have e4_55 : (setO w5_1 55 (fup (w5_1 55) i v)) 55 = fup (w5_1 55) i v := sOf_eq _ _ _
        exact ih1 (i + 1) (setO w5_1 55 (fup (w5_1 55) i v)) hT_3 hF_3 (by first | omega | (simp [up, setR] <;> omega)) (by rewrite [e4_55]; intro j h1 h2; by_cases e : j = i; (rw [e, fup_eq]); (rw [fup_ne _ _ e]; exact hz j h1 (by omega))) (by first | omega | (simp [up, setR] <;> omega))
  refine TT_sub [2, 3, 1, 0] rfl ?_
  exact L5_1 ((((10 : Int) - 0).toNat) + 1) 0 h hT hF (by first | omega | (simp [up, setR] <;> omega)) (by intro j h1 h2; exfalso; omega) (Nat.lt_succ_self _)
set_option maxRecDepth 20000 in
theorem s_fill58_e (v : Int) (h : Hp_) (hT : TY h) (hv : 0 ≤ v ∧ v ≤ 3) : Ctr yJ7_fill_53178 cJ7_fill_53178 4 none (rmd 0) ly ly 0 0 [vR 58, vI v] h (fun r h' => (TY h' ∧ FR [58] h h') ∧ r = none ∧ (∀ j : Int, 0 ≤ j → j < 10 → (h' 58) j = v)) := by
  refine Ctr_of (by decide) (Nat.le_of_ble_eq_true rfl) ⟨Nat.le_refl _, Nat.le_refl _⟩ (fun K hK hQ _ => ?_)
  show TT K ly 0 0 0 [(0, vR 58), (1, vI v)] [] h
  have hF : FR [58] h h := FR_rf _ _
  refine TT_iconst hK dJ7_fill_53178_0 ?_
  refine TT_istore_n hK rfl (lv' := [(2, vI 0), (0, vR 58), (1, vI v)]) (by decide) rfl dJ7_fill_53178_1 ?_
  refine TT_aload_n hK rfl 1 rfl dJ7_fill_53178_2 ?_
  refine TT_alen hK (o := 58) (t := 12) (n := 10) (v := 10) (by decide) rfl (by decide) rfl dJ7_fill_53178_3 ?_
  refine TT_istore_n hK rfl (lv' := [(3, vI 10), (2, vI 0), (0, vR 58), (1, vI v)]) (by decide) rfl dJ7_fill_53178_4 ?_
  have L5_1 : ∀ (k1 : Nat) (i : Int) (w5_1 : Hp_), TY w5_1 → FR [58] h w5_1 → (0 ≤ i ∧ i ≤ 10) → (∀ j : Int, 0 ≤ j → j < i → (w5_1 58) j = v) → ((10 : Int) - i).toNat < k1 → TT K ly 0 0 5 [(0, vR 58), (1, vI v), (2, vI i), (3, vI 10)] [] w5_1 := by
    intro k1
    induction k1 with
    | zero => intro i w5_1 hT5_1 hF5_1 hi hz hk1; exact absurd hk1 (Nat.not_lt_zero _)
    | succ k1 ih1 =>
      intro i w5_1 hT5_1 hF5_1 hi hz hk1
      refine TT_iload_n hK rfl 2 rfl dJ7_fill_53178_5 ?_
      refine TT_iload_n hK rfl 3 rfl dJ7_fill_53178_6 ?_
      refine TT_icmp_ge hK (tgt := 20) (irm (by omega) (by omega)) (by decide) dJ7_fill_53178_7 (by decide) (fun hb7_2 => ?_) (fun hb7_2 => ?_)
      · refine TT_vret hK hQ ?_ dJ7_fill_53178_20
        exact ⟨⟨hT5_1, hF5_1⟩, rfl, (by intro j h1 h2; exact hz j h1 (by omega))⟩
      · refine TT_aload_n hK rfl 0 rfl dJ7_fill_53178_10 ?_
        refine TT_iload_n hK rfl 2 rfl dJ7_fill_53178_11 ?_
        refine TT_iload_n hK rfl 1 rfl dJ7_fill_53178_12 ?_
        refine TT_iast hK (o := 58) (n := 10) (by decide) rfl (by omega) (by omega) dJ7_fill_53178_13 ?_
        refine TT_hp (h' := setO w5_1 58 (fup (w5_1 58) i v)) (up_can rfl rfl rfl) ?_
        have hT_3 : TY (setO w5_1 58 (fup (w5_1 58) i v)) := tu_58 hT5_1 (show up w5_1 58 i v = (setO w5_1 58 (fup (w5_1 58) i v)) from up_can rfl rfl rfl) (by omega)
        have hF_3 : FR [58] h (setO w5_1 58 (fup (w5_1 58) i v)) := FR_up (show up w5_1 58 i v = (setO w5_1 58 (fup (w5_1 58) i v)) from up_can rfl rfl rfl) hF5_1 (by decide)
        refine TT_iinc hK (v := i + 1) (lv' := [(2, vI (i + 1)), (0, vR 58), (1, vI v), (3, vI 10)]) 2 rfl rfl (by decide) rfl dJ7_fill_53178_14 ?_
        refine TT_goto hK (tgt := 5) dJ7_fill_53178_17 (by decide) ?_
        refine TT_sub [1, 2, 0, 3] rfl ?_
        have e4_58 : (setO w5_1 58 (fup (w5_1 58) i v)) 58 = fup (w5_1 58) i v := sOf_eq _ _ _
        exact ih1 (i + 1) (setO w5_1 58 (fup (w5_1 58) i v)) hT_3 hF_3 (by first | omega | (simp [up, setR] <;> omega)) (by rewrite [e4_58]; intro j h1 h2; by_cases e : j = i; (rw [e, fup_eq]); (rw [fup_ne _ _ e]; exact hz j h1 (by omega))) (by first | omega | (simp [up, setR] <;> omega))
  refine TT_sub [2, 3, 1, 0] rfl ?_
  exact L5_1 ((((10 : Int) - 0).toNat) + 1) 0 h hT hF (by first | omega | (simp [up, setR] <;> omega)) (by intro j h1 h2; exfalso; omega) (Nat.lt_succ_self _)
set_option maxRecDepth 20000 in
theorem s_layBand45_x (b x y p q : Int) (h : Hp_) (hT : TY h) (hb : 0 ≤ b ∧ b ≤ 9) (hx : 0 ≤ x ∧ x ≤ 8) (hy : 0 ≤ y ∧ y ≤ 8) (hp : 0 ≤ p ∧ p ≤ 8) (hq : 0 ≤ q ∧ q ≤ 8) (h1 : x + p ≤ 8) (h2 : y + q ≤ 8) (hbd : BDQ (h 47) (h 49) (h 48) (h 50)) : Ctr yX0_layBand cX0_layBand 6 none (rmd 0) ly ly 0 0 [vR 45, vI b, vI x, vI y, vI p, vI q] h (fun r h' => (TY h' ∧ FR [47, 48, 49, 50] h h') ∧ r = none ∧ (BDQ (h' 47) (h' 49) (h' 48) (h' 50)) ∧ ((h' 47) = fup (h 47) b x) ∧ ((h' 48) = fup (h 48) b y) ∧ ((h' 49) = fup (h 49) b p) ∧ ((h' 50) = fup (h 50) b q)) := by
  refine Ctr_of (by decide) (Nat.le_of_ble_eq_true rfl) ⟨Nat.le_refl _, Nat.le_refl _⟩ (fun K hK hQ _ => ?_)
  show TT K ly 0 0 0 [(0, vR 45), (1, vI b), (2, vI x), (3, vI y), (4, vI p), (5, vI q)] [] h
  have hF : FR [47, 48, 49, 50] h h := FR_rf _ _
  refine TT_aload_n hK rfl 0 rfl dX0_layBand_0 ?_
  refine gf_X0_15 hK (by decide) rfl (q := 47) rfl rfl dX0_layBand_1 ?_
  refine TT_iload_n hK rfl 1 rfl dX0_layBand_4 ?_
  refine TT_iload_n hK rfl 2 rfl dX0_layBand_5 ?_
  refine TT_iast hK (o := 47) (n := 10) (by decide) rfl (by omega) (by omega) dX0_layBand_6 ?_
  refine TT_hp (h' := setO h 47 (fup (h 47) b x)) (up_can rfl rfl rfl) ?_
  have hT_1 : TY (setO h 47 (fup (h 47) b x)) := tu_47 hT (show up h 47 b x = (setO h 47 (fup (h 47) b x)) from up_can rfl rfl rfl) (by omega)
  have hF_1 : FR [47, 48, 49, 50] h (setO h 47 (fup (h 47) b x)) := FR_up (show up h 47 b x = (setO h 47 (fup (h 47) b x)) from up_can rfl rfl rfl) hF (by decide)
  refine TT_aload_n hK rfl 0 rfl dX0_layBand_7 ?_
  refine gf_X0_18 hK (by decide) rfl (q := 48) rfl rfl dX0_layBand_8 ?_
  refine TT_iload_n hK rfl 1 rfl dX0_layBand_11 ?_
  refine TT_iload_n hK rfl 3 rfl dX0_layBand_12 ?_
  refine TT_iast hK (o := 48) (n := 10) (by decide) rfl (by omega) (by omega) dX0_layBand_13 ?_
  refine TT_hp (h' := setO (setO h 47 (fup (h 47) b x)) 48 (fup (h 48) b y)) (up_can (sOf_ne _ _ (by decide)) rfl rfl) ?_
  have hT_2 : TY (setO (setO h 47 (fup (h 47) b x)) 48 (fup (h 48) b y)) := tu_48 hT_1 (show up (setO h 47 (fup (h 47) b x)) 48 b y = (setO (setO h 47 (fup (h 47) b x)) 48 (fup (h 48) b y)) from up_can (sOf_ne _ _ (by decide)) rfl rfl) (by omega)
  have hF_2 : FR [47, 48, 49, 50] h (setO (setO h 47 (fup (h 47) b x)) 48 (fup (h 48) b y)) := FR_up (show up (setO h 47 (fup (h 47) b x)) 48 b y = (setO (setO h 47 (fup (h 47) b x)) 48 (fup (h 48) b y)) from up_can (sOf_ne _ _ (by decide)) rfl rfl) hF_1 (by decide)
  refine TT_aload_n hK rfl 0 rfl dX0_layBand_14 ?_
  refine gf_X0_21 hK (by decide) rfl (q := 49) rfl rfl dX0_layBand_15 ?_
  refine TT_iload_n hK rfl 1 rfl dX0_layBand_18 ?_
  refine TT_iload hK 4 rfl dX0_layBand_19 ?_
  refine TT_iast hK (o := 49) (n := 10) (by decide) rfl (by omega) (by omega) dX0_layBand_21 ?_
  refine TT_hp (h' := setO (setO (setO h 47 (fup (h 47) b x)) 48 (fup (h 48) b y)) 49 (fup (h 49) b p)) (up_can ((sOf_ne _ _ (by decide)).trans (sOf_ne _ _ (by decide))) rfl rfl) ?_
  have hT_3 : TY (setO (setO (setO h 47 (fup (h 47) b x)) 48 (fup (h 48) b y)) 49 (fup (h 49) b p)) := tu_49 hT_2 (show up (setO (setO h 47 (fup (h 47) b x)) 48 (fup (h 48) b y)) 49 b p = (setO (setO (setO h 47 (fup (h 47) b x)) 48 (fup (h 48) b y)) 49 (fup (h 49) b p)) from up_can ((sOf_ne _ _ (by decide)).trans (sOf_ne _ _ (by decide))) rfl rfl) (by omega)
  have hF_3 : FR [47, 48, 49, 50] h (setO (setO (setO h 47 (fup (h 47) b x)) 48 (fup (h 48) b y)) 49 (fup (h 49) b p)) := FR_up (show up (setO (setO h 47 (fup (h 47) b x)) 48 (fup (h 48) b y)) 49 b p = (setO (setO (setO h 47 (fup (h 47) b x)) 48 (fup (h 48) b y)) 49 (fup (h 49) b p)) from up_can ((sOf_ne _ _ (by decide)).trans (sOf_ne _ _ (by decide))) rfl rfl) hF_2 (by decide)
  refine TT_aload_n hK rfl 0 rfl dX0_layBand_22 ?_
  refine gf_X0_24 hK (by decide) rfl (q := 50) rfl rfl dX0_layBand_23 ?_
  refine TT_iload_n hK rfl 1 rfl dX0_layBand_26 ?_
  refine TT_iload hK 5 rfl dX0_layBand_27 ?_
  refine TT_iast hK (o := 50) (n := 10) (by decide) rfl (by omega) (by omega) dX0_layBand_29 ?_
  refine TT_hp (h' := setO (setO (setO (setO h 47 (fup (h 47) b x)) 48 (fup (h 48) b y)) 49 (fup (h 49) b p)) 50 (fup (h 50) b q)) (up_can ((sOf_ne _ _ (by decide)).trans ((sOf_ne _ _ (by decide)).trans (sOf_ne _ _ (by decide)))) rfl rfl) ?_
  have hT_4 : TY (setO (setO (setO (setO h 47 (fup (h 47) b x)) 48 (fup (h 48) b y)) 49 (fup (h 49) b p)) 50 (fup (h 50) b q)) := tu_50 hT_3 (show up (setO (setO (setO h 47 (fup (h 47) b x)) 48 (fup (h 48) b y)) 49 (fup (h 49) b p)) 50 b q = (setO (setO (setO (setO h 47 (fup (h 47) b x)) 48 (fup (h 48) b y)) 49 (fup (h 49) b p)) 50 (fup (h 50) b q)) from up_can ((sOf_ne _ _ (by decide)).trans ((sOf_ne _ _ (by decide)).trans (sOf_ne _ _ (by decide)))) rfl rfl) (by omega)
  have hF_4 : FR [47, 48, 49, 50] h (setO (setO (setO (setO h 47 (fup (h 47) b x)) 48 (fup (h 48) b y)) 49 (fup (h 49) b p)) 50 (fup (h 50) b q)) := FR_up (show up (setO (setO (setO h 47 (fup (h 47) b x)) 48 (fup (h 48) b y)) 49 (fup (h 49) b p)) 50 b q = (setO (setO (setO (setO h 47 (fup (h 47) b x)) 48 (fup (h 48) b y)) 49 (fup (h 49) b p)) 50 (fup (h 50) b q)) from up_can ((sOf_ne _ _ (by decide)).trans ((sOf_ne _ _ (by decide)).trans (sOf_ne _ _ (by decide)))) rfl rfl) hF_3 (by decide)
  refine TT_vret hK hQ ?_ dX0_layBand_30
  have e5_47 : (setO (setO (setO (setO h 47 (fup (h 47) b x)) 48 (fup (h 48) b y)) 49 (fup (h 49) b p)) 50 (fup (h 50) b q)) 47 = fup (h 47) b x := (sOf_ne _ _ (by decide)).trans ((sOf_ne _ _ (by decide)).trans ((sOf_ne _ _ (by decide)).trans (sOf_eq _ _ _)))
  have e6_48 : (setO (setO (setO (setO h 47 (fup (h 47) b x)) 48 (fup (h 48) b y)) 49 (fup (h 49) b p)) 50 (fup (h 50) b q)) 48 = fup (h 48) b y := (sOf_ne _ _ (by decide)).trans ((sOf_ne _ _ (by decide)).trans (sOf_eq _ _ _))
  have e7_49 : (setO (setO (setO (setO h 47 (fup (h 47) b x)) 48 (fup (h 48) b y)) 49 (fup (h 49) b p)) 50 (fup (h 50) b q)) 49 = fup (h 49) b p := (sOf_ne _ _ (by decide)).trans (sOf_eq _ _ _)
  have e8_50 : (setO (setO (setO (setO h 47 (fup (h 47) b x)) 48 (fup (h 48) b y)) 49 (fup (h 49) b p)) 50 (fup (h 50) b q)) 50 = fup (h 50) b q := sOf_eq _ _ _
  have e9_47 : (setO (setO (setO (setO h 47 (fup (h 47) b x)) 48 (fup (h 48) b y)) 49 (fup (h 49) b p)) 50 (fup (h 50) b q)) 47 = fup (h 47) b x := (sOf_ne _ _ (by decide)).trans ((sOf_ne _ _ (by decide)).trans ((sOf_ne _ _ (by decide)).trans (sOf_eq _ _ _)))
  have e10_48 : (setO (setO (setO (setO h 47 (fup (h 47) b x)) 48 (fup (h 48) b y)) 49 (fup (h 49) b p)) 50 (fup (h 50) b q)) 48 = fup (h 48) b y := (sOf_ne _ _ (by decide)).trans ((sOf_ne _ _ (by decide)).trans (sOf_eq _ _ _))
  have e11_49 : (setO (setO (setO (setO h 47 (fup (h 47) b x)) 48 (fup (h 48) b y)) 49 (fup (h 49) b p)) 50 (fup (h 50) b q)) 49 = fup (h 49) b p := (sOf_ne _ _ (by decide)).trans (sOf_eq _ _ _)
  have e12_50 : (setO (setO (setO (setO h 47 (fup (h 47) b x)) 48 (fup (h 48) b y)) 49 (fup (h 49) b p)) 50 (fup (h 50) b q)) 50 = fup (h 50) b q := sOf_eq _ _ _
  exact ⟨⟨hT_4, hF_4⟩, rfl, (by rewrite [e5_47, e6_48, e7_49, e8_50]; exact BDQ_up hbd h1 h2), (by rewrite [e9_47]; rfl), (by rewrite [e10_48]; rfl), (by rewrite [e11_49]; rfl), (by rewrite [e12_50]; rfl)⟩
set_option maxRecDepth 20000 in
theorem s_lay45_x (wq eq lq : Int) (h : Hp_) (hT : TY h) (hwq : 0 ≤ wq ∧ wq ≤ 8) (heq : 0 ≤ eq ∧ eq ≤ 8) (hlq : 0 ≤ lq ∧ lq ≤ 3) (hbd : BDQ (h 47) (h 49) (h 48) (h 50)) : Ctr yX0_lay cX0_lay 10 none (rmd 1) ly ly 0 0 [vR 45, vI wq, vI eq, vI lq] h (fun r h' => (TY h' ∧ FR [45, 47, 48, 49, 50] h h') ∧ r = none ∧ (BDQ (h' 47) (h' 49) (h' 48) (h' 50)) ∧ ((h' 45 7) = wq ∧ (h' 45 8) = eq ∧ (h' 45 9) = lq ∧ (h' 45 10) = 3 * lq + 1) ∧ (∀ b : Int, 0 ≤ b → b < 3 * lq + 1 → LAQ wq eq lq b ((h' 47) b) ((h' 48) b) ((h' 49) b) ((h' 50) b))) := by
  refine Ctr_of (by decide) (Nat.le_of_ble_eq_true rfl) ⟨Nat.le_refl _, Nat.le_refl _⟩ (fun K hK hQ _ => ?_)
  show TT K ly 0 0 0 [(0, vR 45), (1, vI wq), (2, vI eq), (3, vI lq)] [] h
  have hF : FR [45, 47, 48, 49, 50] h h := FR_rf _ _
  refine TT_aload_n hK rfl 0 rfl dX0_lay_0 ?_
  refine TT_iload_n hK rfl 1 rfl dX0_lay_1 ?_
  refine pf_X0_33 hK (by decide) rfl dX0_lay_2 ?_
  refine TT_hp (h' := setO h 45 (fup (h 45) 7 wq)) (up_can rfl rfl rfl) ?_
  have hT_1 : TY (setO h 45 (fup (h 45) 7 wq)) := tu_45_7 hT (show up h 45 7 wq = (setO h 45 (fup (h 45) 7 wq)) from up_can rfl rfl rfl) (by omega)
  have hF_1 : FR [45, 47, 48, 49, 50] h (setO h 45 (fup (h 45) 7 wq)) := FR_up (show up h 45 7 wq = (setO h 45 (fup (h 45) 7 wq)) from up_can rfl rfl rfl) hF (by decide)
  refine TT_aload_n hK rfl 0 rfl dX0_lay_5 ?_
  refine TT_iload_n hK rfl 2 rfl dX0_lay_6 ?_
  refine pf_X0_37 hK (by decide) rfl dX0_lay_7 ?_
  refine TT_hp (h' := setO h 45 (fup (fup (h 45) 7 wq) 8 eq)) (up_can (sOf_eq _ _ _) rfl (setO_same _ _ _ _)) ?_
  have hT_2 : TY (setO h 45 (fup (fup (h 45) 7 wq) 8 eq)) := tu_45_8 hT_1 (show up (setO h 45 (fup (h 45) 7 wq)) 45 8 eq = (setO h 45 (fup (fup (h 45) 7 wq) 8 eq)) from up_can (sOf_eq _ _ _) rfl (setO_same _ _ _ _)) (by omega)
  have hF_2 : FR [45, 47, 48, 49, 50] h (setO h 45 (fup (fup (h 45) 7 wq) 8 eq)) := FR_up (show up (setO h 45 (fup (h 45) 7 wq)) 45 8 eq = (setO h 45 (fup (fup (h 45) 7 wq) 8 eq)) from up_can (sOf_eq _ _ _) rfl (setO_same _ _ _ _)) hF_1 (by decide)
  refine TT_aload_n hK rfl 0 rfl dX0_lay_10 ?_
  refine TT_iload_n hK rfl 3 rfl dX0_lay_11 ?_
  refine pf_X0_40 hK (by decide) rfl dX0_lay_12 ?_
  refine TT_hp (h' := setO h 45 (fup (fup (fup (h 45) 7 wq) 8 eq) 9 lq)) (up_can (sOf_eq _ _ _) rfl (setO_same _ _ _ _)) ?_
  have hT_3 : TY (setO h 45 (fup (fup (fup (h 45) 7 wq) 8 eq) 9 lq)) := tu_45_9 hT_2 (show up (setO h 45 (fup (fup (h 45) 7 wq) 8 eq)) 45 9 lq = (setO h 45 (fup (fup (fup (h 45) 7 wq) 8 eq) 9 lq)) from up_can (sOf_eq _ _ _) rfl (setO_same _ _ _ _)) (by omega)
  have hF_3 : FR [45, 47, 48, 49, 50] h (setO h 45 (fup (fup (fup (h 45) 7 wq) 8 eq) 9 lq)) := FR_up (show up (setO h 45 (fup (fup (h 45) 7 wq) 8 eq)) 45 9 lq = (setO h 45 (fup (fup (fup (h 45) 7 wq) 8 eq) 9 lq)) from up_can (sOf_eq _ _ _) rfl (setO_same _ _ _ _)) hF_2 (by decide)
  refine TT_aload_n hK rfl 0 rfl dX0_lay_15 ?_
  refine TT_iconst hK dX0_lay_16 ?_
  refine TT_aload_n hK rfl 0 rfl dX0_lay_17 ?_
  refine gf_X0_40 hK (by decide) rfl (v := lq) (rd_ (sOf_eq _ _ _) (fup_eq _ _ _)) dX0_lay_18 ?_
  have r4 := ty_45_9 (v := lq) hT_3 (rd_ (sOf_eq _ _ _) (fup_eq _ _ _))
  refine TT_imul hK dX0_lay_21 ?_
  refine TT_iconst hK dX0_lay_22 ?_
  refine TT_iadd hK dX0_lay_23 ?_
  refine pf_X0_43 hK (by decide) rfl dX0_lay_24 ?_
  refine TT_hp (h' := setO h 45 (fup (fup (fup (fup (h 45) 7 wq) 8 eq) 9 lq) 10 ((3 * lq) + 1))) (up_can (sOf_eq _ _ _) rfl (setO_same _ _ _ _)) ?_
  have hT_5 : TY (setO h 45 (fup (fup (fup (fup (h 45) 7 wq) 8 eq) 9 lq) 10 ((3 * lq) + 1))) := tu_45_10 hT_3 (show up (setO h 45 (fup (fup (fup (h 45) 7 wq) 8 eq) 9 lq)) 45 10 ((3 * lq) + 1) = (setO h 45 (fup (fup (fup (fup (h 45) 7 wq) 8 eq) 9 lq) 10 ((3 * lq) + 1))) from up_can (sOf_eq _ _ _) rfl (setO_same _ _ _ _)) (by omega)
  have hF_5 : FR [45, 47, 48, 49, 50] h (setO h 45 (fup (fup (fup (fup (h 45) 7 wq) 8 eq) 9 lq) 10 ((3 * lq) + 1))) := FR_up (show up (setO h 45 (fup (fup (fup (h 45) 7 wq) 8 eq) 9 lq)) 45 10 ((3 * lq) + 1) = (setO h 45 (fup (fup (fup (fup (h 45) 7 wq) 8 eq) 9 lq) 10 ((3 * lq) + 1))) from up_can (sOf_eq _ _ _) rfl (setO_same _ _ _ _)) hF_3 (by decide)
  refine TT_iconst hK dX0_lay_27 ?_
  refine TT_istore hK (lv' := [(4, vI 1), (0, vR 45), (1, vI wq), (2, vI eq), (3, vI lq)]) (by decide) rfl dX0_lay_28 ?_
  have L30_6 : ∀ (k6 : Nat) (lv9 : Int) (w30_6 : Hp_), TY w30_6 → FR [45, 47, 48, 49, 50] h w30_6 → (1 ≤ lv9 ∧ lv9 ≤ lq + 1) → (BDQ (w30_6 47) (w30_6 49) (w30_6 48) (w30_6 50)) → ((w30_6 45 7) = wq) → ((w30_6 45 8) = eq) → ((w30_6 45 9) = lq) → ((w30_6 45 10) = 3 * lq + 1) → (∀ b : Int, 3 * (lq - lv9 + 1) + 1 ≤ b → b < 3 * lq + 1 → LAQ wq eq lq b ((w30_6 47) b) ((w30_6 48) b) ((w30_6 49) b) ((w30_6 50) b)) → ((4 : Int) - lv9).toNat < k6 → TT K ly 0 0 30 [(0, vR 45), (4, vI lv9)] [] w30_6 := by
    intro k6
    induction k6 with
    | zero => intro lv9 w30_6 hT30_6 hF30_6 hlv hb9 kw ke kl kc hly hk6; exact absurd hk6 (Nat.not_lt_zero _)
    | succ k6 ih6 =>
      intro lv9 w30_6 hT30_6 hF30_6 hlv hb9 kw ke kl kc hly hk6
      refine TT_iload hK 1 rfl dX0_lay_30 ?_
      refine TT_aload_n hK rfl 0 rfl dX0_lay_32 ?_
      refine gf_X0_40 hK (by decide) rfl (v := (w30_6 45) 9) rfl dX0_lay_33 ?_
      have r7 := ty_45_9 (v := (w30_6 45) 9) hT30_6 rfl
      refine TT_cgI (b := lq) (by exact kl) ?_
      refine TT_icmp_gt hK (tgt := 162) (irm (by omega) (by omega)) (irm (by omega) (by omega)) dX0_lay_36 (by decide) (fun hb36_8 => ?_) (fun hb36_8 => ?_)
      · refine TT_aload_n hK rfl 0 rfl dX0_lay_162 ?_
        refine TT_iconst hK dX0_lay_163 ?_
        refine TT_iconst hK dX0_lay_164 ?_
        refine TT_iconst hK dX0_lay_165 ?_
        refine TT_aload_n hK rfl 0 rfl dX0_lay_166 ?_
        refine gf_X0_33 hK (by decide) rfl (v := (w30_6 45) 7) rfl dX0_lay_167 ?_
        have r9 := ty_45_7 (v := (w30_6 45) 7) hT30_6 rfl
        refine TT_cgI (b := wq) (by exact kw) ?_
        refine TT_aload_n hK rfl 0 rfl dX0_lay_170 ?_
        refine gf_X0_40 hK (by decide) rfl (v := (w30_6 45) 9) rfl dX0_lay_171 ?_
        refine TT_cgI (b := lq) (by exact kl) ?_
        refine iv_X0_46 hK (s_sideAfter_x wq lq w30_6 hT30_6 (by first | omega | (simp [up, setR] <;> omega)) (by first | omega | (simp [up, setR] <;> omega))) ⟨by decide, by decide⟩ (by decide) rfl rfl (Nat.le_of_ble_eq_true rfl) ⟨by decide, by decide⟩ dX0_lay_174 ?_
        intro r9 g174_10 hp9
        obtain ⟨⟨hT_10, hG_10⟩, z174_10, hr9, hz_10, p1_10⟩ := hp9
        rw [hr9]
        have hF_10 : FR [45, 47, 48, 49, 50] h g174_10 := FR_tr hF30_6 hG_10 (by decide)
        have p1_at174 := p1_10
        show TT K ly 0 0 177 [(0, vR 45), (4, vI lv9)] [vI z174_10, vI 0, vI 0, vI 0, vR 45] g174_10
        refine TT_aload_n hK rfl 0 rfl dX0_lay_177 ?_
        refine gf_X0_37 hK (by decide) rfl (v := (w30_6 45) 8) (rd_ (hG_10 45 (by decide)) rfl) dX0_lay_178 ?_
        have r11 := ty_45_8 (v := (w30_6 45) 8) hT_10 (rd_ (hG_10 45 (by decide)) rfl)
        refine TT_cgI (b := eq) (by exact ke) ?_
        refine TT_aload_n hK rfl 0 rfl dX0_lay_181 ?_
        refine gf_X0_40 hK (by decide) rfl (v := (w30_6 45) 9) (rd_ (hG_10 45 (by decide)) rfl) dX0_lay_182 ?_
        refine TT_cgI (b := lq) (by exact kl) ?_
        refine iv_X0_46 hK (s_sideAfter_x eq lq g174_10 hT_10 (by first | omega | (simp [up, setR] <;> omega)) (by first | omega | (simp [up, setR] <;> omega))) ⟨by decide, by decide⟩ (by decide) rfl rfl (Nat.le_of_ble_eq_true rfl) ⟨by decide, by decide⟩ dX0_lay_185 ?_
        intro r9 g185_12 hp9
        obtain ⟨⟨hT_12, hG_12⟩, z185_12, hr9, hz_12, p1_12⟩ := hp9
        rw [hr9]
        have hF_12 : FR [45, 47, 48, 49, 50] h g185_12 := FR_tr hF_10 hG_12 (by decide)
        have p1_at185 := p1_12
        show TT K ly 0 0 188 [(0, vR 45), (4, vI lv9)] [vI z185_12, vI z174_10, vI 0, vI 0, vI 0, vR 45] g185_12
        have e13_47 : g185_12 47 = w30_6 47 := ((hG_12 47 (by decide))).trans (hG_10 47 (by decide))
        have e14_48 : g185_12 48 = w30_6 48 := ((hG_12 48 (by decide))).trans (hG_10 48 (by decide))
        have e15_49 : g185_12 49 = w30_6 49 := ((hG_12 49 (by decide))).trans (hG_10 49 (by decide))
        have e16_50 : g185_12 50 = w30_6 50 := ((hG_12 50 (by decide))).trans (hG_10 50 (by decide))
        refine iv_X0_50 hK (s_layBand45_x 0 0 0 z174_10 z185_12 g185_12 hT_12 (by first | omega | (simp [up, setR] <;> omega)) (by first | omega | (simp [up, setR] <;> omega)) (by first | omega | (simp [up, setR] <;> omega)) (by first | omega | (simp [up, setR] <;> omega)) (by first | omega | (simp [up, setR] <;> omega)) (by first | omega | (simp [up, setR] <;> omega)) (by first | omega | (simp [up, setR] <;> omega)) (by rewrite [e13_47, e14_48, e15_49, e16_50]; assumption)) (by decide) rfl ⟨by decide, by decide⟩ (by decide) rfl rfl (Nat.le_of_ble_eq_true rfl) ⟨by decide, by decide⟩ dX0_lay_188 ?_
        intro r9 g188_17 hp9
        obtain ⟨⟨hT_17, hG_17⟩, hr9, p1_17, u1_17, u2_17, u3_17, u4_17⟩ := hp9
        rw [hr9]
        have hF_17 : FR [45, 47, 48, 49, 50] h g188_17 := FR_tr hF_12 hG_17 (by decide)
        rw [show g185_12 47 = w30_6 47 from ((hG_12 47 (by decide))).trans (hG_10 47 (by decide))] at u1_17
        rw [show g185_12 48 = w30_6 48 from ((hG_12 48 (by decide))).trans (hG_10 48 (by decide))] at u2_17
        rw [show g185_12 49 = w30_6 49 from ((hG_12 49 (by decide))).trans (hG_10 49 (by decide))] at u3_17
        rw [show g185_12 50 = w30_6 50 from ((hG_12 50 (by decide))).trans (hG_10 50 (by decide))] at u4_17
        have u1_at188 := u1_17
        have u2_at188 := u2_17
        have u3_at188 := u3_17
        have u4_at188 := u4_17
        show TT K ly 0 0 191 [(0, vR 45), (4, vI lv9)] [] g188_17
        refine TT_vret hK hQ ?_ dX0_lay_191
        have e18_45_10 : g188_17 45 10 = (w30_6 45) 10 := rd_ (((hG_17 45 (by decide))).trans (((hG_12 45 (by decide))).trans (hG_10 45 (by decide)))) rfl
        have e19_45_7 : g188_17 45 7 = (w30_6 45) 7 := rd_ (((hG_17 45 (by decide))).trans (((hG_12 45 (by decide))).trans (hG_10 45 (by decide)))) rfl
        have e20_45_8 : g188_17 45 8 = (w30_6 45) 8 := rd_ (((hG_17 45 (by decide))).trans (((hG_12 45 (by decide))).trans (hG_10 45 (by decide)))) rfl
        have e21_45_9 : g188_17 45 9 = (w30_6 45) 9 := rd_ (((hG_17 45 (by decide))).trans (((hG_12 45 (by decide))).trans (hG_10 45 (by decide)))) rfl
        exact ⟨⟨hT_17, hF_17⟩, rfl, (by assumption), (by rewrite [e18_45_10, e19_45_7, e20_45_8, e21_45_9]; exact ⟨kw, ke, kl, kc⟩), (by intro b h1 h2; rw [u1_at188, u2_at188, u3_at188, u4_at188]; by_cases e : b = 0; (rw [e, fup_eq, fup_eq, fup_eq, fup_eq]; exact LAQ_0 p1_at174 p1_at185); (rw [fup_ne _ _ e, fup_ne _ _ e, fup_ne _ _ e, fup_ne _ _ e]; exact hly b (by omega) h2))⟩
      · refine TT_iconst hK dX0_lay_39 ?_
        refine TT_aload_n hK rfl 0 rfl dX0_lay_40 ?_
        refine gf_X0_40 hK (by decide) rfl (v := (w30_6 45) 9) rfl dX0_lay_41 ?_
        refine TT_cgI (b := lq) (by exact kl) ?_
        refine TT_iload hK 1 rfl dX0_lay_44 ?_
        refine TT_isub hK dX0_lay_46 ?_
        refine TT_imul hK dX0_lay_47 ?_
        refine TT_iconst hK dX0_lay_48 ?_
        refine TT_iadd hK dX0_lay_49 ?_
        refine TT_istore hK (lv' := [(5, vI ((3 * (lq - lv9)) + 1)), (0, vR 45), (4, vI lv9)]) (by decide) rfl dX0_lay_50 ?_
        refine TT_aload_n hK rfl 1 rfl dX0_lay_52 ?_
        refine gf_X0_33 hK (by decide) rfl (v := (w30_6 45) 7) rfl dX0_lay_53 ?_
        have r22 := ty_45_7 (v := (w30_6 45) 7) hT30_6 rfl
        refine TT_cgI (b := wq) (by exact kw) ?_
        refine TT_iload hK 2 rfl dX0_lay_56 ?_
        refine TT_iconst hK dX0_lay_58 ?_
        refine TT_isub hK dX0_lay_59 ?_
        refine iv_X0_46 hK (s_sideAfter_x wq (lv9 - 1) w30_6 hT30_6 (by first | omega | (simp [up, setR] <;> omega)) (by first | omega | (simp [up, setR] <;> omega))) ⟨by decide, by decide⟩ (by decide) rfl rfl (Nat.le_of_ble_eq_true rfl) ⟨by decide, by decide⟩ dX0_lay_60 ?_
        intro r9 g60_23 hp9
        obtain ⟨⟨hT_23, hG_23⟩, z60_23, hr9, hz_23, p1_23⟩ := hp9
        rw [hr9]
        have hF_23 : FR [45, 47, 48, 49, 50] h g60_23 := FR_tr hF30_6 hG_23 (by decide)
        have p1_at60 := p1_23
        show TT K ly 0 0 63 [(5, vI ((3 * (lq - lv9)) + 1)), (0, vR 45), (4, vI lv9)] [vI z60_23] g60_23
        refine TT_istore hK (lv' := [(6, vI z60_23), (5, vI ((3 * (lq - lv9)) + 1)), (0, vR 45), (4, vI lv9)]) (by decide) rfl dX0_lay_63 ?_
        refine TT_aload_n hK rfl 2 rfl dX0_lay_65 ?_
        refine gf_X0_37 hK (by decide) rfl (v := (w30_6 45) 8) (rd_ (hG_23 45 (by decide)) rfl) dX0_lay_66 ?_
        have r24 := ty_45_8 (v := (w30_6 45) 8) hT_23 (rd_ (hG_23 45 (by decide)) rfl)
        refine TT_cgI (b := eq) (by exact ke) ?_
        refine TT_iload hK 3 rfl dX0_lay_69 ?_
        refine TT_iconst hK dX0_lay_71 ?_
        refine TT_isub hK dX0_lay_72 ?_
        refine iv_X0_46 hK (s_sideAfter_x eq (lv9 - 1) g60_23 hT_23 (by first | omega | (simp [up, setR] <;> omega)) (by first | omega | (simp [up, setR] <;> omega))) ⟨by decide, by decide⟩ (by decide) rfl rfl (Nat.le_of_ble_eq_true rfl) ⟨by decide, by decide⟩ dX0_lay_73 ?_
        intro r9 g73_25 hp9
        obtain ⟨⟨hT_25, hG_25⟩, z73_25, hr9, hz_25, p1_25⟩ := hp9
        rw [hr9]
        have hF_25 : FR [45, 47, 48, 49, 50] h g73_25 := FR_tr hF_23 hG_25 (by decide)
        have p1_at73 := p1_25
        show TT K ly 0 0 76 [(6, vI z60_23), (5, vI ((3 * (lq - lv9)) + 1)), (0, vR 45), (4, vI lv9)] [vI z73_25] g73_25
        refine TT_istore hK (lv' := [(7, vI z73_25), (6, vI z60_23), (5, vI ((3 * (lq - lv9)) + 1)), (0, vR 45), (4, vI lv9)]) (by decide) rfl dX0_lay_76 ?_
        refine TT_aload_n hK rfl 3 rfl dX0_lay_78 ?_
        refine gf_X0_33 hK (by decide) rfl (v := (w30_6 45) 7) (rd_ (((hG_25 45 (by decide))).trans (hG_23 45 (by decide))) rfl) dX0_lay_79 ?_
        refine TT_cgI (b := wq) (by exact kw) ?_
        refine TT_iload hK 4 rfl dX0_lay_82 ?_
        refine iv_X0_46 hK (s_sideAfter_x wq lv9 g73_25 hT_25 (by first | omega | (simp [up, setR] <;> omega)) (by first | omega | (simp [up, setR] <;> omega))) ⟨by decide, by decide⟩ (by decide) rfl rfl (Nat.le_of_ble_eq_true rfl) ⟨by decide, by decide⟩ dX0_lay_84 ?_
        intro r9 g84_26 hp9
        obtain ⟨⟨hT_26, hG_26⟩, z84_26, hr9, hz_26, p1_26⟩ := hp9
        rw [hr9]
        have hF_26 : FR [45, 47, 48, 49, 50] h g84_26 := FR_tr hF_25 hG_26 (by decide)
        have p1_at84 := p1_26
        show TT K ly 0 0 87 [(7, vI z73_25), (6, vI z60_23), (5, vI ((3 * (lq - lv9)) + 1)), (0, vR 45), (4, vI lv9)] [vI z84_26] g84_26
        refine TT_istore hK (lv' := [(8, vI z84_26), (7, vI z73_25), (6, vI z60_23), (5, vI ((3 * (lq - lv9)) + 1)), (0, vR 45), (4, vI lv9)]) (by decide) rfl dX0_lay_87 ?_
        refine TT_aload_n hK rfl 4 rfl dX0_lay_89 ?_
        refine gf_X0_37 hK (by decide) rfl (v := (w30_6 45) 8) (rd_ (((hG_26 45 (by decide))).trans (((hG_25 45 (by decide))).trans (hG_23 45 (by decide)))) rfl) dX0_lay_90 ?_
        refine TT_cgI (b := eq) (by exact ke) ?_
        refine TT_iload hK 5 rfl dX0_lay_93 ?_
        refine iv_X0_46 hK (s_sideAfter_x eq lv9 g84_26 hT_26 (by first | omega | (simp [up, setR] <;> omega)) (by first | omega | (simp [up, setR] <;> omega))) ⟨by decide, by decide⟩ (by decide) rfl rfl (Nat.le_of_ble_eq_true rfl) ⟨by decide, by decide⟩ dX0_lay_95 ?_
        intro r9 g95_27 hp9
        obtain ⟨⟨hT_27, hG_27⟩, z95_27, hr9, hz_27, p1_27⟩ := hp9
        rw [hr9]
        have hF_27 : FR [45, 47, 48, 49, 50] h g95_27 := FR_tr hF_26 hG_27 (by decide)
        have p1_at95 := p1_27
        show TT K ly 0 0 98 [(8, vI z84_26), (7, vI z73_25), (6, vI z60_23), (5, vI ((3 * (lq - lv9)) + 1)), (0, vR 45), (4, vI lv9)] [vI z95_27] g95_27
        refine TT_istore hK (lv' := [(9, vI z95_27), (8, vI z84_26), (7, vI z73_25), (6, vI z60_23), (5, vI ((3 * (lq - lv9)) + 1)), (0, vR 45), (4, vI lv9)]) (by decide) rfl dX0_lay_98 ?_
        have ow : z84_26 ≤ z60_23 := by have k9 := lf_le (n := wq) (l := lv9 - 1) (by omega) (by omega); rw [show lv9 - 1 + 1 = lv9 by omega] at k9; omega
        have oh : z95_27 ≤ z73_25 := by have k9 := lf_le (n := eq) (l := lv9 - 1) (by omega) (by omega); rw [show lv9 - 1 + 1 = lv9 by omega] at k9; omega
        refine TT_aload_n hK rfl 5 rfl dX0_lay_100 ?_
        refine TT_iload hK 4 rfl dX0_lay_101 ?_
        refine TT_iload hK 1 rfl dX0_lay_103 ?_
        refine TT_iconst hK dX0_lay_105 ?_
        refine TT_iload hK 3 rfl dX0_lay_106 ?_
        refine TT_iload hK 1 rfl dX0_lay_108 ?_
        refine TT_isub hK dX0_lay_110 ?_
        refine TT_iload hK 0 rfl dX0_lay_111 ?_
        have e28_47 : g95_27 47 = w30_6 47 := ((hG_27 47 (by decide))).trans (((hG_26 47 (by decide))).trans (((hG_25 47 (by decide))).trans (hG_23 47 (by decide))))
        have e29_48 : g95_27 48 = w30_6 48 := ((hG_27 48 (by decide))).trans (((hG_26 48 (by decide))).trans (((hG_25 48 (by decide))).trans (hG_23 48 (by decide))))
        have e30_49 : g95_27 49 = w30_6 49 := ((hG_27 49 (by decide))).trans (((hG_26 49 (by decide))).trans (((hG_25 49 (by decide))).trans (hG_23 49 (by decide))))
        have e31_50 : g95_27 50 = w30_6 50 := ((hG_27 50 (by decide))).trans (((hG_26 50 (by decide))).trans (((hG_25 50 (by decide))).trans (hG_23 50 (by decide))))
        refine iv_X0_50 hK (s_layBand45_x ((3 * (lq - lv9)) + 1) z84_26 0 (z60_23 - z84_26) z95_27 g95_27 hT_27 (by first | omega | (simp [up, setR] <;> omega)) (by first | omega | (simp [up, setR] <;> omega)) (by first | omega | (simp [up, setR] <;> omega)) (by first | omega | (simp [up, setR] <;> omega)) (by first | omega | (simp [up, setR] <;> omega)) (by first | omega | (simp [up, setR] <;> omega)) (by first | omega | (simp [up, setR] <;> omega)) (by rewrite [e28_47, e29_48, e30_49, e31_50]; assumption)) (by decide) rfl ⟨by decide, by decide⟩ (by decide) rfl rfl (Nat.le_of_ble_eq_true rfl) ⟨by decide, by decide⟩ dX0_lay_113 ?_
        intro r9 g113_32 hp9
        obtain ⟨⟨hT_32, hG_32⟩, hr9, p1_32, u1_32, u2_32, u3_32, u4_32⟩ := hp9
        rw [hr9]
        have hF_32 : FR [45, 47, 48, 49, 50] h g113_32 := FR_tr hF_27 hG_32 (by decide)
        rw [show g95_27 47 = w30_6 47 from ((hG_27 47 (by decide))).trans (((hG_26 47 (by decide))).trans (((hG_25 47 (by decide))).trans (hG_23 47 (by decide))))] at u1_32
        rw [show g95_27 48 = w30_6 48 from ((hG_27 48 (by decide))).trans (((hG_26 48 (by decide))).trans (((hG_25 48 (by decide))).trans (hG_23 48 (by decide))))] at u2_32
        rw [show g95_27 49 = w30_6 49 from ((hG_27 49 (by decide))).trans (((hG_26 49 (by decide))).trans (((hG_25 49 (by decide))).trans (hG_23 49 (by decide))))] at u3_32
        rw [show g95_27 50 = w30_6 50 from ((hG_27 50 (by decide))).trans (((hG_26 50 (by decide))).trans (((hG_25 50 (by decide))).trans (hG_23 50 (by decide))))] at u4_32
        have u1_at113 := u1_32
        have u2_at113 := u2_32
        have u3_at113 := u3_32
        have u4_at113 := u4_32
        show TT K ly 0 0 116 [(9, vI z95_27), (8, vI z84_26), (7, vI z73_25), (6, vI z60_23), (5, vI ((3 * (lq - lv9)) + 1)), (0, vR 45), (4, vI lv9)] [] g113_32
        refine TT_aload_n hK rfl 5 rfl dX0_lay_116 ?_
        refine TT_iload hK 4 rfl dX0_lay_117 ?_
        refine TT_iconst hK dX0_lay_119 ?_
        refine TT_iadd hK dX0_lay_120 ?_
        refine TT_iconst hK dX0_lay_121 ?_
        refine TT_iload hK 0 rfl dX0_lay_122 ?_
        refine TT_iload hK 1 rfl dX0_lay_124 ?_
        refine TT_iload hK 2 rfl dX0_lay_126 ?_
        refine TT_iload hK 0 rfl dX0_lay_128 ?_
        refine TT_isub hK dX0_lay_130 ?_
        refine iv_X0_50 hK (s_layBand45_x (((3 * (lq - lv9)) + 1) + 1) 0 z95_27 z84_26 (z73_25 - z95_27) g113_32 hT_32 (by first | omega | (simp [up, setR] <;> omega)) (by first | omega | (simp [up, setR] <;> omega)) (by first | omega | (simp [up, setR] <;> omega)) (by first | omega | (simp [up, setR] <;> omega)) (by first | omega | (simp [up, setR] <;> omega)) (by first | omega | (simp [up, setR] <;> omega)) (by first | omega | (simp [up, setR] <;> omega)) (by assumption)) (by decide) rfl ⟨by decide, by decide⟩ (by decide) rfl rfl (Nat.le_of_ble_eq_true rfl) ⟨by decide, by decide⟩ dX0_lay_131 ?_
        intro r9 g131_33 hp9
        obtain ⟨⟨hT_33, hG_33⟩, hr9, p1_33, u1_33, u2_33, u3_33, u4_33⟩ := hp9
        rw [hr9]
        have hF_33 : FR [45, 47, 48, 49, 50] h g131_33 := FR_tr hF_32 hG_33 (by decide)
        have u1_at131 := u1_33
        have u2_at131 := u2_33
        have u3_at131 := u3_33
        have u4_at131 := u4_33
        show TT K ly 0 0 134 [(9, vI z95_27), (8, vI z84_26), (7, vI z73_25), (6, vI z60_23), (5, vI ((3 * (lq - lv9)) + 1)), (0, vR 45), (4, vI lv9)] [] g131_33
        refine TT_aload_n hK rfl 5 rfl dX0_lay_134 ?_
        refine TT_iload hK 4 rfl dX0_lay_135 ?_
        refine TT_iconst hK dX0_lay_137 ?_
        refine TT_iadd hK dX0_lay_138 ?_
        refine TT_iload hK 1 rfl dX0_lay_139 ?_
        refine TT_iload hK 0 rfl dX0_lay_141 ?_
        refine TT_iload hK 3 rfl dX0_lay_143 ?_
        refine TT_iload hK 1 rfl dX0_lay_145 ?_
        refine TT_isub hK dX0_lay_147 ?_
        refine TT_iload hK 2 rfl dX0_lay_148 ?_
        refine TT_iload hK 0 rfl dX0_lay_150 ?_
        refine TT_isub hK dX0_lay_152 ?_
        refine iv_X0_50 hK (s_layBand45_x (((3 * (lq - lv9)) + 1) + 2) z84_26 z95_27 (z60_23 - z84_26) (z73_25 - z95_27) g131_33 hT_33 (by first | omega | (simp [up, setR] <;> omega)) (by first | omega | (simp [up, setR] <;> omega)) (by first | omega | (simp [up, setR] <;> omega)) (by first | omega | (simp [up, setR] <;> omega)) (by first | omega | (simp [up, setR] <;> omega)) (by first | omega | (simp [up, setR] <;> omega)) (by first | omega | (simp [up, setR] <;> omega)) (by assumption)) (by decide) rfl ⟨by decide, by decide⟩ (by decide) rfl rfl (Nat.le_of_ble_eq_true rfl) ⟨by decide, by decide⟩ dX0_lay_153 ?_
        intro r9 g153_34 hp9
        obtain ⟨⟨hT_34, hG_34⟩, hr9, p1_34, u1_34, u2_34, u3_34, u4_34⟩ := hp9
        rw [hr9]
        have hF_34 : FR [45, 47, 48, 49, 50] h g153_34 := FR_tr hF_33 hG_34 (by decide)
        have u1_at153 := u1_34
        have u2_at153 := u2_34
        have u3_at153 := u3_34
        have u4_at153 := u4_34
        show TT K ly 0 0 156 [(9, vI z95_27), (8, vI z84_26), (7, vI z73_25), (6, vI z60_23), (5, vI ((3 * (lq - lv9)) + 1)), (0, vR 45), (4, vI lv9)] [] g153_34
        refine TT_iinc hK (v := lv9 + 1) (lv' := [(4, vI (lv9 + 1)), (9, vI z95_27), (8, vI z84_26), (7, vI z73_25), (6, vI z60_23), (5, vI ((3 * (lq - lv9)) + 1)), (0, vR 45)]) 6 rfl rfl (by decide) rfl dX0_lay_156 ?_
        refine TT_goto hK (tgt := 30) dX0_lay_159 (by decide) ?_
        refine TT_sub [6, 0] rfl ?_
        have e35_45_7 : g153_34 45 7 = (w30_6 45) 7 := rd_ (((hG_34 45 (by decide))).trans (((hG_33 45 (by decide))).trans (((hG_32 45 (by decide))).trans (((hG_27 45 (by decide))).trans (((hG_26 45 (by decide))).trans (((hG_25 45 (by decide))).trans (hG_23 45 (by decide)))))))) rfl
        have e36_45_8 : g153_34 45 8 = (w30_6 45) 8 := rd_ (((hG_34 45 (by decide))).trans (((hG_33 45 (by decide))).trans (((hG_32 45 (by decide))).trans (((hG_27 45 (by decide))).trans (((hG_26 45 (by decide))).trans (((hG_25 45 (by decide))).trans (hG_23 45 (by decide)))))))) rfl
        have e37_45_9 : g153_34 45 9 = (w30_6 45) 9 := rd_ (((hG_34 45 (by decide))).trans (((hG_33 45 (by decide))).trans (((hG_32 45 (by decide))).trans (((hG_27 45 (by decide))).trans (((hG_26 45 (by decide))).trans (((hG_25 45 (by decide))).trans (hG_23 45 (by decide)))))))) rfl
        have e38_45_10 : g153_34 45 10 = (w30_6 45) 10 := rd_ (((hG_34 45 (by decide))).trans (((hG_33 45 (by decide))).trans (((hG_32 45 (by decide))).trans (((hG_27 45 (by decide))).trans (((hG_26 45 (by decide))).trans (((hG_25 45 (by decide))).trans (hG_23 45 (by decide)))))))) rfl
        exact ih6 (lv9 + 1) g153_34 hT_34 hF_34 (by first | omega | (simp [up, setR] <;> omega)) (by assumption) (by rewrite [e35_45_7]; first | omega | (simp [up, setR] <;> omega)) (by rewrite [e36_45_8]; first | omega | (simp [up, setR] <;> omega)) (by rewrite [e37_45_9]; first | omega | (simp [up, setR] <;> omega)) (by rewrite [e38_45_10]; first | omega | (simp [up, setR] <;> omega)) (by rw [u1_at153, u2_at153, u3_at153, u4_at153, u1_at131, u2_at131, u3_at131, u4_at131, u1_at113, u2_at113, u3_at113, u4_at113]; exact LAQ_s hly (by omega) p1_at60 p1_at73 p1_at84 p1_at95) (by first | omega | (simp [up, setR] <;> omega))
  refine TT_sub [1, 0] rfl ?_
  have e39_47 : (setO h 45 (fup (fup (fup (fup (h 45) 7 wq) 8 eq) 9 lq) 10 ((3 * lq) + 1))) 47 = h 47 := sOf_ne _ _ (by decide)
  have e40_48 : (setO h 45 (fup (fup (fup (fup (h 45) 7 wq) 8 eq) 9 lq) 10 ((3 * lq) + 1))) 48 = h 48 := sOf_ne _ _ (by decide)
  have e41_49 : (setO h 45 (fup (fup (fup (fup (h 45) 7 wq) 8 eq) 9 lq) 10 ((3 * lq) + 1))) 49 = h 49 := sOf_ne _ _ (by decide)
  have e42_50 : (setO h 45 (fup (fup (fup (fup (h 45) 7 wq) 8 eq) 9 lq) 10 ((3 * lq) + 1))) 50 = h 50 := sOf_ne _ _ (by decide)
  have e43_45_7 : (setO h 45 (fup (fup (fup (fup (h 45) 7 wq) 8 eq) 9 lq) 10 ((3 * lq) + 1))) 45 7 = wq := rd_ (sOf_eq _ _ _) ((fup_ne _ _ (by decide)).trans ((fup_ne _ _ (by decide)).trans ((fup_ne _ _ (by decide)).trans (fup_eq _ _ _))))
  have e44_45_8 : (setO h 45 (fup (fup (fup (fup (h 45) 7 wq) 8 eq) 9 lq) 10 ((3 * lq) + 1))) 45 8 = eq := rd_ (sOf_eq _ _ _) ((fup_ne _ _ (by decide)).trans ((fup_ne _ _ (by decide)).trans (fup_eq _ _ _)))
  have e45_45_9 : (setO h 45 (fup (fup (fup (fup (h 45) 7 wq) 8 eq) 9 lq) 10 ((3 * lq) + 1))) 45 9 = lq := rd_ (sOf_eq _ _ _) ((fup_ne _ _ (by decide)).trans (fup_eq _ _ _))
  have e46_45_10 : (setO h 45 (fup (fup (fup (fup (h 45) 7 wq) 8 eq) 9 lq) 10 ((3 * lq) + 1))) 45 10 = (3 * lq) + 1 := rd_ (sOf_eq _ _ _) (fup_eq _ _ _)
  have e47_47 : (setO h 45 (fup (fup (fup (fup (h 45) 7 wq) 8 eq) 9 lq) 10 ((3 * lq) + 1))) 47 = h 47 := sOf_ne _ _ (by decide)
  have e48_48 : (setO h 45 (fup (fup (fup (fup (h 45) 7 wq) 8 eq) 9 lq) 10 ((3 * lq) + 1))) 48 = h 48 := sOf_ne _ _ (by decide)
  have e49_49 : (setO h 45 (fup (fup (fup (fup (h 45) 7 wq) 8 eq) 9 lq) 10 ((3 * lq) + 1))) 49 = h 49 := sOf_ne _ _ (by decide)
  have e50_50 : (setO h 45 (fup (fup (fup (fup (h 45) 7 wq) 8 eq) 9 lq) 10 ((3 * lq) + 1))) 50 = h 50 := sOf_ne _ _ (by decide)
  exact L30_6 ((((4 : Int) - 1).toNat) + 1) 1 (setO h 45 (fup (fup (fup (fup (h 45) 7 wq) 8 eq) 9 lq) 10 ((3 * lq) + 1))) hT_5 hF_5 (by first | omega | (simp [up, setR] <;> omega)) (by rewrite [e39_47, e40_48, e41_49, e42_50]; exact hbd) (by rewrite [e43_45_7]; first | omega | (simp [up, setR] <;> omega)) (by rewrite [e44_45_8]; first | omega | (simp [up, setR] <;> omega)) (by rewrite [e45_45_9]; first | omega | (simp [up, setR] <;> omega)) (by rewrite [e46_45_10]; first | omega | (simp [up, setR] <;> omega)) (by rewrite [e47_47, e48_48, e49_49, e50_50]; intro b h1 h2; exfalso; omega) (Nat.lt_succ_self _)
set_option maxRecDepth 20000 in
set_option maxHeartbeats 8000000 in
theorem s_takePackets_e (o9 : Int → Int) (n : Int) (h : Hp_) (hT : TY h) (hn : -2147483648 ≤ n ∧ n ≤ 2147483647) (hbd : BDQ (h 47) (h 49) (h 48) (h 50)) (ho : ∀ j : Int, 0 ≤ j → j < (h 5 1) → (h 6) j = o9 j) (h4n : 4 ≤ n ∧ n ≤ (h 5 1)) : Ctr yX10_takePackets cX10_takePackets 7 (some .int) (rmd 6) ly ly 0 0 [vR 44, vR 5, vI n] h (fun r h' => (TY h' ∧ FR [5, 45, 47, 48, 49, 50, 53, 54, 55, 56, 57, 58, 59, 60] h h') ∧ ∃ z : Int, r = some (vI z) ∧ (-1 ≤ z ∧ z ≤ 12) ∧ (BDQ (h' 47) (h' 49) (h' 48) (h' 50)) ∧ (z = (tpZ o9 n)) ∧ (0 ≤ z → (∀ j : Int, 0 ≤ j → j < 3 * o9 2 + 1 → (h' 54) j = (tpS o9 n).2 j) ∧ (h' 45 10) = 3 * o9 2 + 1) ∧ ((h' 5 1) = (h 5 1))) := by
  refine Ctr_of (by decide) (Nat.le_of_ble_eq_true rfl) ⟨Nat.le_refl _, Nat.le_refl _⟩ (fun K hK hQ _ => ?_)
  show TT K ly 0 0 0 [(0, vR 44), (1, vR 5), (2, vI n)] [] h
  have hF : FR [5, 45, 47, 48, 49, 50, 53, 54, 55, 56, 57, 58, 59, 60] h h := FR_rf _ _
  have r51 := ty_5_1 (v := h 5 1) hT rfl
  have ob : ∀ j : Int, 0 ≤ j → j < h 5 1 → 0 ≤ o9 j ∧ o9 j ≤ 255 := fun j j0 j1 => by
      rw [← ho j j0 j1]
      exact ty_6 (i := j) (v := h 6 j) hT rfl j0 (by omega)
  have ob0 := ob 0 (by omega) (by omega)
  have ob1 := ob 1 (by omega) (by omega)
  have ob2 := ob 2 (by omega) (by omega)
  have ob3 := ob 3 (by omega) (by omega)
  refine TT_aload_n hK rfl 1 rfl dX10_takePackets_0 ?_
  refine TT_iconst hK dX10_takePackets_1 ?_
  refine iv_X10_67 hK (s_X1_at_5 2 h hT (by first | omega | (simp [up, setR] <;> omega))) (by decide) rfl ⟨by decide, by decide⟩ (by decide) rfl rfl (Nat.le_of_ble_eq_true rfl) ⟨by decide, by decide⟩ dX10_takePackets_2 ?_
  intro r9 g2_1 hp9
  obtain ⟨⟨hT_1, hG_1⟩, z2_1, hr9, hz_1, p1_1⟩ := hp9
  rw [hr9]
  have hF_1 : FR [5, 45, 47, 48, 49, 50, 53, 54, 55, 56, 57, 58, 59, 60] h g2_1 := FR_tr hF hG_1 (by decide)
  rw [show h 5 1 = (h 5) 1 from rfl] at p1_1
  have p1_at2 := p1_1
  show TT K ly 0 0 5 [(0, vR 44), (1, vR 5), (2, vI n)] [vI z2_1] g2_1
  refine TT_cgI (b := o9 2) (by exact (p1_at2.1 (by omega)).trans (ho 2 (by omega) (by omega))) ?_
  refine TT_istore_n hK rfl (lv' := [(3, vI (o9 2)), (0, vR 44), (1, vR 5), (2, vI n)]) (by decide) rfl dX10_takePackets_5 ?_
  refine TT_aload_n hK rfl 2 rfl dX10_takePackets_6 ?_
  refine TT_iconst hK dX10_takePackets_7 ?_
  refine iv_X10_67 hK (s_X1_at_5 3 g2_1 hT_1 (by first | omega | (simp [up, setR] <;> omega))) (by decide) rfl ⟨by decide, by decide⟩ (by decide) rfl rfl (Nat.le_of_ble_eq_true rfl) ⟨by decide, by decide⟩ dX10_takePackets_8 ?_
  intro r9 g8_2 hp9
  obtain ⟨⟨hT_2, hG_2⟩, z8_2, hr9, hz_2, p1_2⟩ := hp9
  rw [hr9]
  have hF_2 : FR [5, 45, 47, 48, 49, 50, 53, 54, 55, 56, 57, 58, 59, 60] h g8_2 := FR_tr hF_1 hG_2 (by decide)
  rw [show g2_1 5 1 = (h 5) 1 from rd_ (hG_1 5 (by decide)) rfl] at p1_2
  rw [show g2_1 6 = h 6 from (hG_1 6 (by decide))] at p1_2
  have p1_at8 := p1_2
  show TT K ly 0 0 11 [(3, vI (o9 2)), (0, vR 44), (1, vR 5), (2, vI n)] [vI z8_2] g8_2
  refine TT_cgI (b := o9 3) (by exact (p1_at8.1 (by omega)).trans (ho 3 (by omega) (by omega))) ?_
  refine TT_istore hK (lv' := [(4, vI (o9 3)), (3, vI (o9 2)), (0, vR 44), (1, vR 5), (2, vI n)]) (by decide) rfl dX10_takePackets_11 ?_
  refine TT_aload_n hK rfl 3 rfl dX10_takePackets_13 ?_
  refine TT_iconst hK dX10_takePackets_14 ?_
  refine iv_X10_67 hK (s_X1_at_5 0 g8_2 hT_2 (by first | omega | (simp [up, setR] <;> omega))) (by decide) rfl ⟨by decide, by decide⟩ (by decide) rfl rfl (Nat.le_of_ble_eq_true rfl) ⟨by decide, by decide⟩ dX10_takePackets_15 ?_
  intro r9 g15_3 hp9
  obtain ⟨⟨hT_3, hG_3⟩, z15_3, hr9, hz_3, p1_3⟩ := hp9
  rw [hr9]
  have hF_3 : FR [5, 45, 47, 48, 49, 50, 53, 54, 55, 56, 57, 58, 59, 60] h g15_3 := FR_tr hF_2 hG_3 (by decide)
  rw [show g8_2 5 1 = (h 5) 1 from rd_ (((hG_2 5 (by decide))).trans (hG_1 5 (by decide))) rfl] at p1_3
  rw [show g8_2 6 = h 6 from ((hG_2 6 (by decide))).trans (hG_1 6 (by decide))] at p1_3
  have p1_at15 := p1_3
  show TT K ly 0 0 18 [(4, vI (o9 3)), (3, vI (o9 2)), (0, vR 44), (1, vR 5), (2, vI n)] [vI z15_3] g15_3
  refine TT_cgI (b := o9 0) (by exact (p1_at15.1 (by omega)).trans (ho 0 (by omega) (by omega))) ?_
  refine iv_X10_73 hK (s_isSide_x (o9 0) g15_3 hT_3 (by first | omega | (simp [up, setR] <;> omega))) ⟨by decide, by decide⟩ (by decide) rfl rfl (Nat.le_of_ble_eq_true rfl) ⟨by decide, by decide⟩ dX10_takePackets_18 ?_
  intro r9 g18_4 hp9
  obtain ⟨⟨hT_4, hG_4⟩, z18_4, hr9, hz_4, p1_4, p2_4⟩ := hp9
  rw [hr9]
  have hF_4 : FR [5, 45, 47, 48, 49, 50, 53, 54, 55, 56, 57, 58, 59, 60] h g18_4 := FR_tr hF_3 hG_4 (by decide)
  show TT K ly 0 0 21 [(4, vI (o9 3)), (3, vI (o9 2)), (0, vR 44), (1, vR 5), (2, vI n)] [vI z18_4] g18_4
  refine TT_if_eq hK (tgt := 50) (irm (by omega) (by omega)) dX10_takePackets_21 (by decide) (fun hb21_5 => ?_) (fun hb21_5 => ?_)
  · refine TT_iconst hK dX10_takePackets_50 ?_
    refine TT_iret hK hQ ?_ dX10_takePackets_51
    have e6_47 : g18_4 47 = h 47 := ((hG_4 47 (by decide))).trans (((hG_3 47 (by decide))).trans (((hG_2 47 (by decide))).trans (hG_1 47 (by decide))))
    have e7_48 : g18_4 48 = h 48 := ((hG_4 48 (by decide))).trans (((hG_3 48 (by decide))).trans (((hG_2 48 (by decide))).trans (hG_1 48 (by decide))))
    have e8_49 : g18_4 49 = h 49 := ((hG_4 49 (by decide))).trans (((hG_3 49 (by decide))).trans (((hG_2 49 (by decide))).trans (hG_1 49 (by decide))))
    have e9_50 : g18_4 50 = h 50 := ((hG_4 50 (by decide))).trans (((hG_3 50 (by decide))).trans (((hG_2 50 (by decide))).trans (hG_1 50 (by decide))))
    have e10_45_10 : g18_4 45 10 = (h 45) 10 := rd_ (((hG_4 45 (by decide))).trans (((hG_3 45 (by decide))).trans (((hG_2 45 (by decide))).trans (hG_1 45 (by decide))))) rfl
    have e11_54 : g18_4 54 = h 54 := ((hG_4 54 (by decide))).trans (((hG_3 54 (by decide))).trans (((hG_2 54 (by decide))).trans (hG_1 54 (by decide))))
    have e12_5_1 : g18_4 5 1 = (h 5) 1 := rd_ (((hG_4 5 (by decide))).trans (((hG_3 5 (by decide))).trans (((hG_2 5 (by decide))).trans (hG_1 5 (by decide))))) rfl
    exact ⟨⟨hT_4, hF_4⟩, (-1), rfl, (by omega), (by rewrite [e6_47, e7_48, e8_49, e9_50]; assumption), (by rw [tpZ_e, tpS_n (by omega)]), (by rewrite [e10_45_10, e11_54]; intro q; exfalso; omega), (by rewrite [e12_5_1]; omega)⟩
  · refine TT_aload_n hK rfl 3 rfl dX10_takePackets_24 ?_
    refine TT_iconst hK dX10_takePackets_25 ?_
    refine iv_X10_67 hK (s_X1_at_5 1 g18_4 hT_4 (by first | omega | (simp [up, setR] <;> omega))) (by decide) rfl ⟨by decide, by decide⟩ (by decide) rfl rfl (Nat.le_of_ble_eq_true rfl) ⟨by decide, by decide⟩ dX10_takePackets_26 ?_
    intro r9 g26_13 hp9
    obtain ⟨⟨hT_13, hG_13⟩, z26_13, hr9, hz_13, p1_13⟩ := hp9
    rw [hr9]
    have hF_13 : FR [5, 45, 47, 48, 49, 50, 53, 54, 55, 56, 57, 58, 59, 60] h g26_13 := FR_tr hF_4 hG_13 (by decide)
    rw [show g18_4 5 1 = (h 5) 1 from rd_ (((hG_4 5 (by decide))).trans (((hG_3 5 (by decide))).trans (((hG_2 5 (by decide))).trans (hG_1 5 (by decide))))) rfl] at p1_13
    rw [show g18_4 6 = h 6 from ((hG_4 6 (by decide))).trans (((hG_3 6 (by decide))).trans (((hG_2 6 (by decide))).trans (hG_1 6 (by decide))))] at p1_13
    have p1_at26 := p1_13
    show TT K ly 0 0 29 [(4, vI (o9 3)), (3, vI (o9 2)), (0, vR 44), (1, vR 5), (2, vI n)] [vI z26_13] g26_13
    refine TT_cgI (b := o9 1) (by exact (p1_at26.1 (by omega)).trans (ho 1 (by omega) (by omega))) ?_
    refine iv_X10_73 hK (s_isSide_x (o9 1) g26_13 hT_13 (by first | omega | (simp [up, setR] <;> omega))) ⟨by decide, by decide⟩ (by decide) rfl rfl (Nat.le_of_ble_eq_true rfl) ⟨by decide, by decide⟩ dX10_takePackets_29 ?_
    intro r9 g29_14 hp9
    obtain ⟨⟨hT_14, hG_14⟩, z29_14, hr9, hz_14, p1_14, p2_14⟩ := hp9
    rw [hr9]
    have hF_14 : FR [5, 45, 47, 48, 49, 50, 53, 54, 55, 56, 57, 58, 59, 60] h g29_14 := FR_tr hF_13 hG_14 (by decide)
    show TT K ly 0 0 32 [(4, vI (o9 3)), (3, vI (o9 2)), (0, vR 44), (1, vR 5), (2, vI n)] [vI z29_14] g29_14
    refine TT_if_eq hK (tgt := 50) (irm (by omega) (by omega)) dX10_takePackets_32 (by decide) (fun hb32_15 => ?_) (fun hb32_15 => ?_)
    · refine TT_iconst hK dX10_takePackets_50 ?_
      refine TT_iret hK hQ ?_ dX10_takePackets_51
      have e16_47 : g29_14 47 = h 47 := ((hG_14 47 (by decide))).trans (((hG_13 47 (by decide))).trans (((hG_4 47 (by decide))).trans (((hG_3 47 (by decide))).trans (((hG_2 47 (by decide))).trans (hG_1 47 (by decide))))))
      have e17_48 : g29_14 48 = h 48 := ((hG_14 48 (by decide))).trans (((hG_13 48 (by decide))).trans (((hG_4 48 (by decide))).trans (((hG_3 48 (by decide))).trans (((hG_2 48 (by decide))).trans (hG_1 48 (by decide))))))
      have e18_49 : g29_14 49 = h 49 := ((hG_14 49 (by decide))).trans (((hG_13 49 (by decide))).trans (((hG_4 49 (by decide))).trans (((hG_3 49 (by decide))).trans (((hG_2 49 (by decide))).trans (hG_1 49 (by decide))))))
      have e19_50 : g29_14 50 = h 50 := ((hG_14 50 (by decide))).trans (((hG_13 50 (by decide))).trans (((hG_4 50 (by decide))).trans (((hG_3 50 (by decide))).trans (((hG_2 50 (by decide))).trans (hG_1 50 (by decide))))))
      have e20_45_10 : g29_14 45 10 = (h 45) 10 := rd_ (((hG_14 45 (by decide))).trans (((hG_13 45 (by decide))).trans (((hG_4 45 (by decide))).trans (((hG_3 45 (by decide))).trans (((hG_2 45 (by decide))).trans (hG_1 45 (by decide))))))) rfl
      have e21_54 : g29_14 54 = h 54 := ((hG_14 54 (by decide))).trans (((hG_13 54 (by decide))).trans (((hG_4 54 (by decide))).trans (((hG_3 54 (by decide))).trans (((hG_2 54 (by decide))).trans (hG_1 54 (by decide))))))
      have e22_5_1 : g29_14 5 1 = (h 5) 1 := rd_ (((hG_14 5 (by decide))).trans (((hG_13 5 (by decide))).trans (((hG_4 5 (by decide))).trans (((hG_3 5 (by decide))).trans (((hG_2 5 (by decide))).trans (hG_1 5 (by decide))))))) rfl
      exact ⟨⟨hT_14, hF_14⟩, (-1), rfl, (by omega), (by rewrite [e16_47, e17_48, e18_49, e19_50]; assumption), (by rw [tpZ_e, tpS_n (by omega)]), (by rewrite [e20_45_10, e21_54]; intro q; exfalso; omega), (by rewrite [e22_5_1]; omega)⟩
    · refine TT_iload_n hK rfl 1 rfl dX10_takePackets_35 ?_
      refine iv_X10_77 hK (s_areLevels_x (o9 2) g29_14 hT_14 (by first | omega | (simp [up, setR] <;> omega))) ⟨by decide, by decide⟩ (by decide) rfl rfl (Nat.le_of_ble_eq_true rfl) ⟨by decide, by decide⟩ dX10_takePackets_36 ?_
      intro r9 g36_23 hp9
      obtain ⟨⟨hT_23, hG_23⟩, z36_23, hr9, hz_23, p1_23, p2_23⟩ := hp9
      rw [hr9]
      have hF_23 : FR [5, 45, 47, 48, 49, 50, 53, 54, 55, 56, 57, 58, 59, 60] h g36_23 := FR_tr hF_14 hG_23 (by decide)
      show TT K ly 0 0 39 [(4, vI (o9 3)), (3, vI (o9 2)), (0, vR 44), (1, vR 5), (2, vI n)] [vI z36_23] g36_23
      refine TT_if_eq hK (tgt := 50) (irm (by omega) (by omega)) dX10_takePackets_39 (by decide) (fun hb39_24 => ?_) (fun hb39_24 => ?_)
      · refine TT_iconst hK dX10_takePackets_50 ?_
        refine TT_iret hK hQ ?_ dX10_takePackets_51
        have e25_47 : g36_23 47 = h 47 := ((hG_23 47 (by decide))).trans (((hG_14 47 (by decide))).trans (((hG_13 47 (by decide))).trans (((hG_4 47 (by decide))).trans (((hG_3 47 (by decide))).trans (((hG_2 47 (by decide))).trans (hG_1 47 (by decide)))))))
        have e26_48 : g36_23 48 = h 48 := ((hG_23 48 (by decide))).trans (((hG_14 48 (by decide))).trans (((hG_13 48 (by decide))).trans (((hG_4 48 (by decide))).trans (((hG_3 48 (by decide))).trans (((hG_2 48 (by decide))).trans (hG_1 48 (by decide)))))))
        have e27_49 : g36_23 49 = h 49 := ((hG_23 49 (by decide))).trans (((hG_14 49 (by decide))).trans (((hG_13 49 (by decide))).trans (((hG_4 49 (by decide))).trans (((hG_3 49 (by decide))).trans (((hG_2 49 (by decide))).trans (hG_1 49 (by decide)))))))
        have e28_50 : g36_23 50 = h 50 := ((hG_23 50 (by decide))).trans (((hG_14 50 (by decide))).trans (((hG_13 50 (by decide))).trans (((hG_4 50 (by decide))).trans (((hG_3 50 (by decide))).trans (((hG_2 50 (by decide))).trans (hG_1 50 (by decide)))))))
        have e29_45_10 : g36_23 45 10 = (h 45) 10 := rd_ (((hG_23 45 (by decide))).trans (((hG_14 45 (by decide))).trans (((hG_13 45 (by decide))).trans (((hG_4 45 (by decide))).trans (((hG_3 45 (by decide))).trans (((hG_2 45 (by decide))).trans (hG_1 45 (by decide)))))))) rfl
        have e30_54 : g36_23 54 = h 54 := ((hG_23 54 (by decide))).trans (((hG_14 54 (by decide))).trans (((hG_13 54 (by decide))).trans (((hG_4 54 (by decide))).trans (((hG_3 54 (by decide))).trans (((hG_2 54 (by decide))).trans (hG_1 54 (by decide)))))))
        have e31_5_1 : g36_23 5 1 = (h 5) 1 := rd_ (((hG_23 5 (by decide))).trans (((hG_14 5 (by decide))).trans (((hG_13 5 (by decide))).trans (((hG_4 5 (by decide))).trans (((hG_3 5 (by decide))).trans (((hG_2 5 (by decide))).trans (hG_1 5 (by decide)))))))) rfl
        exact ⟨⟨hT_23, hF_23⟩, (-1), rfl, (by omega), (by rewrite [e25_47, e26_48, e27_49, e28_50]; assumption), (by rw [tpZ_e, tpS_n (by omega)]), (by rewrite [e29_45_10, e30_54]; intro q; exfalso; omega), (by rewrite [e31_5_1]; omega)⟩
      · refine TT_iload hK 0 rfl dX10_takePackets_42 ?_
        refine iv_X10_80 hK (s_areLayers_x (o9 3) g36_23 hT_23 (by first | omega | (simp [up, setR] <;> omega))) ⟨by decide, by decide⟩ (by decide) rfl rfl (Nat.le_of_ble_eq_true rfl) ⟨by decide, by decide⟩ dX10_takePackets_44 ?_
        intro r9 g44_32 hp9
        obtain ⟨⟨hT_32, hG_32⟩, z44_32, hr9, hz_32, p1_32, p2_32⟩ := hp9
        rw [hr9]
        have hF_32 : FR [5, 45, 47, 48, 49, 50, 53, 54, 55, 56, 57, 58, 59, 60] h g44_32 := FR_tr hF_23 hG_32 (by decide)
        show TT K ly 0 0 47 [(4, vI (o9 3)), (3, vI (o9 2)), (0, vR 44), (1, vR 5), (2, vI n)] [vI z44_32] g44_32
        refine TT_if_ne hK (tgt := 52) (irm (by omega) (by omega)) dX10_takePackets_47 (by decide) (fun hb47_33 => ?_) (fun hb47_33 => ?_)
        · refine TT_aload_n hK rfl 2 rfl dX10_takePackets_52 ?_
          refine gf_X10_12 hK (by decide) rfl (q := 45) rfl rfl dX10_takePackets_53 ?_
          refine TT_aload_n hK rfl 3 rfl dX10_takePackets_56 ?_
          refine TT_iconst hK dX10_takePackets_57 ?_
          refine iv_X10_67 hK (s_X1_at_5 0 g44_32 hT_32 (by first | omega | (simp [up, setR] <;> omega))) (by decide) rfl ⟨by decide, by decide⟩ (by decide) rfl rfl (Nat.le_of_ble_eq_true rfl) ⟨by decide, by decide⟩ dX10_takePackets_58 ?_
          intro r9 g58_34 hp9
          obtain ⟨⟨hT_34, hG_34⟩, z58_34, hr9, hz_34, p1_34⟩ := hp9
          rw [hr9]
          have hF_34 : FR [5, 45, 47, 48, 49, 50, 53, 54, 55, 56, 57, 58, 59, 60] h g58_34 := FR_tr hF_32 hG_34 (by decide)
          rw [show g44_32 5 1 = (h 5) 1 from rd_ (((hG_32 5 (by decide))).trans (((hG_23 5 (by decide))).trans (((hG_14 5 (by decide))).trans (((hG_13 5 (by decide))).trans (((hG_4 5 (by decide))).trans (((hG_3 5 (by decide))).trans (((hG_2 5 (by decide))).trans (hG_1 5 (by decide))))))))) rfl] at p1_34
          rw [show g44_32 6 = h 6 from ((hG_32 6 (by decide))).trans (((hG_23 6 (by decide))).trans (((hG_14 6 (by decide))).trans (((hG_13 6 (by decide))).trans (((hG_4 6 (by decide))).trans (((hG_3 6 (by decide))).trans (((hG_2 6 (by decide))).trans (hG_1 6 (by decide))))))))] at p1_34
          have p1_at58 := p1_34
          show TT K ly 0 0 61 [(4, vI (o9 3)), (3, vI (o9 2)), (0, vR 44), (1, vR 5), (2, vI n)] [vI z58_34, vR 45] g58_34
          refine TT_cgI (b := o9 0) (by exact (p1_at58.1 (by omega)).trans (ho 0 (by omega) (by omega))) ?_
          refine TT_aload_n hK rfl 3 rfl dX10_takePackets_61 ?_
          refine TT_iconst hK dX10_takePackets_62 ?_
          refine iv_X10_67 hK (s_X1_at_5 1 g58_34 hT_34 (by first | omega | (simp [up, setR] <;> omega))) (by decide) rfl ⟨by decide, by decide⟩ (by decide) rfl rfl (Nat.le_of_ble_eq_true rfl) ⟨by decide, by decide⟩ dX10_takePackets_63 ?_
          intro r9 g63_35 hp9
          obtain ⟨⟨hT_35, hG_35⟩, z63_35, hr9, hz_35, p1_35⟩ := hp9
          rw [hr9]
          have hF_35 : FR [5, 45, 47, 48, 49, 50, 53, 54, 55, 56, 57, 58, 59, 60] h g63_35 := FR_tr hF_34 hG_35 (by decide)
          rw [show g58_34 5 1 = (h 5) 1 from rd_ (((hG_34 5 (by decide))).trans (((hG_32 5 (by decide))).trans (((hG_23 5 (by decide))).trans (((hG_14 5 (by decide))).trans (((hG_13 5 (by decide))).trans (((hG_4 5 (by decide))).trans (((hG_3 5 (by decide))).trans (((hG_2 5 (by decide))).trans (hG_1 5 (by decide)))))))))) rfl] at p1_35
          rw [show g58_34 6 = h 6 from ((hG_34 6 (by decide))).trans (((hG_32 6 (by decide))).trans (((hG_23 6 (by decide))).trans (((hG_14 6 (by decide))).trans (((hG_13 6 (by decide))).trans (((hG_4 6 (by decide))).trans (((hG_3 6 (by decide))).trans (((hG_2 6 (by decide))).trans (hG_1 6 (by decide)))))))))] at p1_35
          have p1_at63 := p1_35
          show TT K ly 0 0 66 [(4, vI (o9 3)), (3, vI (o9 2)), (0, vR 44), (1, vR 5), (2, vI n)] [vI z63_35, vI (o9 0), vR 45] g63_35
          refine TT_cgI (b := o9 1) (by exact (p1_at63.1 (by omega)).trans (ho 1 (by omega) (by omega))) ?_
          refine TT_iload_n hK rfl 1 rfl dX10_takePackets_66 ?_
          have e36_47 : g63_35 47 = h 47 := ((hG_35 47 (by decide))).trans (((hG_34 47 (by decide))).trans (((hG_32 47 (by decide))).trans (((hG_23 47 (by decide))).trans (((hG_14 47 (by decide))).trans (((hG_13 47 (by decide))).trans (((hG_4 47 (by decide))).trans (((hG_3 47 (by decide))).trans (((hG_2 47 (by decide))).trans (hG_1 47 (by decide))))))))))
          have e37_48 : g63_35 48 = h 48 := ((hG_35 48 (by decide))).trans (((hG_34 48 (by decide))).trans (((hG_32 48 (by decide))).trans (((hG_23 48 (by decide))).trans (((hG_14 48 (by decide))).trans (((hG_13 48 (by decide))).trans (((hG_4 48 (by decide))).trans (((hG_3 48 (by decide))).trans (((hG_2 48 (by decide))).trans (hG_1 48 (by decide))))))))))
          have e38_49 : g63_35 49 = h 49 := ((hG_35 49 (by decide))).trans (((hG_34 49 (by decide))).trans (((hG_32 49 (by decide))).trans (((hG_23 49 (by decide))).trans (((hG_14 49 (by decide))).trans (((hG_13 49 (by decide))).trans (((hG_4 49 (by decide))).trans (((hG_3 49 (by decide))).trans (((hG_2 49 (by decide))).trans (hG_1 49 (by decide))))))))))
          have e39_50 : g63_35 50 = h 50 := ((hG_35 50 (by decide))).trans (((hG_34 50 (by decide))).trans (((hG_32 50 (by decide))).trans (((hG_23 50 (by decide))).trans (((hG_14 50 (by decide))).trans (((hG_13 50 (by decide))).trans (((hG_4 50 (by decide))).trans (((hG_3 50 (by decide))).trans (((hG_2 50 (by decide))).trans (hG_1 50 (by decide))))))))))
          refine iv_X10_83 hK (s_lay45_x (o9 0) (o9 1) (o9 2) g63_35 hT_35 (by first | omega | (simp [up, setR] <;> omega)) (by first | omega | (simp [up, setR] <;> omega)) (by first | omega | (simp [up, setR] <;> omega)) (by rewrite [e36_47, e37_48, e38_49, e39_50]; first | assumption | exact hbd)) (by decide) rfl ⟨by decide, by decide⟩ (by decide) rfl rfl (Nat.le_of_ble_eq_true rfl) ⟨by decide, by decide⟩ dX10_takePackets_67 ?_
          intro r9 g67_40 hp9
          obtain ⟨⟨hT_40, hG_40⟩, hr9, p1_40, k1_40, lay_40⟩ := hp9
          rw [hr9]
          have hF_40 : FR [5, 45, 47, 48, 49, 50, 53, 54, 55, 56, 57, 58, 59, 60] h g67_40 := FR_tr hF_35 hG_40 (by decide)
          have k1_at67 := k1_40
          have lay_at67 := lay_40
          show TT K ly 0 0 70 [(4, vI (o9 3)), (3, vI (o9 2)), (0, vR 44), (1, vR 5), (2, vI n)] [] g67_40
          refine TT_aload_n hK rfl 2 rfl dX10_takePackets_70 ?_
          refine gf_X10_22 hK (by decide) rfl (q := 54) rfl rfl dX10_takePackets_71 ?_
          refine TT_iconst hK dX10_takePackets_74 ?_
          refine iv_X10_87 hK (s_fill54_e 0 g67_40 hT_40 (by first | omega | (simp [up, setR] <;> omega))) ⟨by decide, by decide⟩ (by decide) rfl rfl (Nat.le_of_ble_eq_true rfl) ⟨by decide, by decide⟩ dX10_takePackets_75 ?_
          intro r9 g75_41 hp9
          obtain ⟨⟨hT_41, hG_41⟩, hr9, p1_41⟩ := hp9
          rw [hr9]
          have hF_41 : FR [5, 45, 47, 48, 49, 50, 53, 54, 55, 56, 57, 58, 59, 60] h g75_41 := FR_tr hF_40 hG_41 (by decide)
          have p1_at75 := p1_41
          show TT K ly 0 0 78 [(4, vI (o9 3)), (3, vI (o9 2)), (0, vR 44), (1, vR 5), (2, vI n)] [] g75_41
          refine TT_aload_n hK rfl 2 rfl dX10_takePackets_78 ?_
          refine gf_X10_25 hK (by decide) rfl (q := 55) rfl rfl dX10_takePackets_79 ?_
          refine TT_iconst hK dX10_takePackets_82 ?_
          refine iv_X10_87 hK (s_fill55_e 3 g75_41 hT_41 (by first | omega | (simp [up, setR] <;> omega))) ⟨by decide, by decide⟩ (by decide) rfl rfl (Nat.le_of_ble_eq_true rfl) ⟨by decide, by decide⟩ dX10_takePackets_83 ?_
          intro r9 g83_42 hp9
          obtain ⟨⟨hT_42, hG_42⟩, hr9, p1_42⟩ := hp9
          rw [hr9]
          have hF_42 : FR [5, 45, 47, 48, 49, 50, 53, 54, 55, 56, 57, 58, 59, 60] h g83_42 := FR_tr hF_41 hG_42 (by decide)
          have p1_at83 := p1_42
          show TT K ly 0 0 86 [(4, vI (o9 3)), (3, vI (o9 2)), (0, vR 44), (1, vR 5), (2, vI n)] [] g83_42
          refine TT_aload_n hK rfl 2 rfl dX10_takePackets_86 ?_
          refine gf_X10_34 hK (by decide) rfl (q := 58) rfl rfl dX10_takePackets_87 ?_
          refine TT_iconst hK dX10_takePackets_90 ?_
          refine iv_X10_87 hK (s_fill58_e 0 g83_42 hT_42 (by first | omega | (simp [up, setR] <;> omega))) ⟨by decide, by decide⟩ (by decide) rfl rfl (Nat.le_of_ble_eq_true rfl) ⟨by decide, by decide⟩ dX10_takePackets_91 ?_
          intro r9 g91_43 hp9
          obtain ⟨⟨hT_43, hG_43⟩, hr9, p1_43⟩ := hp9
          rw [hr9]
          have hF_43 : FR [5, 45, 47, 48, 49, 50, 53, 54, 55, 56, 57, 58, 59, 60] h g91_43 := FR_tr hF_42 hG_43 (by decide)
          show TT K ly 0 0 94 [(4, vI (o9 3)), (3, vI (o9 2)), (0, vR 44), (1, vR 5), (2, vI n)] [] g91_43
          refine TT_aload_n hK rfl 3 rfl dX10_takePackets_94 ?_
          refine TT_iconst hK dX10_takePackets_95 ?_
          refine TT_iload_n hK rfl 4 rfl dX10_takePackets_96 ?_
          refine iv_X10_93 hK (s_takeFrom5_e 4 n g91_43 hT_43 (by first | omega | (simp [up, setR] <;> omega)) (by first | omega | (simp [up, setR] <;> omega)) (by first | omega | (simp [up, setR] <;> omega))) (by decide) rfl ⟨by decide, by decide⟩ (by decide) rfl rfl (Nat.le_of_ble_eq_true rfl) ⟨by decide, by decide⟩ dX10_takePackets_97 ?_
          intro r9 g97_44 hp9
          obtain ⟨⟨hT_44, hG_44⟩, hr9, tf_44, k5_44⟩ := hp9
          rw [hr9]
          have hF_44 : FR [5, 45, 47, 48, 49, 50, 53, 54, 55, 56, 57, 58, 59, 60] h g97_44 := FR_tr hF_43 hG_44 (by decide)
          rw [show g91_43 5 1 = (h 5) 1 from rd_ (((hG_43 5 (by decide))).trans (((hG_42 5 (by decide))).trans (((hG_41 5 (by decide))).trans (((hG_40 5 (by decide))).trans (((hG_35 5 (by decide))).trans (((hG_34 5 (by decide))).trans (((hG_32 5 (by decide))).trans (((hG_23 5 (by decide))).trans (((hG_14 5 (by decide))).trans (((hG_13 5 (by decide))).trans (((hG_4 5 (by decide))).trans (((hG_3 5 (by decide))).trans (((hG_2 5 (by decide))).trans (hG_1 5 (by decide))))))))))))))) rfl] at k5_44
          have tf_at97 := tf_44
          have k5_at97 := k5_44
          show TT K ly 0 0 100 [(4, vI (o9 3)), (3, vI (o9 2)), (0, vR 44), (1, vR 5), (2, vI n)] [] g97_44
          have hdT : 0 ≤ (o9 3 * (o9 2 + 1)) := Int.mul_nonneg (by omega) (by omega)
          refine TT_iconst hK dX10_takePackets_100 ?_
          refine TT_istore hK (lv' := [(5, vI 0), (4, vI (o9 3)), (3, vI (o9 2)), (0, vR 44), (1, vR 5), (2, vI n)]) (by decide) rfl dX10_takePackets_101 ?_
          have L103_45 : ∀ (k45 : Nat) (k : Int) (S9 : PS_) (w103_45 : Hp_), TY w103_45 → FR [5, 45, 47, 48, 49, 50, 53, 54, 55, 56, 57, 58, 59, 60] h w103_45 → (0 ≤ k ∧ k ≤ 12) → (BDQ (w103_45 47) (w103_45 49) (w103_45 48) (w103_45 50)) → (k ≤ (o9 3 * (o9 2 + 1))) → (EQI 0 S9.1) → (QRQ (w103_45 5 3) (3 * o9 2 + 1) (w103_45 53) (w103_45 54) (w103_45 55) S9) → (((w103_45 5 4) = 8 * n ∧ (w103_45 5 1) = h 5 1) ∧ (0 ≤ (w103_45 5 3) ∧ (w103_45 5 3) ≤ (w103_45 5 4))) → (∀ j : Int, 0 ≤ j → j < 10 → (3 ≤ (w103_45 55) j ∧ (w103_45 55) j ≤ 3 + (w103_45 5 3)) ∧ (0 ≤ (w103_45 54) j ∧ (w103_45 54) j ≤ 34)) → (∀ j : Int, 0 ≤ j → j < 3 * o9 2 + 1 → (w103_45 49) j = BW (o9 0) (o9 2) j ∧ (w103_45 50) j = BH (o9 1) (o9 2) j) → ((w103_45 45 10) = 3 * o9 2 + 1) → (fpS o9 n (o9 0) (o9 1) (o9 2) ((o9 3 * (o9 2 + 1)) - k).toNat k S9 = tpS o9 n) → ((12 : Int) - k).toNat < k45 → TT K ly 0 0 103 [(0, vR 44), (1, vR 5), (2, vI n), (3, vI (o9 2)), (4, vI (o9 3)), (5, vI k)] [] w103_45 := by
            intro k45
            induction k45 with
            | zero => intro k S9 w103_45 hT103_45 hF103_45 hk hbd2 hkT hS0 hqr k5i hkw hlay hcnt hf9 hk45; exact absurd hk45 (Nat.not_lt_zero _)
            | succ k45 ih45 =>
              intro k S9 w103_45 hT103_45 hF103_45 hk hbd2 hkT hS0 hqr k5i hkw hlay hcnt hf9 hk45
              refine TT_iload hK 5 rfl dX10_takePackets_103 ?_
              refine TT_iload hK 4 rfl dX10_takePackets_105 ?_
              refine TT_iload_n hK rfl 3 rfl dX10_takePackets_107 ?_
              refine TT_iconst hK dX10_takePackets_108 ?_
              refine TT_iadd hK dX10_takePackets_109 ?_
              refine TT_imul hK dX10_takePackets_110 ?_
              refine TT_nmI (fun m9 hm9 => ?_)
              refine TT_icmp_ge hK (tgt := 152) (irm (by have := pu2 hm9 (by omega) (by omega); omega) (by have := pu2 hm9 (by omega) (by omega); omega)) (irm (by have := pu2 hm9 (by omega) (by omega); omega) (by have := pu2 hm9 (by omega) (by omega); omega)) dX10_takePackets_111 (by decide) (fun hb111_46 => ?_) (fun hb111_46 => ?_)
              · refine TT_iload hK 4 rfl dX10_takePackets_152 ?_
                refine TT_iload_n hK rfl 3 rfl dX10_takePackets_154 ?_
                refine TT_iconst hK dX10_takePackets_155 ?_
                refine TT_iadd hK dX10_takePackets_156 ?_
                refine TT_imul hK dX10_takePackets_157 ?_
                refine TT_nmI (fun m8 hm8 => ?_)
                refine TT_iret hK hQ ?_ dX10_takePackets_158
                have e47_45_10 : w103_45 45 10 = (w103_45 45) 10 := rfl
                have e48_5_1 : w103_45 5 1 = (w103_45 5) 1 := rfl
                exact ⟨⟨hT103_45, hF103_45⟩, m8, rfl, (by have := pu2 hm8 (by omega) (by omega); omega), (by assumption), (by rw [tpZ_e, ← hf9, fpS_0 (by omega)]; show _ = k; omega), (by rewrite [e47_45_10]; intro _; refine ⟨fun j j0 j1 => ?_, hcnt⟩; rw [← hf9, fpS_0 (by omega)]; exact (hqr.2 j j0 j1).2.1), (by rewrite [e48_5_1]; omega)⟩
              · have hm8 := pu2 hm9 (by omega) (by omega)
                refine TT_aload_n hK rfl 0 rfl dX10_takePackets_114 ?_
                refine TT_aload_n hK rfl 1 rfl dX10_takePackets_115 ?_
                refine TT_iload_n hK rfl 2 rfl dX10_takePackets_116 ?_
                refine TT_iload hK 5 rfl dX10_takePackets_117 ?_
                refine TT_iload_n hK rfl 3 rfl dX10_takePackets_119 ?_
                refine TT_iconst hK dX10_takePackets_120 ?_
                refine TT_iadd hK dX10_takePackets_121 ?_
                refine TT_iremn hK (irm (by omega) (by omega)) (irm (by omega) (by omega)) (by first | omega | (simp [up, setR] <;> omega)) (by first | omega | (simp [up, setR] <;> omega)) dX10_takePackets_122 ?_
                have hq8 := pu3 k (l := (o9 2)) (by omega)
                have hrm := Int.emod_lt_of_pos k (show 0 < o9 2 + 1 by omega)
                have hrn := Int.emod_nonneg k (show o9 2 + 1 ≠ 0 by omega)
                have hfr := FS_r (r := k % (o9 2 + 1)) (by omega)
                have e49_5_1 : w103_45 5 1 = (w103_45 5) 1 := rfl
                have e50_6 : w103_45 6 = h 6 := (hF103_45 6 (by decide))
                have e51_5_1 : w103_45 5 1 = (w103_45 5) 1 := rfl
                have e52_5_3 : w103_45 5 3 = (w103_45 5) 3 := rfl
                have e53_5_4 : w103_45 5 4 = (w103_45 5) 4 := rfl
                have e54_5_3 : w103_45 5 3 = (w103_45 5) 3 := rfl
                have e55_5_4 : w103_45 5 4 = (w103_45 5) 4 := rfl
                refine iv_X10_97 hK (s_takePacket_e o9 S9.2.2.1 S9.2.2.2.2 n (k % ((o9 2) + 1)) w103_45 hT103_45 (by first | omega | (simp [up, setR] <;> omega)) (by first | omega | (simp [up, setR] <;> omega)) (by rewrite [e49_5_1, e50_6]; intro j j0 j1; exact ho j j0 (by omega)) (by rewrite [e51_5_1, e52_5_3, e53_5_4]; first | omega | (simp [up, setR] <;> omega)) (by rewrite [e54_5_3]; exact hkw) (by rewrite [e55_5_4]; first | omega | (simp [up, setR] <;> omega)) (by intro j j0 j1; have k9 := hqr.2 j (by omega) (by omega); exact ⟨k9.1, k9.2.2⟩)) (by decide) rfl ⟨by decide, by decide⟩ (by decide) rfl rfl (Nat.le_of_ble_eq_true rfl) ⟨by decide, by decide⟩ dX10_takePackets_123 ?_
                intro r9 g123_56 hp9
                obtain ⟨⟨hT_56, hG_56⟩, z123_56, hr9, hz_56, pa_56, pr_56, k5_56, k1_56, kt_56, ko_56, kw_56⟩ := hp9
                rw [hr9]
                have hF_56 : FR [5, 45, 47, 48, 49, 50, 53, 54, 55, 56, 57, 58, 59, 60] h g123_56 := FR_tr hF103_45 hG_56 (by decide)
                rw [show w103_45 5 3 = (w103_45 5) 3 from rfl] at pa_56
                rw [show w103_45 5 3 = (w103_45 5) 3 from rfl] at pr_56
                rw [show w103_45 5 1 = (w103_45 5) 1 from rfl] at k5_56
                rw [show w103_45 5 4 = (w103_45 5) 4 from rfl] at k5_56
                rw [show w103_45 5 1 = (w103_45 5) 1 from rfl] at k1_56
                have pa_at123 := pa_56
                have pr_at123 := pr_56
                have k5_at123 := k5_56
                have k1_at123 := k1_56
                have kt_at123 := kt_56
                have ko_at123 := ko_56
                have kw_at123 := kw_56
                show TT K ly 0 0 126 [(0, vR 44), (1, vR 5), (2, vI n), (3, vI (o9 2)), (4, vI (o9 3)), (5, vI k)] [vI z123_56] g123_56
                have zc := QRQ_c (W := o9 0) (H := o9 1) hqr (by omega) rfl hlay pa_at123
                refine TT_istore hK (lv' := [(6, vI z123_56), (0, vR 44), (1, vR 5), (2, vI n), (3, vI (o9 2)), (4, vI (o9 3)), (5, vI k)]) (by decide) rfl dX10_takePackets_126 ?_
                refine TT_iload hK 0 rfl dX10_takePackets_128 ?_
                refine TT_if_eq hK (tgt := 146) (irm (by omega) (by omega)) dX10_takePackets_130 (by decide) (fun hb130_57 => ?_) (fun hb130_57 => ?_)
                · have hn9 := QRQ_n (W := o9 0) (H := o9 1) hqr (by omega) rfl hlay (EQI_0 pa_at123 (by omega)) (pr_at123 (by omega)) ko_at123 (fun j j0 => paS_o (by omega))
                  refine TT_iinc hK (v := k + 1) (lv' := [(5, vI (k + 1)), (6, vI z123_56), (0, vR 44), (1, vR 5), (2, vI n), (3, vI (o9 2)), (4, vI (o9 3))]) 6 rfl rfl (by decide) rfl dX10_takePackets_146 ?_
                  refine TT_goto hK (tgt := 103) dX10_takePackets_149 (by decide) ?_
                  refine TT_sub [2, 3, 4, 5, 6, 0] rfl ?_
                  have e58_47 : g123_56 47 = w103_45 47 := (hG_56 47 (by decide))
                  have e59_48 : g123_56 48 = w103_45 48 := (hG_56 48 (by decide))
                  have e60_49 : g123_56 49 = w103_45 49 := (hG_56 49 (by decide))
                  have e61_50 : g123_56 50 = w103_45 50 := (hG_56 50 (by decide))
                  have e62_5_3 : g123_56 5 3 = (g123_56 5) 3 := rfl
                  have e63_5_1 : g123_56 5 1 = (g123_56 5) 1 := rfl
                  have e64_5_3 : g123_56 5 3 = (g123_56 5) 3 := rfl
                  have e65_5_4 : g123_56 5 4 = (g123_56 5) 4 := rfl
                  have e66_5_3 : g123_56 5 3 = (g123_56 5) 3 := rfl
                  have e67_49 : g123_56 49 = w103_45 49 := (hG_56 49 (by decide))
                  have e68_50 : g123_56 50 = w103_45 50 := (hG_56 50 (by decide))
                  have e69_45_10 : g123_56 45 10 = (w103_45 45) 10 := rd_ (hG_56 45 (by decide)) rfl
                  exact ih45 (k + 1) (ppS o9 n (o9 0) (o9 1) (o9 2) k S9) g123_56 hT_56 hF_56 (by first | omega | (simp [up, setR] <;> omega)) (by rewrite [e58_47, e59_48, e60_49, e61_50]; assumption) (by omega) (by exact hn9.2) (by rewrite [e62_5_3]; exact hn9.1) (by rewrite [e63_5_1, e64_5_3, e65_5_4]; have k9 := k5_at123 (by omega); omega) (by rewrite [e66_5_3]; exact kw_at123 (by omega)) (by rewrite [e67_49, e68_50]; exact hlay) (by rewrite [e69_45_10]; exact hcnt) (by rw [← hf9, fpS_n (by omega) (Eq.symm hn9.2)]) (by first | omega | (simp [up, setR] <;> omega))
                · refine TT_iload hK 0 rfl dX10_takePackets_133 ?_
                  refine TT_iconst hK dX10_takePackets_135 ?_
                  refine TT_icmp_ne hK (tgt := 144) (irm (by omega) (by omega)) (by decide) dX10_takePackets_136 (by decide) (fun hb136_70 => ?_) (fun hb136_70 => ?_)
                  · refine TT_iconst hK dX10_takePackets_144 ?_
                    refine TT_iret hK hQ ?_ dX10_takePackets_145
                    have e71_47 : g123_56 47 = w103_45 47 := (hG_56 47 (by decide))
                    have e72_48 : g123_56 48 = w103_45 48 := (hG_56 48 (by decide))
                    have e73_49 : g123_56 49 = w103_45 49 := (hG_56 49 (by decide))
                    have e74_50 : g123_56 50 = w103_45 50 := (hG_56 50 (by decide))
                    have e75_45_10 : g123_56 45 10 = (w103_45 45) 10 := rd_ (hG_56 45 (by decide)) rfl
                    have e76_5_1 : g123_56 5 1 = (g123_56 5) 1 := rfl
                    exact ⟨⟨hT_56, hF_56⟩, (-1), rfl, (by omega), (by rewrite [e71_47, e72_48, e73_49, e74_50]; assumption), (by rw [tpZ_e, ← hf9, fpS_x (by omega) (EQI_n zc (by omega))]; show _ = if (ppS o9 n (o9 0) (o9 1) (o9 2) k S9).1 = 1 then k else -1; first | rw [if_pos (EQI_y zc (by omega))] | rw [if_neg (EQI_n zc (by omega))]), (by rewrite [e75_45_10]; intro q; first | (exfalso; omega) | (refine ⟨fun j j0 j1 => ?_, hcnt⟩; rw [← hf9, fpS_x (by omega) (EQI_n zc (by omega)), kt_at123 (by omega)]; exact (hqr.2 j j0 j1).2.1)), (by rewrite [e76_5_1]; omega)⟩
                  · refine TT_iload hK 6 rfl dX10_takePackets_139 ?_
                    refine TT_goto hK (tgt := 145) dX10_takePackets_141 (by decide) ?_
                    refine TT_iret hK hQ ?_ dX10_takePackets_145
                    have e77_47 : g123_56 47 = w103_45 47 := (hG_56 47 (by decide))
                    have e78_48 : g123_56 48 = w103_45 48 := (hG_56 48 (by decide))
                    have e79_49 : g123_56 49 = w103_45 49 := (hG_56 49 (by decide))
                    have e80_50 : g123_56 50 = w103_45 50 := (hG_56 50 (by decide))
                    have e81_45_10 : g123_56 45 10 = (w103_45 45) 10 := rd_ (hG_56 45 (by decide)) rfl
                    have e82_5_1 : g123_56 5 1 = (g123_56 5) 1 := rfl
                    exact ⟨⟨hT_56, hF_56⟩, k, rfl, (by omega), (by rewrite [e77_47, e78_48, e79_49, e80_50]; assumption), (by rw [tpZ_e, ← hf9, fpS_x (by omega) (EQI_n zc (by omega))]; show _ = if (ppS o9 n (o9 0) (o9 1) (o9 2) k S9).1 = 1 then k else -1; first | rw [if_pos (EQI_y zc (by omega))] | rw [if_neg (EQI_n zc (by omega))]), (by rewrite [e81_45_10]; intro q; first | (exfalso; omega) | (refine ⟨fun j j0 j1 => ?_, hcnt⟩; rw [← hf9, fpS_x (by omega) (EQI_n zc (by omega)), kt_at123 (by omega)]; exact (hqr.2 j j0 j1).2.1)), (by rewrite [e82_5_1]; omega)⟩
          refine TT_sub [3, 4, 5, 2, 1, 0] rfl ?_
          have e83_47 : g97_44 47 = g67_40 47 := ((hG_44 47 (by decide))).trans (((hG_43 47 (by decide))).trans (((hG_42 47 (by decide))).trans (hG_41 47 (by decide))))
          have e84_48 : g97_44 48 = g67_40 48 := ((hG_44 48 (by decide))).trans (((hG_43 48 (by decide))).trans (((hG_42 48 (by decide))).trans (hG_41 48 (by decide))))
          have e85_49 : g97_44 49 = g67_40 49 := ((hG_44 49 (by decide))).trans (((hG_43 49 (by decide))).trans (((hG_42 49 (by decide))).trans (hG_41 49 (by decide))))
          have e86_50 : g97_44 50 = g67_40 50 := ((hG_44 50 (by decide))).trans (((hG_43 50 (by decide))).trans (((hG_42 50 (by decide))).trans (hG_41 50 (by decide))))
          have e87_5_3 : g97_44 5 3 = (g97_44 5) 3 := rfl
          have e88_53 : g97_44 53 = h 53 := ((hG_44 53 (by decide))).trans (((hG_43 53 (by decide))).trans (((hG_42 53 (by decide))).trans (((hG_41 53 (by decide))).trans (((hG_40 53 (by decide))).trans (((hG_35 53 (by decide))).trans (((hG_34 53 (by decide))).trans (((hG_32 53 (by decide))).trans (((hG_23 53 (by decide))).trans (((hG_14 53 (by decide))).trans (((hG_13 53 (by decide))).trans (((hG_4 53 (by decide))).trans (((hG_3 53 (by decide))).trans (((hG_2 53 (by decide))).trans (hG_1 53 (by decide)))))))))))))))
          have e89_54 : g97_44 54 = g75_41 54 := ((hG_44 54 (by decide))).trans (((hG_43 54 (by decide))).trans (hG_42 54 (by decide)))
          have e90_55 : g97_44 55 = g83_42 55 := ((hG_44 55 (by decide))).trans (hG_43 55 (by decide))
          have e91_5_1 : g97_44 5 1 = (g97_44 5) 1 := rfl
          have e92_5_3 : g97_44 5 3 = (g97_44 5) 3 := rfl
          have e93_5_4 : g97_44 5 4 = (g97_44 5) 4 := rfl
          have e94_5_3 : g97_44 5 3 = (g97_44 5) 3 := rfl
          have e95_54 : g97_44 54 = g75_41 54 := ((hG_44 54 (by decide))).trans (((hG_43 54 (by decide))).trans (hG_42 54 (by decide)))
          have e96_55 : g97_44 55 = g83_42 55 := ((hG_44 55 (by decide))).trans (hG_43 55 (by decide))
          have e97_49 : g97_44 49 = g67_40 49 := ((hG_44 49 (by decide))).trans (((hG_43 49 (by decide))).trans (((hG_42 49 (by decide))).trans (hG_41 49 (by decide))))
          have e98_50 : g97_44 50 = g67_40 50 := ((hG_44 50 (by decide))).trans (((hG_43 50 (by decide))).trans (((hG_42 50 (by decide))).trans (hG_41 50 (by decide))))
          have e99_45_10 : g97_44 45 10 = (g67_40 45) 10 := rd_ (((hG_44 45 (by decide))).trans (((hG_43 45 (by decide))).trans (((hG_42 45 (by decide))).trans (hG_41 45 (by decide))))) rfl
          exact L103_45 ((((12 : Int) - 0).toNat) + 1) 0 s0S g97_44 hT_44 hF_44 (by first | omega | (simp [up, setR] <;> omega)) (by rewrite [e83_47, e84_48, e85_49, e86_50]; assumption) (by have k9 := hdT; omega) (by exact (rfl : (0 : Int) = 0)) (by rewrite [e87_5_3, e88_53, e89_54, e90_55]; exact ⟨by show _ = (32 : Int); omega, fun j j0 j1 => ⟨fun q => absurd (p1_at75 j j0 (by omega)) q, p1_at75 j j0 (by omega), p1_at83 j j0 (by omega)⟩⟩) (by rewrite [e91_5_1, e92_5_3, e93_5_4]; omega) (by rewrite [e94_5_3, e95_54, e96_55]; intro j j0 j1; rw [p1_at75 j j0 j1, p1_at83 j j0 j1]; omega) (by rewrite [e97_49, e98_50]; intro j j0 j1; have k9 := lay_at67 j j0 j1; exact ⟨k9.2.2.1, k9.2.2.2⟩) (by rewrite [e99_45_10]; exact k1_at67.2.2.2) (by exact (tpS_p (by omega)).symm) (Nat.lt_succ_self _)
        · refine TT_iconst hK dX10_takePackets_50 ?_
          refine TT_iret hK hQ ?_ dX10_takePackets_51
          have e100_47 : g44_32 47 = h 47 := ((hG_32 47 (by decide))).trans (((hG_23 47 (by decide))).trans (((hG_14 47 (by decide))).trans (((hG_13 47 (by decide))).trans (((hG_4 47 (by decide))).trans (((hG_3 47 (by decide))).trans (((hG_2 47 (by decide))).trans (hG_1 47 (by decide))))))))
          have e101_48 : g44_32 48 = h 48 := ((hG_32 48 (by decide))).trans (((hG_23 48 (by decide))).trans (((hG_14 48 (by decide))).trans (((hG_13 48 (by decide))).trans (((hG_4 48 (by decide))).trans (((hG_3 48 (by decide))).trans (((hG_2 48 (by decide))).trans (hG_1 48 (by decide))))))))
          have e102_49 : g44_32 49 = h 49 := ((hG_32 49 (by decide))).trans (((hG_23 49 (by decide))).trans (((hG_14 49 (by decide))).trans (((hG_13 49 (by decide))).trans (((hG_4 49 (by decide))).trans (((hG_3 49 (by decide))).trans (((hG_2 49 (by decide))).trans (hG_1 49 (by decide))))))))
          have e103_50 : g44_32 50 = h 50 := ((hG_32 50 (by decide))).trans (((hG_23 50 (by decide))).trans (((hG_14 50 (by decide))).trans (((hG_13 50 (by decide))).trans (((hG_4 50 (by decide))).trans (((hG_3 50 (by decide))).trans (((hG_2 50 (by decide))).trans (hG_1 50 (by decide))))))))
          have e104_45_10 : g44_32 45 10 = (h 45) 10 := rd_ (((hG_32 45 (by decide))).trans (((hG_23 45 (by decide))).trans (((hG_14 45 (by decide))).trans (((hG_13 45 (by decide))).trans (((hG_4 45 (by decide))).trans (((hG_3 45 (by decide))).trans (((hG_2 45 (by decide))).trans (hG_1 45 (by decide))))))))) rfl
          have e105_54 : g44_32 54 = h 54 := ((hG_32 54 (by decide))).trans (((hG_23 54 (by decide))).trans (((hG_14 54 (by decide))).trans (((hG_13 54 (by decide))).trans (((hG_4 54 (by decide))).trans (((hG_3 54 (by decide))).trans (((hG_2 54 (by decide))).trans (hG_1 54 (by decide))))))))
          have e106_5_1 : g44_32 5 1 = (h 5) 1 := rd_ (((hG_32 5 (by decide))).trans (((hG_23 5 (by decide))).trans (((hG_14 5 (by decide))).trans (((hG_13 5 (by decide))).trans (((hG_4 5 (by decide))).trans (((hG_3 5 (by decide))).trans (((hG_2 5 (by decide))).trans (hG_1 5 (by decide))))))))) rfl
          exact ⟨⟨hT_32, hF_32⟩, (-1), rfl, (by omega), (by rewrite [e100_47, e101_48, e102_49, e103_50]; assumption), (by rw [tpZ_e, tpS_n (by omega)]), (by rewrite [e104_45_10, e105_54]; intro q; exfalso; omega), (by rewrite [e106_5_1]; omega)⟩
set_option maxRecDepth 20000 in
theorem s_cdecode_e (o9 : Int → Int) (n : Int) (h : Hp_) (hT : TY h) (hn : -2147483648 ≤ n ∧ n ≤ 2147483647) (hbd : BDQ (h 47) (h 49) (h 48) (h 50)) (ho : ∀ j : Int, 0 ≤ j → j < (h 5 1) → (h 6) j = o9 j) : CtrB yX11_decode cX11_decode 3 (some .int) rmB ly 1 6 [vR 0, vI n] h (fun r h' => (TY h' ∧ FR [3, 4, 5, 44, 45, 46, 47, 48, 49, 50, 51, 52, 53, 54, 55, 56, 57, 58, 59, 60, 61, 62, 64, 65, 66, 67, 68, 69, 70, 71, 72] h h') ∧ ∃ z : Int, r = some (vI z) ∧ (0 ≤ z ∧ z ≤ 12) ∧ (BDQ (h' 47) (h' 49) (h' 48) (h' 50)) ∧ (((4 ≤ n ∧ n ≤ (h 5 1)) ∧ 0 ≤ (tpZ o9 n)) ∧ z = (tpZ o9 n)) ∧ ((h' 5 1) = (h 5 1))) (fun h' => (TY h' ∧ FR [3, 4, 5, 44, 45, 46, 47, 48, 49, 50, 51, 52, 53, 54, 55, 56, 57, 58, 59, 60, 61, 62, 64, 65, 66, 67, 68, 69, 70, 71, 72] h h') ∧ (BDQ (h' 47) (h' 49) (h' 48) (h' 50)) ∧ (¬((4 ≤ n ∧ n ≤ (h 5 1)) ∧ 0 ≤ (tpZ o9 n))) ∧ ((h' 5 1) = (h 5 1))) := by
  refine CtrB_of (by decide) (Nat.le_of_ble_eq_true rfl) ⟨by decide, by decide⟩ (fun K hK hQ => ?_)
  show TT K ly 0 0 0 [(0, vR 0), (1, vI n)] [] h
  have hF : FR [3, 4, 5, 44, 45, 46, 47, 48, 49, 50, 51, 52, 53, 54, 55, 56, 57, 58, 59, 60, 61, 62, 64, 65, 66, 67, 68, 69, 70, 71, 72] h h := FR_rf _ _
  refine TT_iload_n hK rfl 1 rfl dX11_decode_0 ?_
  refine TT_iconst hK dX11_decode_1 ?_
  refine TT_icmp_lt hK (tgt := 16) (irm (by omega) (by omega)) (by decide) dX11_decode_2 (by decide) (fun hb2_1 => ?_) (fun hb2_1 => ?_)
  · have e2_5_1 : h 5 1 = (h 5) 1 := rfl
    exact TT_throwB hK hQ 3 (by decide) ⟨⟨hT, hF⟩, (by first | assumption | exact hbd), (by intro q; omega), (by rewrite [e2_5_1]; omega)⟩ (Nat.le_of_ble_eq_true rfl) ⟨by decide, by decide⟩ dX11_decode_16 dX11_decode_19 dX11_decode_20 dX11_decode_22 dX11_decode_25
  · refine TT_iload_n hK rfl 1 rfl dX11_decode_5 ?_
    refine TT_aload_n hK rfl 0 rfl dX11_decode_6 ?_
    refine gf_X11_22 hK (by decide) rfl (q := 5) rfl rfl dX11_decode_7 ?_
    refine iv_X11_81 hK (s_len5_e h hT ) (by decide) rfl ⟨by decide, by decide⟩ (by decide) rfl rfl (Nat.le_of_ble_eq_true rfl) ⟨by decide, by decide⟩ dX11_decode_10 ?_
    intro r9 g10_3 hp9
    obtain ⟨⟨hT_3, hG_3⟩, z10_3, hr9, hz_3, e_3⟩ := hp9
    rw [hr9]
    have hF_3 : FR [3, 4, 5, 44, 45, 46, 47, 48, 49, 50, 51, 52, 53, 54, 55, 56, 57, 58, 59, 60, 61, 62, 64, 65, 66, 67, 68, 69, 70, 71, 72] h g10_3 := FR_tr hF hG_3 (by decide)
    rw [show h 5 1 = (h 5) 1 from rfl] at e_3
    have e_at10 := e_3
    show TT K ly 0 0 13 [(0, vR 0), (1, vI n)] [vI z10_3, vI n] g10_3
    refine TT_icmp_le hK (tgt := 26) (irm (by omega) (by omega)) (irm (by omega) (by omega)) dX11_decode_13 (by decide) (fun hb13_4 => ?_) (fun hb13_4 => ?_)
    · refine TT_aload_n hK rfl 0 rfl dX11_decode_26 ?_
      refine gf_X11_36 hK (by decide) rfl (q := 44) rfl rfl dX11_decode_27 ?_
      refine TT_aload_n hK rfl 0 rfl dX11_decode_30 ?_
      refine gf_X11_22 hK (by decide) rfl (q := 5) rfl rfl dX11_decode_31 ?_
      refine TT_iload_n hK rfl 1 rfl dX11_decode_34 ?_
      have e5_47 : g10_3 47 = h 47 := (hG_3 47 (by decide))
      have e6_48 : g10_3 48 = h 48 := (hG_3 48 (by decide))
      have e7_49 : g10_3 49 = h 49 := (hG_3 49 (by decide))
      have e8_50 : g10_3 50 = h 50 := (hG_3 50 (by decide))
      have e9_5_1 : g10_3 5 1 = (h 5) 1 := rd_ (hG_3 5 (by decide)) rfl
      have e10_6 : g10_3 6 = h 6 := (hG_3 6 (by decide))
      have e11_5_1 : g10_3 5 1 = (h 5) 1 := rd_ (hG_3 5 (by decide)) rfl
      refine iv_X11_108 hK (s_takePackets_e o9 n g10_3 hT_3 (by first | omega | (simp [up, setR] <;> omega)) (by rewrite [e5_47, e6_48, e7_49, e8_50]; first | assumption | exact hbd) (by rewrite [e9_5_1, e10_6]; first | assumption | (intro j j0 j1; exact ho j j0 (by omega))) (by rewrite [e11_5_1]; first | omega | (simp [up, setR] <;> omega))) (by decide) rfl ⟨by decide, by decide⟩ (by decide) rfl rfl (Nat.le_of_ble_eq_true rfl) ⟨by decide, by decide⟩ dX11_decode_35 ?_
      intro r9 g35_12 hp9
      obtain ⟨⟨hT_12, hG_12⟩, z35_12, hr9, hz_12, p1_12, tp_12, tk_12, k51_12⟩ := hp9
      rw [hr9]
      have hF_12 : FR [3, 4, 5, 44, 45, 46, 47, 48, 49, 50, 51, 52, 53, 54, 55, 56, 57, 58, 59, 60, 61, 62, 64, 65, 66, 67, 68, 69, 70, 71, 72] h g35_12 := FR_tr hF_3 hG_12 (by decide)
      rw [show g10_3 5 1 = (h 5) 1 from rd_ (hG_3 5 (by decide)) rfl] at k51_12
      have tp_at35 := tp_12
      have tk_at35 := tk_12
      have k51_at35 := k51_12
      show TT K ly 0 0 38 [(0, vR 0), (1, vI n)] [vI z35_12] g35_12
      refine TT_istore_n hK rfl (lv' := [(2, vI z35_12), (0, vR 0), (1, vI n)]) (by decide) rfl dX11_decode_38 ?_
      refine TT_iload_n hK rfl 0 rfl dX11_decode_39 ?_
      refine TT_if_ge hK (tgt := 53) (irm (by omega) (by omega)) dX11_decode_40 (by decide) (fun hb40_13 => ?_) (fun hb40_13 => ?_)
      · refine TT_aload_n hK rfl 1 rfl dX11_decode_53 ?_
        refine gf_X11_36 hK (by decide) rfl (q := 44) rfl rfl dX11_decode_54 ?_
        refine TT_aload_n hK rfl 1 rfl dX11_decode_57 ?_
        refine gf_X11_22 hK (by decide) rfl (q := 5) rfl rfl dX11_decode_58 ?_
        refine TT_aload_n hK rfl 1 rfl dX11_decode_61 ?_
        refine gf_X11_16 hK (by decide) rfl (q := 3) rfl rfl dX11_decode_62 ?_
        refine iv_X11_114 hK (s_X10_restore_44 g35_12 hT_12 (by first | assumption | exact hbd)) (by decide) rfl ⟨by decide, by decide⟩ (by decide) rfl rfl (Nat.le_of_ble_eq_true rfl) ⟨by decide, by decide⟩ dX11_decode_65 ?_
        intro r9 g65_14 hp9
        obtain ⟨⟨hT_14, hG_14⟩, hr9, p1_14⟩ := hp9
        rw [hr9]
        have hF_14 : FR [3, 4, 5, 44, 45, 46, 47, 48, 49, 50, 51, 52, 53, 54, 55, 56, 57, 58, 59, 60, 61, 62, 64, 65, 66, 67, 68, 69, 70, 71, 72] h g65_14 := FR_tr hF_12 hG_14 (by decide)
        show TT K ly 0 0 68 [(2, vI z35_12), (0, vR 0), (1, vI n)] [] g65_14
        refine TT_iload_n hK rfl 0 rfl dX11_decode_68 ?_
        refine TT_widen (kc' := 1) (ks' := 6) (by decide) (by decide) ?_
        refine TT_iretB hK hQ ?_ dX11_decode_69
        have e15_47 : g65_14 47 = g35_12 47 := (hG_14 47 (by decide))
        have e16_48 : g65_14 48 = g35_12 48 := (hG_14 48 (by decide))
        have e17_49 : g65_14 49 = g35_12 49 := (hG_14 49 (by decide))
        have e18_50 : g65_14 50 = g35_12 50 := (hG_14 50 (by decide))
        have e19_5_1 : g65_14 5 1 = (g35_12 5) 1 := rd_ (hG_14 5 (by decide)) rfl
        exact ⟨⟨hT_14, hF_14⟩, z35_12, rfl, (by omega), (by rewrite [e15_47, e16_48, e17_49, e18_50]; first | assumption | exact hbd), (by exact ⟨⟨by omega, by omega⟩, by omega⟩), (by rewrite [e19_5_1]; omega)⟩
      · have e20_5_1 : g35_12 5 1 = (g35_12 5) 1 := rfl
        exact TT_throwB hK hQ 4 (by decide) ⟨⟨hT_12, hF_12⟩, (by first | assumption | exact hbd), (by intro q; omega), (by rewrite [e20_5_1]; omega)⟩ (Nat.le_of_ble_eq_true rfl) ⟨by decide, by decide⟩ dX11_decode_43 dX11_decode_46 dX11_decode_47 dX11_decode_49 dX11_decode_52
    · have e21_47 : g10_3 47 = h 47 := (hG_3 47 (by decide))
      have e22_48 : g10_3 48 = h 48 := (hG_3 48 (by decide))
      have e23_49 : g10_3 49 = h 49 := (hG_3 49 (by decide))
      have e24_50 : g10_3 50 = h 50 := (hG_3 50 (by decide))
      have e25_5_1 : g10_3 5 1 = (h 5) 1 := rd_ (hG_3 5 (by decide)) rfl
      exact TT_throwB hK hQ 3 (by decide) ⟨⟨hT_3, hF_3⟩, (by rewrite [e21_47, e22_48, e23_49, e24_50]; first | assumption | exact hbd), (by intro q; omega), (by rewrite [e25_5_1]; omega)⟩ (Nat.le_of_ble_eq_true rfl) ⟨by decide, by decide⟩ dX11_decode_16 dX11_decode_19 dX11_decode_20 dX11_decode_22 dX11_decode_25

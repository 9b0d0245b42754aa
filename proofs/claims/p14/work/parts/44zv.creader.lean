/-! the class's reader -/
def rdWC (src : Int → Int) (n : Int) (R : Int × DS_) (x b : Int) : Int × DS_ := (if (rdS lwC fxC src n R.2 x).1 = b then R.1 else 1, (rdS lwC fxC src n R.2 x).2)
def rdFC (src : Int → Int) (n : Int) (T : List (Int × Int)) (R : Int × DS_) : Int × DS_ := T.foldl (fun R z => rdWC src n R z.1 z.2) R
theorem rdFC_a (src : Int → Int) (n x b : Int) (T : List (Int × Int)) (R : Int × DS_) : rdFC src n (T ++ [(x, b)]) R = rdWC src n (rdFC src n T R) x b := by
  unfold rdFC
  rw [List.foldl_append]
  rfl
theorem rdFC_s {src : Int → Int} {n x b : Int} {T : List (Int × Int)} {R : Int × DS_} {i : Nat} (h : T[i]? = some (x, b)) : rdFC src n (T.take (i + 1)) R = rdWC src n (rdFC src n (T.take i) R) x b := by
  rw [List.getElem?_eq_some_iff] at h
  obtain ⟨h1, h2⟩ := h
  rw [← List.take_append_getElem h1, h2, rdFC_a]
/-- wrong stays wrong -/
theorem rdFC_1 {src : Int → Int} {n : Int} : ∀ (T : List (Int × Int)) (D : DS_), (rdFC src n T (1, D)).1 = 1
  | [], _ => rfl
  | z :: T, D => by
    show (rdFC src n T (rdWC src n (1, D) z.1 z.2)).1 = 1
    have e : rdWC src n (1, D) z.1 z.2 = (1, (rdS lwC fxC src n D z.1).2) := by
      unfold rdWC
      congr 1
      split <;> rfl
    rw [e]
    exact rdFC_1 T _
def RTC (src : Int → Int) (n : Int) (T : List (Int × Int)) (D : DS_) (i : Int) : Prop := (rdFC src n (T.take i.toNat) (0, D)).1 = 0
theorem rdFC_w {src : Int → Int} {n w : Int} : ∀ (T : List (Int × Int)) (D : DS_), (rdFC src n T (w, D)).1 = w ∨ (rdFC src n T (w, D)).1 = 1
  | [], _ => Or.inl rfl
  | z :: T, D => by
    show (rdFC src n T (rdWC src n (w, D) z.1 z.2)).1 = w ∨ (rdFC src n T (rdWC src n (w, D) z.1 z.2)).1 = 1
    unfold rdWC
    dsimp only
    split
    · exact rdFC_w T _
    · exact Or.inr (rdFC_1 T _)
theorem RTC_le {src : Int → Int} {n : Int} {T : List (Int × Int)} {D : DS_} {i j : Int} (h : RTC src n T D j) (hij : i ≤ j) : RTC src n T D i := by
  unfold RTC at h ⊢
  obtain ⟨k, hk⟩ : ∃ k : Nat, j.toNat = i.toNat + k := ⟨j.toNat - i.toNat, by omega⟩
  rw [hk, List.take_add] at h
  unfold rdFC at h ⊢
  rw [List.foldl_append] at h
  generalize hR : List.foldl (fun R z => rdWC src n R z.1 z.2) (0, D) (T.take i.toNat) = R at h ⊢
  have w := rdFC_w (src := src) (n := n) (w := 0) (T.take i.toNat) D
  unfold rdFC at w
  rw [hR] at w
  rcases w with w | w
  · exact w
  · exfalso
    have g := rdFC_1 (src := src) (n := n) ((T.drop i.toNat).take k) R.2
    unfold rdFC at g
    rw [show ((1 : Int), R.2) = R by rw [← w]] at g
    rw [g] at h
    exact absurd h (by decide)
theorem fxC_r {c : Int} (h : 0 ≤ c) : 0 ≤ fxC c ∧ fxC c ≤ 1099511627776 := by
  unfold fxC
  omega
theorem inS_rr {src : Int → Int} {n c p c1 t1 p1 : Int} (hs : SRB src n) (h0 : 0 ≤ p) (h1 : p ≤ n) (e : ((c1, t1, p1) : Int × Int × Int) = inS src n c p) : (t1 = 7 ∨ t1 = 8) ∧ (0 ≤ p1 ∧ p1 ≤ n) ∧ c ≤ c1 ∧ c1 ≤ c + 130560 := by
  have k := inS_r (c := c) hs h0 h1
  rw [← e] at k
  exact k
theorem rdS_1c {src st lk : Int → Int} {m a a1 c c1 t p x z : Int} (h : ¬ lwC c < qS (st x) ∧ 32768 ≤ a - qS (st x)) (hz : z = lk x) (ha : a1 = a - qS (st x)) (hc : c1 = c - 65536 * qS (st x)) : (z, a1, c1, t, p, st, lk) = rdS lwC fxC src m (a, c, t, p, st, lk) x := by
  subst hz ha hc
  exact (rdS_1 h).symm
theorem RJK_in {src : Int → Int} {m a c c1 c2 t t1 p p1 : Int} {f : Nat} {R : Int × Int × Int × Int} (hs : SRB src m) (h : RJ_ fxC src m (f + 1) a c t p R) (ha : a < 32768) (ht : t = 0) (e : (c1, t1, p1) = inS src m c p) (hc : c2 = fxC (2 * c1)) : RJ_ fxC src m f (2 * a) c2 (t1 - 1) p1 R := by
  have g := RJ_in hs h ha ht (show c2 = fxC (2 * (inS src m c p).1) by rw [← e]; exact hc)
  rw [← e] at g
  exact g
theorem RTC_t {src : Int → Int} {n i x b z : Int} {T : List (Int × Int)} {D0 D D2 : DS_} (hs : (rdFC src n (T.take i.toNat) (0, D0)).2 = D) (ht : T[i.toNat]? = some (x, b)) (hr : (z, D2) = rdS lwC fxC src n D x) (hi : 0 ≤ i) : (rdFC src n (T.take (i + 1).toNat) (0, D0)).2 = D2 := by
  rw [show (i + 1).toNat = i.toNat + 1 by omega, rdFC_s ht]
  unfold rdWC
  rw [hs, ← hr]
theorem RTC_n {src : Int → Int} {n i x b z : Int} {T : List (Int × Int)} {D0 D D2 : DS_} (h : RTC src n T D0 i) (hs : (rdFC src n (T.take i.toNat) (0, D0)).2 = D) (ht : T[i.toNat]? = some (x, b)) (hr : (z, D2) = rdS lwC fxC src n D x) (hz : z = b) (hi : 0 ≤ i) : RTC src n T D0 (i + 1) := by
  unfold RTC at h ⊢
  rw [show (i + 1).toNat = i.toNat + 1 by omega, rdFC_s ht]
  unfold rdWC
  rw [hs, ← hr]
  show (if z = b then (rdFC src n (T.take i.toNat) (0, D0)).1 else 1) = 0
  rw [if_pos hz, h]
theorem RTC_x {src : Int → Int} {n i x b z : Int} {T : List (Int × Int)} {D0 D D2 : DS_} (hs : (rdFC src n (T.take i.toNat) (0, D0)).2 = D) (ht : T[i.toNat]? = some (x, b)) (hr : (z, D2) = rdS lwC fxC src n D x) (hz : z ≠ b) (hi : 0 ≤ i) (h : RTC src n T D0 (i + 1)) : False := by
  unfold RTC at h
  rw [show (i + 1).toNat = i.toNat + 1 by omega, rdFC_s ht] at h
  unfold rdWC at h
  rw [hs, ← hr] at h
  have h2 : (if z = b then (rdFC src n (T.take i.toNat) (0, D0)).1 else 1) = 0 := h
  rw [if_neg hz] at h2
  exact absurd h2 (by decide)
set_option maxRecDepth 20000 in
theorem s_fill_41_e (v : Int) (h : Hp_) (hT : TY h) (hv : 0 ≤ v ∧ v ≤ 46) : Ctr yJ7_fill_53178 cJ7_fill_53178 4 none (rmd 0) ly ly 0 0 [vR 41, vI v] h (fun r h' => (TY h' ∧ FR [41] h h') ∧ r = none ∧ (∀ j : Int, 0 ≤ j → j < 19 → (h' 41) j = v)) := by
  refine Ctr_of (by decide) (Nat.le_of_ble_eq_true rfl) ⟨Nat.le_refl _, Nat.le_refl _⟩ (fun K hK hQ _ => ?_)
  show TT K ly 0 0 0 [(0, vR 41), (1, vI v)] [] h
  have hF : FR [41] h h := FR_rf _ _
  refine TT_iconst hK dJ7_fill_53178_0 ?_
  refine TT_istore_n hK rfl (lv' := [(2, vI 0), (0, vR 41), (1, vI v)]) (by decide) rfl dJ7_fill_53178_1 ?_
  refine TT_aload_n hK rfl 1 rfl dJ7_fill_53178_2 ?_
  refine TT_alen hK (o := 41) (t := 12) (n := 19) (v := 19) (by decide) rfl (by decide) rfl dJ7_fill_53178_3 ?_
  refine TT_istore_n hK rfl (lv' := [(3, vI 19), (2, vI 0), (0, vR 41), (1, vI v)]) (by decide) rfl dJ7_fill_53178_4 ?_
  have L5_1 : ∀ (k1 : Nat) (i : Int) (w5_1 : Hp_), TY w5_1 → FR [41] h w5_1 → (0 ≤ i ∧ i ≤ 19) → (∀ j : Int, 0 ≤ j → j < i → (w5_1 41) j = v) → ((19 : Int) - i).toNat < k1 → TT K ly 0 0 5 [(0, vR 41), (1, vI v), (2, vI i), (3, vI 19)] [] w5_1 := by
    intro k1
    induction k1 with
    | zero => intro i w5_1 hT5_1 hF5_1 hi hz hk1; exact absurd hk1 (Nat.not_lt_zero _)
    | succ k1 ih1 =>
      intro i w5_1 hT5_1 hF5_1 hi hz hk1
      refine TT_iload_n hK rfl 2 rfl dJ7_fill_53178_5 ?_
      refine TT_iload_n hK rfl 3 rfl dJ7_fill_53178_6 ?_
      refine TT_icmp_ge hK (tgt := 20) (irm (by omega) (by omega)) (by decide) dJ7_fill_53178_7 (by decide) (fun hb7_2 => ?_) (fun hb7_2 => ?_)
      · refine TT_vret hK hQ ?_ dJ7_fill_53178_20
        exact ⟨⟨hT5_1, hF5_1⟩, rfl, (by intro j h1 h2; exact hz j h1 (by omega))⟩
      · refine TT_aload_n hK rfl 0 rfl dJ7_fill_53178_10 ?_
        refine TT_iload_n hK rfl 2 rfl dJ7_fill_53178_11 ?_
        refine TT_iload_n hK rfl 1 rfl dJ7_fill_53178_12 ?_
        refine TT_iast hK (o := 41) (n := 19) (by decide) rfl (by omega) (by omega) dJ7_fill_53178_13 ?_
        refine TT_hp (h' := setO w5_1 41 (fup (w5_1 41) i v)) (up_can rfl rfl rfl) ?_
        have hT_3 : TY (setO w5_1 41 (fup (w5_1 41) i v)) := tu_41 hT5_1 (show up w5_1 41 i v = (setO w5_1 41 (fup (w5_1 41) i v)) from up_can rfl rfl rfl) (by omega)
        have hF_3 : FR [41] h (setO w5_1 41 (fup (w5_1 41) i v)) := FR_up (show up w5_1 41 i v = (setO w5_1 41 (fup (w5_1 41) i v)) from up_can rfl rfl rfl) hF5_1 (by decide)
        refine TT_iinc hK (v := i + 1) (lv' := [(2, vI (i + 1)), (0, vR 41), (1, vI v), (3, vI 19)]) 2 rfl rfl (by decide) rfl dJ7_fill_53178_14 ?_
        refine TT_goto hK (tgt := 5) dJ7_fill_53178_17 (by decide) ?_
        refine TT_sub [1, 2, 0, 3] rfl ?_
        have e4_41 : (setO w5_1 41 (fup (w5_1 41) i v)) 41 = fup (w5_1 41) i v := sOf_eq _ _ _
        exact ih1 (i + 1) (setO w5_1 41 (fup (w5_1 41) i v)) hT_3 hF_3 (by first | omega | (simp [up, setR] <;> omega)) (by rewrite [e4_41]; intro j h1 h2; by_cases e : j = i; (rw [e, fup_eq]); (rw [fup_ne _ _ e]; exact hz j h1 (by omega))) (by first | omega | (simp [up, setR] <;> omega))
  refine TT_sub [2, 3, 1, 0] rfl ?_
  exact L5_1 ((((19 : Int) - 0).toNat) + 1) 0 h hT hF (by first | omega | (simp [up, setR] <;> omega)) (by intro j h1 h2; exfalso; omega) (Nat.lt_succ_self _)
set_option maxRecDepth 20000 in
theorem s_fill_42_e (v : Int) (h : Hp_) (hT : TY h) (hv : 0 ≤ v ∧ v ≤ 1) : Ctr yJ7_fill_53178 cJ7_fill_53178 4 none (rmd 0) ly ly 0 0 [vR 42, vI v] h (fun r h' => (TY h' ∧ FR [42] h h') ∧ r = none ∧ (∀ j : Int, 0 ≤ j → j < 19 → (h' 42) j = v)) := by
  refine Ctr_of (by decide) (Nat.le_of_ble_eq_true rfl) ⟨Nat.le_refl _, Nat.le_refl _⟩ (fun K hK hQ _ => ?_)
  show TT K ly 0 0 0 [(0, vR 42), (1, vI v)] [] h
  have hF : FR [42] h h := FR_rf _ _
  refine TT_iconst hK dJ7_fill_53178_0 ?_
  refine TT_istore_n hK rfl (lv' := [(2, vI 0), (0, vR 42), (1, vI v)]) (by decide) rfl dJ7_fill_53178_1 ?_
  refine TT_aload_n hK rfl 1 rfl dJ7_fill_53178_2 ?_
  refine TT_alen hK (o := 42) (t := 12) (n := 19) (v := 19) (by decide) rfl (by decide) rfl dJ7_fill_53178_3 ?_
  refine TT_istore_n hK rfl (lv' := [(3, vI 19), (2, vI 0), (0, vR 42), (1, vI v)]) (by decide) rfl dJ7_fill_53178_4 ?_
  have L5_1 : ∀ (k1 : Nat) (i : Int) (w5_1 : Hp_), TY w5_1 → FR [42] h w5_1 → (0 ≤ i ∧ i ≤ 19) → (∀ j : Int, 0 ≤ j → j < i → (w5_1 42) j = v) → ((19 : Int) - i).toNat < k1 → TT K ly 0 0 5 [(0, vR 42), (1, vI v), (2, vI i), (3, vI 19)] [] w5_1 := by
    intro k1
    induction k1 with
    | zero => intro i w5_1 hT5_1 hF5_1 hi hz hk1; exact absurd hk1 (Nat.not_lt_zero _)
    | succ k1 ih1 =>
      intro i w5_1 hT5_1 hF5_1 hi hz hk1
      refine TT_iload_n hK rfl 2 rfl dJ7_fill_53178_5 ?_
      refine TT_iload_n hK rfl 3 rfl dJ7_fill_53178_6 ?_
      refine TT_icmp_ge hK (tgt := 20) (irm (by omega) (by omega)) (by decide) dJ7_fill_53178_7 (by decide) (fun hb7_2 => ?_) (fun hb7_2 => ?_)
      · refine TT_vret hK hQ ?_ dJ7_fill_53178_20
        exact ⟨⟨hT5_1, hF5_1⟩, rfl, (by intro j h1 h2; exact hz j h1 (by omega))⟩
      · refine TT_aload_n hK rfl 0 rfl dJ7_fill_53178_10 ?_
        refine TT_iload_n hK rfl 2 rfl dJ7_fill_53178_11 ?_
        refine TT_iload_n hK rfl 1 rfl dJ7_fill_53178_12 ?_
        refine TT_iast hK (o := 42) (n := 19) (by decide) rfl (by omega) (by omega) dJ7_fill_53178_13 ?_
        refine TT_hp (h' := setO w5_1 42 (fup (w5_1 42) i v)) (up_can rfl rfl rfl) ?_
        have hT_3 : TY (setO w5_1 42 (fup (w5_1 42) i v)) := tu_42 hT5_1 (show up w5_1 42 i v = (setO w5_1 42 (fup (w5_1 42) i v)) from up_can rfl rfl rfl) (by omega)
        have hF_3 : FR [42] h (setO w5_1 42 (fup (w5_1 42) i v)) := FR_up (show up w5_1 42 i v = (setO w5_1 42 (fup (w5_1 42) i v)) from up_can rfl rfl rfl) hF5_1 (by decide)
        refine TT_iinc hK (v := i + 1) (lv' := [(2, vI (i + 1)), (0, vR 42), (1, vI v), (3, vI 19)]) 2 rfl rfl (by decide) rfl dJ7_fill_53178_14 ?_
        refine TT_goto hK (tgt := 5) dJ7_fill_53178_17 (by decide) ?_
        refine TT_sub [1, 2, 0, 3] rfl ?_
        have e4_42 : (setO w5_1 42 (fup (w5_1 42) i v)) 42 = fup (w5_1 42) i v := sOf_eq _ _ _
        exact ih1 (i + 1) (setO w5_1 42 (fup (w5_1 42) i v)) hT_3 hF_3 (by first | omega | (simp [up, setR] <;> omega)) (by rewrite [e4_42]; intro j h1 h2; by_cases e : j = i; (rw [e, fup_eq]); (rw [fup_ne _ _ e]; exact hz j h1 (by omega))) (by first | omega | (simp [up, setR] <;> omega))
  refine TT_sub [2, 3, 1, 0] rfl ?_
  exact L5_1 ((((19 : Int) - 0).toNat) + 1) 0 h hT hF (by first | omega | (simp [up, setR] <;> omega)) (by intro j h1 h2; exfalso; omega) (Nat.lt_succ_self _)
set_option maxRecDepth 20000 in
theorem s_obegin40_e (h : Hp_) (hT : TY h)  : Ctr yX2_begin cX2_begin 1 none (rmd 1) ly ly 0 0 [vR 40] h (fun r h' => (TY h' ∧ FR [41, 42] h h') ∧ r = none ∧ (∀ j : Int, 0 ≤ j → j < 19 → (h' 41) j = st0 j) ∧ (∀ j : Int, 0 ≤ j → j < 19 → (h' 42) j = 0)) := by
  refine Ctr_of (by decide) (Nat.le_of_ble_eq_true rfl) ⟨Nat.le_refl _, Nat.le_refl _⟩ (fun K hK hQ _ => ?_)
  show TT K ly 0 0 0 [(0, vR 40)] [] h
  have hF : FR [41, 42] h h := FR_rf _ _
  refine TT_aload_n hK rfl 0 rfl dX2_begin_0 ?_
  refine gf_X2_13 hK (by decide) rfl (q := 42) rfl rfl dX2_begin_1 ?_
  refine TT_iconst hK dX2_begin_4 ?_
  refine iv_X2_16 hK (s_fill_42_e 0 h hT (by first | omega | (simp [up, setR] <;> omega))) ⟨by decide, by decide⟩ (by decide) rfl rfl (Nat.le_of_ble_eq_true rfl) ⟨by decide, by decide⟩ dX2_begin_5 ?_
  intro r9 g5_1 hp9
  obtain ⟨⟨hT_1, hG_1⟩, hr9, f_1⟩ := hp9
  rw [hr9]
  have hF_1 : FR [41, 42] h g5_1 := FR_tr hF hG_1 (by decide)
  have f_at5 := f_1
  show TT K ly 0 0 8 [(0, vR 40)] [] g5_1
  refine TT_aload_n hK rfl 0 rfl dX2_begin_8 ?_
  refine gf_X2_9 hK (by decide) rfl (q := 41) rfl rfl dX2_begin_9 ?_
  refine TT_iconst hK dX2_begin_12 ?_
  refine iv_X2_16 hK (s_fill_41_e 0 g5_1 hT_1 (by first | omega | (simp [up, setR] <;> omega))) ⟨by decide, by decide⟩ (by decide) rfl rfl (Nat.le_of_ble_eq_true rfl) ⟨by decide, by decide⟩ dX2_begin_13 ?_
  intro r9 g13_2 hp9
  obtain ⟨⟨hT_2, hG_2⟩, hr9, f_2⟩ := hp9
  rw [hr9]
  have hF_2 : FR [41, 42] h g13_2 := FR_tr hF_1 hG_2 (by decide)
  have f_at13 := f_2
  show TT K ly 0 0 16 [(0, vR 40)] [] g13_2
  refine TT_aload_n hK rfl 0 rfl dX2_begin_16 ?_
  refine gf_X2_9 hK (by decide) rfl (q := 41) rfl rfl dX2_begin_17 ?_
  refine TT_iconst hK dX2_begin_20 ?_
  refine TT_iconst hK dX2_begin_21 ?_
  refine TT_iast hK (o := 41) (n := 19) (by decide) rfl (by omega) (by omega) dX2_begin_22 ?_
  refine TT_hp (h' := setO g13_2 41 (fup (g13_2 41) 0 4)) (up_can rfl rfl rfl) ?_
  have hT_3 : TY (setO g13_2 41 (fup (g13_2 41) 0 4)) := tu_41 hT_2 (show up g13_2 41 0 4 = (setO g13_2 41 (fup (g13_2 41) 0 4)) from up_can rfl rfl rfl) (by omega)
  have hF_3 : FR [41, 42] h (setO g13_2 41 (fup (g13_2 41) 0 4)) := FR_up (show up g13_2 41 0 4 = (setO g13_2 41 (fup (g13_2 41) 0 4)) from up_can rfl rfl rfl) hF_2 (by decide)
  refine TT_aload_n hK rfl 0 rfl dX2_begin_23 ?_
  refine gf_X2_9 hK (by decide) rfl (q := 41) rfl rfl dX2_begin_24 ?_
  refine TT_bipush hK (by decide) dX2_begin_27 ?_
  refine TT_iconst hK dX2_begin_29 ?_
  refine TT_iast hK (o := 41) (n := 19) (by decide) rfl (by omega) (by omega) dX2_begin_30 ?_
  refine TT_hp (h' := setO g13_2 41 (fup (fup (g13_2 41) 0 4) 17 3)) (up_can (sOf_eq _ _ _) rfl (setO_same _ _ _ _)) ?_
  have hT_4 : TY (setO g13_2 41 (fup (fup (g13_2 41) 0 4) 17 3)) := tu_41 hT_3 (show up (setO g13_2 41 (fup (g13_2 41) 0 4)) 41 17 3 = (setO g13_2 41 (fup (fup (g13_2 41) 0 4) 17 3)) from up_can (sOf_eq _ _ _) rfl (setO_same _ _ _ _)) (by omega)
  have hF_4 : FR [41, 42] h (setO g13_2 41 (fup (fup (g13_2 41) 0 4) 17 3)) := FR_up (show up (setO g13_2 41 (fup (g13_2 41) 0 4)) 41 17 3 = (setO g13_2 41 (fup (fup (g13_2 41) 0 4) 17 3)) from up_can (sOf_eq _ _ _) rfl (setO_same _ _ _ _)) hF_3 (by decide)
  refine TT_aload_n hK rfl 0 rfl dX2_begin_31 ?_
  refine gf_X2_9 hK (by decide) rfl (q := 41) rfl rfl dX2_begin_32 ?_
  refine TT_bipush hK (by decide) dX2_begin_35 ?_
  refine TT_bipush hK (by decide) dX2_begin_37 ?_
  refine TT_iast hK (o := 41) (n := 19) (by decide) rfl (by omega) (by omega) dX2_begin_39 ?_
  refine TT_hp (h' := setO g13_2 41 (fup (fup (fup (g13_2 41) 0 4) 17 3) 18 46)) (up_can (sOf_eq _ _ _) rfl (setO_same _ _ _ _)) ?_
  have hT_5 : TY (setO g13_2 41 (fup (fup (fup (g13_2 41) 0 4) 17 3) 18 46)) := tu_41 hT_4 (show up (setO g13_2 41 (fup (fup (g13_2 41) 0 4) 17 3)) 41 18 46 = (setO g13_2 41 (fup (fup (fup (g13_2 41) 0 4) 17 3) 18 46)) from up_can (sOf_eq _ _ _) rfl (setO_same _ _ _ _)) (by omega)
  have hF_5 : FR [41, 42] h (setO g13_2 41 (fup (fup (fup (g13_2 41) 0 4) 17 3) 18 46)) := FR_up (show up (setO g13_2 41 (fup (fup (g13_2 41) 0 4) 17 3)) 41 18 46 = (setO g13_2 41 (fup (fup (fup (g13_2 41) 0 4) 17 3) 18 46)) from up_can (sOf_eq _ _ _) rfl (setO_same _ _ _ _)) hF_4 (by decide)
  refine TT_vret hK hQ ?_ dX2_begin_40
  have e6_41 : (setO g13_2 41 (fup (fup (fup (g13_2 41) 0 4) 17 3) 18 46)) 41 = fup (fup (fup (g13_2 41) 0 4) 17 3) 18 46 := sOf_eq _ _ _
  have e7_42 : (setO g13_2 41 (fup (fup (fup (g13_2 41) 0 4) 17 3) 18 46)) 42 = g5_1 42 := (sOf_ne _ _ (by decide)).trans (hG_2 42 (by decide))
  exact ⟨⟨hT_5, hF_5⟩, rfl, (by rewrite [e6_41]; intro j h1 h2; unfold st0; by_cases q18 : j = 18; (rw [if_pos q18, q18, fup_eq]); rw [if_neg q18, fup_ne _ _ q18]; by_cases q17 : j = 17; (rw [if_pos q17, q17, fup_eq]); rw [if_neg q17, fup_ne _ _ q17]; by_cases q0 : j = 0; (rw [if_pos q0, q0, fup_eq]); rw [if_neg q0, fup_ne _ _ q0]; exact f_at13 j h1 h2), (by rewrite [e7_42]; exact f_at5)⟩
set_option maxRecDepth 20000 in
theorem s_sizeOf40_e (x : Int) (h : Hp_) (hT : TY h) (hx : 0 ≤ x ∧ x ≤ 18) : Ctr yX2_sizeOf cX2_sizeOf 2 (some .int) (rmd 0) ly ly 0 0 [vR 40, vI x] h (fun r h' => (TY h' ∧ FR [] h h') ∧ ∃ z : Int, r = some (vI z) ∧ (0 ≤ z ∧ z ≤ 22017) ∧ (z = qS ((h 41) x))) := by
  refine Ctr_of (by decide) (Nat.le_of_ble_eq_true rfl) ⟨Nat.le_refl _, Nat.le_refl _⟩ (fun K hK hQ _ => ?_)
  show TT K ly 0 0 0 [(0, vR 40), (1, vI x)] [] h
  have hF : FR [] h h := FR_rf _ _
  refine TT_gets hK (i := 0) (q := 1000) (by decide) rfl gs_X2_22 dX2_sizeOf_0 ?_
  refine TT_aload_n hK rfl 0 rfl dX2_sizeOf_3 ?_
  refine gf_X2_9 hK (by decide) rfl (q := 41) rfl rfl dX2_sizeOf_4 ?_
  refine TT_iload_n hK rfl 1 rfl dX2_sizeOf_7 ?_
  refine TT_iald hK (o := 41) (n := 19) (by decide) rfl (by first | omega | (simp [up, setR] <;> omega)) (by first | omega | (simp [up, setR] <;> omega)) (v := (h 41) x) rfl dX2_sizeOf_8 ?_
  have r1 := ty_41 (i := x) (v := (h 41) x) hT rfl (by omega) (by omega)
  refine TT_tald hK (i := 0) (by decide) rfl (by first | omega | (simp [up, setR] <;> omega)) (by first | omega | (simp [up, setR] <;> omega)) rfl dX2_sizeOf_9 ?_
  obtain ⟨c9_2, hc2⟩ : ∃ c : Int, c = (stT 0).getD ((h 41) x).toNat 0 := ⟨_, rfl⟩
  have r2 : (0 : Int) ≤ c9_2 ∧ c9_2 ≤ 22017 := by rw [hc2]; exact tab_any 0 _ (by decide) (by omega) (by omega)
  rw [← hc2]
  refine TT_iret hK hQ ?_ dX2_sizeOf_10
  exact ⟨⟨hT, hF⟩, c9_2, rfl, (by omega), (by unfold qS; assumption)⟩
set_option maxRecDepth 20000 in
theorem s_likelyBit40_e (x : Int) (h : Hp_) (hT : TY h) (hx : 0 ≤ x ∧ x ≤ 18) : Ctr yX2_likelyBit cX2_likelyBit 2 (some .int) (rmd 0) ly ly 0 0 [vR 40, vI x] h (fun r h' => (TY h' ∧ FR [] h h') ∧ ∃ z : Int, r = some (vI z) ∧ (0 ≤ z ∧ z ≤ 1) ∧ (z = (h 42) x)) := by
  refine Ctr_of (by decide) (Nat.le_of_ble_eq_true rfl) ⟨Nat.le_refl _, Nat.le_refl _⟩ (fun K hK hQ _ => ?_)
  show TT K ly 0 0 0 [(0, vR 40), (1, vI x)] [] h
  have hF : FR [] h h := FR_rf _ _
  refine TT_aload_n hK rfl 0 rfl dX2_likelyBit_0 ?_
  refine gf_X2_13 hK (by decide) rfl (q := 42) rfl rfl dX2_likelyBit_1 ?_
  refine TT_iload_n hK rfl 1 rfl dX2_likelyBit_4 ?_
  refine TT_iald hK (o := 42) (n := 19) (by decide) rfl (by first | omega | (simp [up, setR] <;> omega)) (by first | omega | (simp [up, setR] <;> omega)) (v := (h 42) x) rfl dX2_likelyBit_5 ?_
  have r1 := ty_42 (i := x) (v := (h 42) x) hT rfl (by omega) (by omega)
  refine TT_iret hK hQ ?_ dX2_likelyBit_6
  exact ⟨⟨hT, hF⟩, ((h 42) x), rfl, (by omega), (by rfl)⟩
set_option maxRecDepth 20000 in
theorem s_learn40_e (x b : Int) (h : Hp_) (hT : TY h) (hx : 0 ≤ x ∧ x ≤ 18) (hb : 0 ≤ b ∧ b ≤ 1) : Ctr yX2_learn cX2_learn 4 none (rmd 0) ly ly 0 0 [vR 40, vI x, vI b] h (fun r h' => (TY h' ∧ FR [41, 42] h h') ∧ r = none ∧ ((h' 41) = lrS (h 41) x (b ≠ (h 42) x)) ∧ ((h' 42) = lrL (h 41) (h 42) x (b ≠ (h 42) x))) := by
  refine Ctr_of (by decide) (Nat.le_of_ble_eq_true rfl) ⟨Nat.le_refl _, Nat.le_refl _⟩ (fun K hK hQ _ => ?_)
  show TT K ly 0 0 0 [(0, vR 40), (1, vI x), (2, vI b)] [] h
  have hF : FR [41, 42] h h := FR_rf _ _
  have hs0 := ty_41 (i := x) (v := h 41 x) hT rfl (by omega) (by omega)
  have hl0 := ty_42 (i := x) (v := h 42 x) hT rfl (by omega) (by omega)
  refine TT_aload_n hK rfl 0 rfl dX2_learn_0 ?_
  refine gf_X2_9 hK (by decide) rfl (q := 41) rfl rfl dX2_learn_1 ?_
  refine TT_iload_n hK rfl 1 rfl dX2_learn_4 ?_
  refine TT_iald hK (o := 41) (n := 19) (by decide) rfl (by first | omega | (simp [up, setR] <;> omega)) (by first | omega | (simp [up, setR] <;> omega)) (v := (h 41) x) rfl dX2_learn_5 ?_
  have r1 := ty_41 (i := x) (v := (h 41) x) hT rfl (by omega) (by omega)
  refine TT_istore_n hK rfl (lv' := [(3, vI ((h 41) x)), (0, vR 40), (1, vI x), (2, vI b)]) (by decide) rfl dX2_learn_6 ?_
  refine TT_iload_n hK rfl 3 rfl dX2_learn_7 ?_
  refine TT_aload_n hK rfl 1 rfl dX2_learn_8 ?_
  refine gf_X2_13 hK (by decide) rfl (q := 42) rfl rfl dX2_learn_9 ?_
  refine TT_iload_n hK rfl 2 rfl dX2_learn_12 ?_
  refine TT_iald hK (o := 42) (n := 19) (by decide) rfl (by first | omega | (simp [up, setR] <;> omega)) (by first | omega | (simp [up, setR] <;> omega)) (v := (h 42) x) rfl dX2_learn_13 ?_
  have r2 := ty_42 (i := x) (v := (h 42) x) hT rfl (by omega) (by omega)
  refine TT_icmp_ne hK (tgt := 29) (irm (by omega) (by omega)) (irm (by omega) (by omega)) dX2_learn_14 (by decide) (fun hb14_3 => ?_) (fun hb14_3 => ?_)
  · refine TT_aload_n hK rfl 1 rfl dX2_learn_29 ?_
    refine gf_X2_9 hK (by decide) rfl (q := 41) rfl rfl dX2_learn_30 ?_
    refine TT_iload_n hK rfl 2 rfl dX2_learn_33 ?_
    refine TT_gets hK (i := 2) (q := 1002) (by decide) rfl gs_X2_28 dX2_learn_34 ?_
    refine TT_iload_n hK rfl 0 rfl dX2_learn_37 ?_
    refine TT_tald hK (i := 2) (by decide) rfl (by first | omega | (simp [up, setR] <;> omega)) (by first | omega | (simp [up, setR] <;> omega)) rfl dX2_learn_38 ?_
    obtain ⟨c38_4, hc4⟩ : ∃ c : Int, c = (stT 2).getD ((h 41) x).toNat 0 := ⟨_, rfl⟩
    have r4 : (0 : Int) ≤ c38_4 ∧ c38_4 ≤ 46 := by rw [hc4]; exact tab_46 2 _ (by decide) (by omega) (by omega)
    rw [← hc4]
    refine TT_iast hK (o := 41) (n := 19) (by decide) rfl (by omega) (by omega) dX2_learn_39 ?_
    refine TT_hp (h' := setO h 41 (fup (h 41) x c38_4)) (up_can rfl rfl rfl) ?_
    have hT_5 : TY (setO h 41 (fup (h 41) x c38_4)) := tu_41 hT (show up h 41 x c38_4 = (setO h 41 (fup (h 41) x c38_4)) from up_can rfl rfl rfl) (by omega)
    have hF_5 : FR [41, 42] h (setO h 41 (fup (h 41) x c38_4)) := FR_up (show up h 41 x c38_4 = (setO h 41 (fup (h 41) x c38_4)) from up_can rfl rfl rfl) hF (by decide)
    refine TT_iload_n hK rfl 0 rfl dX2_learn_40 ?_
    refine TT_if_eq hK (tgt := 56) (irm (by omega) (by omega)) dX2_learn_41 (by decide) (fun hb41_6 => ?_) (fun hb41_6 => ?_)
    · refine TT_aload_n hK rfl 1 rfl dX2_learn_56 ?_
      refine gf_X2_13 hK (by decide) rfl (q := 42) rfl rfl dX2_learn_57 ?_
      refine TT_iload_n hK rfl 2 rfl dX2_learn_60 ?_
      refine TT_iload_n hK rfl 3 rfl dX2_learn_61 ?_
      refine TT_iast hK (o := 42) (n := 19) (by decide) rfl (by omega) (by omega) dX2_learn_62 ?_
      refine TT_hp (h' := setO (setO h 41 (fup (h 41) x c38_4)) 42 (fup (h 42) x b)) (up_can (sOf_ne _ _ (by decide)) rfl rfl) ?_
      have hT_7 : TY (setO (setO h 41 (fup (h 41) x c38_4)) 42 (fup (h 42) x b)) := tu_42 hT_5 (show up (setO h 41 (fup (h 41) x c38_4)) 42 x b = (setO (setO h 41 (fup (h 41) x c38_4)) 42 (fup (h 42) x b)) from up_can (sOf_ne _ _ (by decide)) rfl rfl) (by omega)
      have hF_7 : FR [41, 42] h (setO (setO h 41 (fup (h 41) x c38_4)) 42 (fup (h 42) x b)) := FR_up (show up (setO h 41 (fup (h 41) x c38_4)) 42 x b = (setO (setO h 41 (fup (h 41) x c38_4)) 42 (fup (h 42) x b)) from up_can (sOf_ne _ _ (by decide)) rfl rfl) hF_5 (by decide)
      refine TT_vret hK hQ ?_ dX2_learn_63
      have e8_41 : (setO (setO h 41 (fup (h 41) x c38_4)) 42 (fup (h 42) x b)) 41 = fup (h 41) x c38_4 := (sOf_ne _ _ (by decide)).trans (sOf_eq _ _ _)
      have e9_42 : (setO (setO h 41 (fup (h 41) x c38_4)) 42 (fup (h 42) x b)) 42 = fup (h 42) x b := sOf_eq _ _ _
      exact ⟨⟨hT_7, hF_7⟩, rfl, (by rewrite [e8_41]; unfold lrS nlS nmS; first | (rw [if_pos (by omega)]; congr 1) | (rw [if_neg (by omega)]; congr 1)), (by rewrite [e9_42]; unfold lrL; first | (rw [if_pos (by omega)]; congr 1; omega) | rw [if_neg (by omega)])⟩
    · refine TT_iload_n hK rfl 0 rfl dX2_learn_44 ?_
      refine TT_bipush hK (by decide) dX2_learn_45 ?_
      refine TT_icmp_eq hK (tgt := 56) (irm (by omega) (by omega)) (by decide) dX2_learn_47 (by decide) (fun hb47_10 => ?_) (fun hb47_10 => ?_)
      · refine TT_aload_n hK rfl 1 rfl dX2_learn_56 ?_
        refine gf_X2_13 hK (by decide) rfl (q := 42) rfl rfl dX2_learn_57 ?_
        refine TT_iload_n hK rfl 2 rfl dX2_learn_60 ?_
        refine TT_iload_n hK rfl 3 rfl dX2_learn_61 ?_
        refine TT_iast hK (o := 42) (n := 19) (by decide) rfl (by omega) (by omega) dX2_learn_62 ?_
        refine TT_hp (h' := setO (setO h 41 (fup (h 41) x c38_4)) 42 (fup (h 42) x b)) (up_can (sOf_ne _ _ (by decide)) rfl rfl) ?_
        have hT_11 : TY (setO (setO h 41 (fup (h 41) x c38_4)) 42 (fup (h 42) x b)) := tu_42 hT_5 (show up (setO h 41 (fup (h 41) x c38_4)) 42 x b = (setO (setO h 41 (fup (h 41) x c38_4)) 42 (fup (h 42) x b)) from up_can (sOf_ne _ _ (by decide)) rfl rfl) (by omega)
        have hF_11 : FR [41, 42] h (setO (setO h 41 (fup (h 41) x c38_4)) 42 (fup (h 42) x b)) := FR_up (show up (setO h 41 (fup (h 41) x c38_4)) 42 x b = (setO (setO h 41 (fup (h 41) x c38_4)) 42 (fup (h 42) x b)) from up_can (sOf_ne _ _ (by decide)) rfl rfl) hF_5 (by decide)
        refine TT_vret hK hQ ?_ dX2_learn_63
        have e12_41 : (setO (setO h 41 (fup (h 41) x c38_4)) 42 (fup (h 42) x b)) 41 = fup (h 41) x c38_4 := (sOf_ne _ _ (by decide)).trans (sOf_eq _ _ _)
        have e13_42 : (setO (setO h 41 (fup (h 41) x c38_4)) 42 (fup (h 42) x b)) 42 = fup (h 42) x b := sOf_eq _ _ _
        exact ⟨⟨hT_11, hF_11⟩, rfl, (by rewrite [e12_41]; unfold lrS nlS nmS; first | (rw [if_pos (by omega)]; congr 1) | (rw [if_neg (by omega)]; congr 1)), (by rewrite [e13_42]; unfold lrL; first | (rw [if_pos (by omega)]; congr 1; omega) | rw [if_neg (by omega)])⟩
      · refine TT_iload_n hK rfl 0 rfl dX2_learn_50 ?_
        refine TT_bipush hK (by decide) dX2_learn_51 ?_
        refine TT_icmp_ne hK (tgt := 63) (irm (by omega) (by omega)) (by decide) dX2_learn_53 (by decide) (fun hb53_14 => ?_) (fun hb53_14 => ?_)
        · refine TT_vret hK hQ ?_ dX2_learn_63
          have e15_41 : (setO h 41 (fup (h 41) x c38_4)) 41 = fup (h 41) x c38_4 := sOf_eq _ _ _
          have e16_42 : (setO h 41 (fup (h 41) x c38_4)) 42 = h 42 := sOf_ne _ _ (by decide)
          exact ⟨⟨hT_5, hF_5⟩, rfl, (by rewrite [e15_41]; unfold lrS nlS nmS; first | (rw [if_pos (by omega)]; congr 1) | (rw [if_neg (by omega)]; congr 1)), (by rewrite [e16_42]; unfold lrL; first | (rw [if_pos (by omega)]; congr 1; omega) | rw [if_neg (by omega)])⟩
        · refine TT_aload_n hK rfl 1 rfl dX2_learn_56 ?_
          refine gf_X2_13 hK (by decide) rfl (q := 42) rfl rfl dX2_learn_57 ?_
          refine TT_iload_n hK rfl 2 rfl dX2_learn_60 ?_
          refine TT_iload_n hK rfl 3 rfl dX2_learn_61 ?_
          refine TT_iast hK (o := 42) (n := 19) (by decide) rfl (by omega) (by omega) dX2_learn_62 ?_
          refine TT_hp (h' := setO (setO h 41 (fup (h 41) x c38_4)) 42 (fup (h 42) x b)) (up_can (sOf_ne _ _ (by decide)) rfl rfl) ?_
          have hT_17 : TY (setO (setO h 41 (fup (h 41) x c38_4)) 42 (fup (h 42) x b)) := tu_42 hT_5 (show up (setO h 41 (fup (h 41) x c38_4)) 42 x b = (setO (setO h 41 (fup (h 41) x c38_4)) 42 (fup (h 42) x b)) from up_can (sOf_ne _ _ (by decide)) rfl rfl) (by omega)
          have hF_17 : FR [41, 42] h (setO (setO h 41 (fup (h 41) x c38_4)) 42 (fup (h 42) x b)) := FR_up (show up (setO h 41 (fup (h 41) x c38_4)) 42 x b = (setO (setO h 41 (fup (h 41) x c38_4)) 42 (fup (h 42) x b)) from up_can (sOf_ne _ _ (by decide)) rfl rfl) hF_5 (by decide)
          refine TT_vret hK hQ ?_ dX2_learn_63
          have e18_41 : (setO (setO h 41 (fup (h 41) x c38_4)) 42 (fup (h 42) x b)) 41 = fup (h 41) x c38_4 := (sOf_ne _ _ (by decide)).trans (sOf_eq _ _ _)
          have e19_42 : (setO (setO h 41 (fup (h 41) x c38_4)) 42 (fup (h 42) x b)) 42 = fup (h 42) x b := sOf_eq _ _ _
          exact ⟨⟨hT_17, hF_17⟩, rfl, (by rewrite [e18_41]; unfold lrS nlS nmS; first | (rw [if_pos (by omega)]; congr 1) | (rw [if_neg (by omega)]; congr 1)), (by rewrite [e19_42]; unfold lrL; first | (rw [if_pos (by omega)]; congr 1; omega) | rw [if_neg (by omega)])⟩
  · refine TT_aload_n hK rfl 1 rfl dX2_learn_17 ?_
    refine gf_X2_9 hK (by decide) rfl (q := 41) rfl rfl dX2_learn_18 ?_
    refine TT_iload_n hK rfl 2 rfl dX2_learn_21 ?_
    refine TT_gets hK (i := 1) (q := 1001) (by decide) rfl gs_X2_25 dX2_learn_22 ?_
    refine TT_iload_n hK rfl 0 rfl dX2_learn_25 ?_
    refine TT_tald hK (i := 1) (by decide) rfl (by first | omega | (simp [up, setR] <;> omega)) (by first | omega | (simp [up, setR] <;> omega)) rfl dX2_learn_26 ?_
    obtain ⟨c26_20, hc20⟩ : ∃ c : Int, c = (stT 1).getD ((h 41) x).toNat 0 := ⟨_, rfl⟩
    have r20 : (0 : Int) ≤ c26_20 ∧ c26_20 ≤ 46 := by rw [hc20]; exact tab_46 1 _ (by decide) (by omega) (by omega)
    rw [← hc20]
    refine TT_iast hK (o := 41) (n := 19) (by decide) rfl (by omega) (by omega) dX2_learn_27 ?_
    refine TT_hp (h' := setO h 41 (fup (h 41) x c26_20)) (up_can rfl rfl rfl) ?_
    have hT_21 : TY (setO h 41 (fup (h 41) x c26_20)) := tu_41 hT (show up h 41 x c26_20 = (setO h 41 (fup (h 41) x c26_20)) from up_can rfl rfl rfl) (by omega)
    have hF_21 : FR [41, 42] h (setO h 41 (fup (h 41) x c26_20)) := FR_up (show up h 41 x c26_20 = (setO h 41 (fup (h 41) x c26_20)) from up_can rfl rfl rfl) hF (by decide)
    refine TT_vret hK hQ ?_ dX2_learn_28
    have e22_41 : (setO h 41 (fup (h 41) x c26_20)) 41 = fup (h 41) x c26_20 := sOf_eq _ _ _
    have e23_42 : (setO h 41 (fup (h 41) x c26_20)) 42 = h 42 := sOf_ne _ _ (by decide)
    exact ⟨⟨hT_21, hF_21⟩, rfl, (by rewrite [e22_41]; unfold lrS nlS nmS; first | (rw [if_pos (by omega)]; congr 1) | (rw [if_neg (by omega)]; congr 1)), (by rewrite [e23_42]; unfold lrL; first | (rw [if_pos (by omega)]; congr 1; omega) | rw [if_neg (by omega)])⟩
set_option maxRecDepth 20000 in
theorem s_rclear_e (h : Hp_) (hT : TY h)  : Ctr yX6_clear cX6_clear 1 none (rmd 0) ly ly 0 0 [vR 39] h (fun r h' => (TY h' ∧ FR [39] h h') ∧ r = none ∧ ((h' 39 2) = 0)) := by
  refine Ctr_of (by decide) (Nat.le_of_ble_eq_true rfl) ⟨Nat.le_refl _, Nat.le_refl _⟩ (fun K hK hQ _ => ?_)
  show TT K ly 0 0 0 [(0, vR 39)] [] h
  have hF : FR [39] h h := FR_rf _ _
  refine TT_aload_n hK rfl 0 rfl dX6_clear_0 ?_
  refine TT_iconst hK dX6_clear_1 ?_
  refine pf_X6_22 hK (by decide) rfl dX6_clear_2 ?_
  refine TT_hp (h' := setO h 39 (fup (h 39) 2 0)) (up_can rfl rfl rfl) ?_
  have hT_1 : TY (setO h 39 (fup (h 39) 2 0)) := tu_39_2 hT (show up h 39 2 0 = (setO h 39 (fup (h 39) 2 0)) from up_can rfl rfl rfl) (by omega)
  have hF_1 : FR [39] h (setO h 39 (fup (h 39) 2 0)) := FR_up (show up h 39 2 0 = (setO h 39 (fup (h 39) 2 0)) from up_can rfl rfl rfl) hF (by decide)
  refine TT_vret hK hQ ?_ dX6_clear_5
  have e2_39_2 : (setO h 39 (fup (h 39) 2 0)) 39 2 = 0 := rd_ (sOf_eq _ _ _) (fup_eq _ _ _)
  exact ⟨⟨hT_1, hF_1⟩, rfl, (by rewrite [e2_39_2]; omega)⟩
set_option maxRecDepth 20000 in
theorem s_comeIn_e (h : Hp_) (hT : TY h)  : Ctr yX6_comeIn cX6_comeIn 3 none (rmd 0) ly ly 0 0 [vR 39] h (fun r h' => (TY h' ∧ FR [39] h h') ∧ r = none ∧ (7 ≤ (h' 39 6)) ∧ (0 ≤ (h 39 7) ∧ (h 39 7) ≤ 288230376151711744 → ((h' 39 7), (h' 39 6), (h' 39 4)) = inS (h 43) (h 39 3) (h 39 7) (h 39 4)) ∧ ((h' 39 2) = (h 39 2) ∧ (h' 39 3) = (h 39 3) ∧ (h' 39 5) = (h 39 5))) := by
  refine Ctr_of (by decide) (Nat.le_of_ble_eq_true rfl) ⟨Nat.le_refl _, Nat.le_refl _⟩ (fun K hK hQ _ => ?_)
  show TT K ly 0 0 0 [(0, vR 39)] [] h
  have hF : FR [39] h h := FR_rf _ _
  have J27_1 : ∀ (a : Int), (0 ≤ a ∧ a ≤ 255) → (a = 255 ∨ (h 39 4) < 1024) → (a = byS (h 43) (h 39 3) (h 39 4)) → TT K ly 0 0 27 [(0, vR 39), (1, vI a)] [] h := by
    intro a ha ha2 ha9
    have J58_2 : ∀ (b : Int), (0 ≤ b ∧ b ≤ 255) → ((a ≠ 255 ∨ b ≤ 143) → (h 39 4) < 1024) → (b = byS (h 43) (h 39 3) (h 39 4 + 1)) → TT K ly 0 0 58 [(0, vR 39), (1, vI a), (2, vI b)] [] h := by
      intro b hb hb2 hb9
      refine TT_iload_n hK rfl 1 rfl dX6_comeIn_58 ?_
      refine TT_sipush hK (by decide) dX6_comeIn_59 ?_
      refine TT_icmp_ne hK (tgt := 91) (irm (by omega) (by omega)) (by decide) dX6_comeIn_62 (by decide) (fun hb62_3 => ?_) (fun hb62_3 => ?_)
      · refine TT_aload_n hK rfl 0 rfl dX6_comeIn_91 ?_
        refine TT_dup hK rfl dX6_comeIn_92 ?_
        refine gf_X6_44 hK (by decide) rfl (v := (h 39) 4) rfl dX6_comeIn_93 ?_
        have r4 := ty_39_4 (v := (h 39) 4) hT rfl
        refine TT_iconst hK dX6_comeIn_96 ?_
        refine TT_iadd hK dX6_comeIn_97 ?_
        refine pf_X6_44 hK (by decide) rfl dX6_comeIn_98 ?_
        refine TT_hp (h' := setO h 39 (fup (h 39) 4 (((h 39) 4) + 1))) (up_can rfl rfl rfl) ?_
        have hT_5 : TY (setO h 39 (fup (h 39) 4 (((h 39) 4) + 1))) := tu_39_4 hT (show up h 39 4 (((h 39) 4) + 1) = (setO h 39 (fup (h 39) 4 (((h 39) 4) + 1))) from up_can rfl rfl rfl) (by omega)
        have hF_5 : FR [39] h (setO h 39 (fup (h 39) 4 (((h 39) 4) + 1))) := FR_up (show up h 39 4 (((h 39) 4) + 1) = (setO h 39 (fup (h 39) 4 (((h 39) 4) + 1))) from up_can rfl rfl rfl) hF (by decide)
        refine TT_aload_n hK rfl 0 rfl dX6_comeIn_101 ?_
        refine TT_dup hK rfl dX6_comeIn_102 ?_
        refine gf_X6_49 hK (by decide) rfl (v := (h 39) 7) (rd_ (sOf_eq _ _ _) (fup_ne _ _ (by decide))) dX6_comeIn_103 ?_
        have r6 := ty_39_7 (v := (h 39) 7) hT_5 (rd_ (sOf_eq _ _ _) (fup_ne _ _ (by decide)))
        refine TT_iload_n hK rfl 2 rfl dX6_comeIn_106 ?_
        refine TT_iload_n hK rfl 1 rfl dX6_comeIn_107 ?_
        refine TT_sipush hK (by decide) dX6_comeIn_108 ?_
        refine TT_icmp_ne hK (tgt := 120) (irm (by omega) (by omega)) (by decide) dX6_comeIn_111 (by decide) (fun hb111_7 => ?_) (fun hb111_7 => ?_)
        · refine TT_sipush hK (by decide) dX6_comeIn_120 ?_
          refine TT_imul hK dX6_comeIn_123 ?_
          refine TT_i2l hK (irm (by omega) (by omega)) dX6_comeIn_124 ?_
          refine TT_ladd hK dX6_comeIn_125 ?_
          refine TT_w64g (fun x126_8 hx8 hy126_8 => ?_)
          refine pf_X6_49 hK (by decide) rfl dX6_comeIn_126 ?_
          refine TT_hp (h' := setO h 39 (fup (fup (h 39) 4 (((h 39) 4) + 1)) 7 x126_8)) (up_can (sOf_eq _ _ _) rfl (setO_same _ _ _ _)) ?_
          have hT_9 : TY (setO h 39 (fup (fup (h 39) 4 (((h 39) 4) + 1)) 7 x126_8)) := tu_39_7 hT_5 (show up (setO h 39 (fup (h 39) 4 (((h 39) 4) + 1))) 39 7 x126_8 = (setO h 39 (fup (fup (h 39) 4 (((h 39) 4) + 1)) 7 x126_8)) from up_can (sOf_eq _ _ _) rfl (setO_same _ _ _ _)) (by omega)
          have hF_9 : FR [39] h (setO h 39 (fup (fup (h 39) 4 (((h 39) 4) + 1)) 7 x126_8)) := FR_up (show up (setO h 39 (fup (h 39) 4 (((h 39) 4) + 1))) 39 7 x126_8 = (setO h 39 (fup (fup (h 39) 4 (((h 39) 4) + 1)) 7 x126_8)) from up_can (sOf_eq _ _ _) rfl (setO_same _ _ _ _)) hF_5 (by decide)
          refine TT_aload_n hK rfl 0 rfl dX6_comeIn_129 ?_
          refine TT_iload_n hK rfl 1 rfl dX6_comeIn_130 ?_
          refine TT_sipush hK (by decide) dX6_comeIn_131 ?_
          refine TT_icmp_ne hK (tgt := 142) (irm (by omega) (by omega)) (by decide) dX6_comeIn_134 (by decide) (fun hb134_10 => ?_) (fun hb134_10 => ?_)
          · refine TT_bipush hK (by decide) dX6_comeIn_142 ?_
            refine pf_X6_56 hK (by decide) rfl dX6_comeIn_144 ?_
            refine TT_hp (h' := setO h 39 (fup (fup (fup (h 39) 4 (((h 39) 4) + 1)) 6 8) 7 x126_8)) (up_can (sOf_eq _ _ _) (fup_comm _ _ _ (by decide)) (setO_same _ _ _ _)) ?_
            have hT_11 : TY (setO h 39 (fup (fup (fup (h 39) 4 (((h 39) 4) + 1)) 6 8) 7 x126_8)) := tu_39_6 hT_9 (show up (setO h 39 (fup (fup (h 39) 4 (((h 39) 4) + 1)) 7 x126_8)) 39 6 8 = (setO h 39 (fup (fup (fup (h 39) 4 (((h 39) 4) + 1)) 6 8) 7 x126_8)) from up_can (sOf_eq _ _ _) (fup_comm _ _ _ (by decide)) (setO_same _ _ _ _)) (by omega)
            have hF_11 : FR [39] h (setO h 39 (fup (fup (fup (h 39) 4 (((h 39) 4) + 1)) 6 8) 7 x126_8)) := FR_up (show up (setO h 39 (fup (fup (h 39) 4 (((h 39) 4) + 1)) 7 x126_8)) 39 6 8 = (setO h 39 (fup (fup (fup (h 39) 4 (((h 39) 4) + 1)) 6 8) 7 x126_8)) from up_can (sOf_eq _ _ _) (fup_comm _ _ _ (by decide)) (setO_same _ _ _ _)) hF_9 (by decide)
            refine TT_vret hK hQ ?_ dX6_comeIn_147
            have e12_39_6 : (setO h 39 (fup (fup (fup (h 39) 4 (((h 39) 4) + 1)) 6 8) 7 x126_8)) 39 6 = 8 := rd_ (sOf_eq _ _ _) ((fup_ne _ _ (by decide)).trans (fup_eq _ _ _))
            have e13_39_4 : (setO h 39 (fup (fup (fup (h 39) 4 (((h 39) 4) + 1)) 6 8) 7 x126_8)) 39 4 = ((h 39) 4) + 1 := rd_ (sOf_eq _ _ _) ((fup_ne _ _ (by decide)).trans ((fup_ne _ _ (by decide)).trans (fup_eq _ _ _)))
            have e14_39_6 : (setO h 39 (fup (fup (fup (h 39) 4 (((h 39) 4) + 1)) 6 8) 7 x126_8)) 39 6 = 8 := rd_ (sOf_eq _ _ _) ((fup_ne _ _ (by decide)).trans (fup_eq _ _ _))
            have e15_39_7 : (setO h 39 (fup (fup (fup (h 39) 4 (((h 39) 4) + 1)) 6 8) 7 x126_8)) 39 7 = x126_8 := rd_ (sOf_eq _ _ _) (fup_eq _ _ _)
            have e16_39_2 : (setO h 39 (fup (fup (fup (h 39) 4 (((h 39) 4) + 1)) 6 8) 7 x126_8)) 39 2 = (h 39) 2 := rd_ (sOf_eq _ _ _) ((fup_ne _ _ (by decide)).trans ((fup_ne _ _ (by decide)).trans (fup_ne _ _ (by decide))))
            have e17_39_3 : (setO h 39 (fup (fup (fup (h 39) 4 (((h 39) 4) + 1)) 6 8) 7 x126_8)) 39 3 = (h 39) 3 := rd_ (sOf_eq _ _ _) ((fup_ne _ _ (by decide)).trans ((fup_ne _ _ (by decide)).trans (fup_ne _ _ (by decide))))
            have e18_39_5 : (setO h 39 (fup (fup (fup (h 39) 4 (((h 39) 4) + 1)) 6 8) 7 x126_8)) 39 5 = (h 39) 5 := rd_ (sOf_eq _ _ _) ((fup_ne _ _ (by decide)).trans ((fup_ne _ _ (by decide)).trans (fup_ne _ _ (by decide))))
            exact ⟨⟨hT_11, hF_11⟩, rfl, (by rewrite [e12_39_6]; omega), (by rewrite [e13_39_4, e14_39_6, e15_39_7]; intro hc; refine inS_e ?_; first | (refine Or.inl ⟨?_, ?_, ?_, ?_, ?_⟩ <;> omega) | (refine Or.inr (Or.inl ⟨?_, ?_, ?_, ?_, ?_⟩) <;> omega) | (refine Or.inr (Or.inr ⟨?_, ?_, ?_, ?_⟩) <;> omega)), (by rewrite [e16_39_2, e17_39_3, e18_39_5]; omega)⟩
          · exfalso; omega
        · exfalso; omega
      · refine TT_iload_n hK rfl 2 rfl dX6_comeIn_65 ?_
        refine TT_sipush hK (by decide) dX6_comeIn_66 ?_
        refine TT_icmp_le hK (tgt := 91) (irm (by omega) (by omega)) (by decide) dX6_comeIn_69 (by decide) (fun hb69_19 => ?_) (fun hb69_19 => ?_)
        · refine TT_aload_n hK rfl 0 rfl dX6_comeIn_91 ?_
          refine TT_dup hK rfl dX6_comeIn_92 ?_
          refine gf_X6_44 hK (by decide) rfl (v := (h 39) 4) rfl dX6_comeIn_93 ?_
          have r20 := ty_39_4 (v := (h 39) 4) hT rfl
          refine TT_iconst hK dX6_comeIn_96 ?_
          refine TT_iadd hK dX6_comeIn_97 ?_
          refine pf_X6_44 hK (by decide) rfl dX6_comeIn_98 ?_
          refine TT_hp (h' := setO h 39 (fup (h 39) 4 (((h 39) 4) + 1))) (up_can rfl rfl rfl) ?_
          have hT_21 : TY (setO h 39 (fup (h 39) 4 (((h 39) 4) + 1))) := tu_39_4 hT (show up h 39 4 (((h 39) 4) + 1) = (setO h 39 (fup (h 39) 4 (((h 39) 4) + 1))) from up_can rfl rfl rfl) (by omega)
          have hF_21 : FR [39] h (setO h 39 (fup (h 39) 4 (((h 39) 4) + 1))) := FR_up (show up h 39 4 (((h 39) 4) + 1) = (setO h 39 (fup (h 39) 4 (((h 39) 4) + 1))) from up_can rfl rfl rfl) hF (by decide)
          refine TT_aload_n hK rfl 0 rfl dX6_comeIn_101 ?_
          refine TT_dup hK rfl dX6_comeIn_102 ?_
          refine gf_X6_49 hK (by decide) rfl (v := (h 39) 7) (rd_ (sOf_eq _ _ _) (fup_ne _ _ (by decide))) dX6_comeIn_103 ?_
          have r22 := ty_39_7 (v := (h 39) 7) hT_21 (rd_ (sOf_eq _ _ _) (fup_ne _ _ (by decide)))
          refine TT_iload_n hK rfl 2 rfl dX6_comeIn_106 ?_
          refine TT_iload_n hK rfl 1 rfl dX6_comeIn_107 ?_
          refine TT_sipush hK (by decide) dX6_comeIn_108 ?_
          refine TT_icmp_ne hK (tgt := 120) (irm (by omega) (by omega)) (by decide) dX6_comeIn_111 (by decide) (fun hb111_23 => ?_) (fun hb111_23 => ?_)
          · exfalso; omega
          · refine TT_sipush hK (by decide) dX6_comeIn_114 ?_
            refine TT_goto hK (tgt := 123) dX6_comeIn_117 (by decide) ?_
            refine TT_imul hK dX6_comeIn_123 ?_
            refine TT_i2l hK (irm (by omega) (by omega)) dX6_comeIn_124 ?_
            refine TT_ladd hK dX6_comeIn_125 ?_
            refine TT_w64g (fun x126_24 hx24 hy126_24 => ?_)
            refine pf_X6_49 hK (by decide) rfl dX6_comeIn_126 ?_
            refine TT_hp (h' := setO h 39 (fup (fup (h 39) 4 (((h 39) 4) + 1)) 7 x126_24)) (up_can (sOf_eq _ _ _) rfl (setO_same _ _ _ _)) ?_
            have hT_25 : TY (setO h 39 (fup (fup (h 39) 4 (((h 39) 4) + 1)) 7 x126_24)) := tu_39_7 hT_21 (show up (setO h 39 (fup (h 39) 4 (((h 39) 4) + 1))) 39 7 x126_24 = (setO h 39 (fup (fup (h 39) 4 (((h 39) 4) + 1)) 7 x126_24)) from up_can (sOf_eq _ _ _) rfl (setO_same _ _ _ _)) (by omega)
            have hF_25 : FR [39] h (setO h 39 (fup (fup (h 39) 4 (((h 39) 4) + 1)) 7 x126_24)) := FR_up (show up (setO h 39 (fup (h 39) 4 (((h 39) 4) + 1))) 39 7 x126_24 = (setO h 39 (fup (fup (h 39) 4 (((h 39) 4) + 1)) 7 x126_24)) from up_can (sOf_eq _ _ _) rfl (setO_same _ _ _ _)) hF_21 (by decide)
            refine TT_aload_n hK rfl 0 rfl dX6_comeIn_129 ?_
            refine TT_iload_n hK rfl 1 rfl dX6_comeIn_130 ?_
            refine TT_sipush hK (by decide) dX6_comeIn_131 ?_
            refine TT_icmp_ne hK (tgt := 142) (irm (by omega) (by omega)) (by decide) dX6_comeIn_134 (by decide) (fun hb134_26 => ?_) (fun hb134_26 => ?_)
            · exfalso; omega
            · refine TT_bipush hK (by decide) dX6_comeIn_137 ?_
              refine TT_goto hK (tgt := 144) dX6_comeIn_139 (by decide) ?_
              refine pf_X6_56 hK (by decide) rfl dX6_comeIn_144 ?_
              refine TT_hp (h' := setO h 39 (fup (fup (fup (h 39) 4 (((h 39) 4) + 1)) 6 7) 7 x126_24)) (up_can (sOf_eq _ _ _) (fup_comm _ _ _ (by decide)) (setO_same _ _ _ _)) ?_
              have hT_27 : TY (setO h 39 (fup (fup (fup (h 39) 4 (((h 39) 4) + 1)) 6 7) 7 x126_24)) := tu_39_6 hT_25 (show up (setO h 39 (fup (fup (h 39) 4 (((h 39) 4) + 1)) 7 x126_24)) 39 6 7 = (setO h 39 (fup (fup (fup (h 39) 4 (((h 39) 4) + 1)) 6 7) 7 x126_24)) from up_can (sOf_eq _ _ _) (fup_comm _ _ _ (by decide)) (setO_same _ _ _ _)) (by omega)
              have hF_27 : FR [39] h (setO h 39 (fup (fup (fup (h 39) 4 (((h 39) 4) + 1)) 6 7) 7 x126_24)) := FR_up (show up (setO h 39 (fup (fup (h 39) 4 (((h 39) 4) + 1)) 7 x126_24)) 39 6 7 = (setO h 39 (fup (fup (fup (h 39) 4 (((h 39) 4) + 1)) 6 7) 7 x126_24)) from up_can (sOf_eq _ _ _) (fup_comm _ _ _ (by decide)) (setO_same _ _ _ _)) hF_25 (by decide)
              refine TT_vret hK hQ ?_ dX6_comeIn_147
              have e28_39_6 : (setO h 39 (fup (fup (fup (h 39) 4 (((h 39) 4) + 1)) 6 7) 7 x126_24)) 39 6 = 7 := rd_ (sOf_eq _ _ _) ((fup_ne _ _ (by decide)).trans (fup_eq _ _ _))
              have e29_39_4 : (setO h 39 (fup (fup (fup (h 39) 4 (((h 39) 4) + 1)) 6 7) 7 x126_24)) 39 4 = ((h 39) 4) + 1 := rd_ (sOf_eq _ _ _) ((fup_ne _ _ (by decide)).trans ((fup_ne _ _ (by decide)).trans (fup_eq _ _ _)))
              have e30_39_6 : (setO h 39 (fup (fup (fup (h 39) 4 (((h 39) 4) + 1)) 6 7) 7 x126_24)) 39 6 = 7 := rd_ (sOf_eq _ _ _) ((fup_ne _ _ (by decide)).trans (fup_eq _ _ _))
              have e31_39_7 : (setO h 39 (fup (fup (fup (h 39) 4 (((h 39) 4) + 1)) 6 7) 7 x126_24)) 39 7 = x126_24 := rd_ (sOf_eq _ _ _) (fup_eq _ _ _)
              have e32_39_2 : (setO h 39 (fup (fup (fup (h 39) 4 (((h 39) 4) + 1)) 6 7) 7 x126_24)) 39 2 = (h 39) 2 := rd_ (sOf_eq _ _ _) ((fup_ne _ _ (by decide)).trans ((fup_ne _ _ (by decide)).trans (fup_ne _ _ (by decide))))
              have e33_39_3 : (setO h 39 (fup (fup (fup (h 39) 4 (((h 39) 4) + 1)) 6 7) 7 x126_24)) 39 3 = (h 39) 3 := rd_ (sOf_eq _ _ _) ((fup_ne _ _ (by decide)).trans ((fup_ne _ _ (by decide)).trans (fup_ne _ _ (by decide))))
              have e34_39_5 : (setO h 39 (fup (fup (fup (h 39) 4 (((h 39) 4) + 1)) 6 7) 7 x126_24)) 39 5 = (h 39) 5 := rd_ (sOf_eq _ _ _) ((fup_ne _ _ (by decide)).trans ((fup_ne _ _ (by decide)).trans (fup_ne _ _ (by decide))))
              exact ⟨⟨hT_27, hF_27⟩, rfl, (by rewrite [e28_39_6]; omega), (by rewrite [e29_39_4, e30_39_6, e31_39_7]; intro hc; refine inS_e ?_; first | (refine Or.inl ⟨?_, ?_, ?_, ?_, ?_⟩ <;> omega) | (refine Or.inr (Or.inl ⟨?_, ?_, ?_, ?_, ?_⟩) <;> omega) | (refine Or.inr (Or.inr ⟨?_, ?_, ?_, ?_⟩) <;> omega)), (by rewrite [e32_39_2, e33_39_3, e34_39_5]; omega)⟩
        · refine TT_aload_n hK rfl 0 rfl dX6_comeIn_72 ?_
          refine TT_dup hK rfl dX6_comeIn_73 ?_
          refine gf_X6_49 hK (by decide) rfl (v := (h 39) 7) rfl dX6_comeIn_74 ?_
          have r35 := ty_39_7 (v := (h 39) 7) hT rfl
          refine TT_ldc2 hK lc_X6_63 dX6_comeIn_77 ?_
          refine TT_ladd hK dX6_comeIn_80 ?_
          refine TT_w64g (fun x81_36 hx36 hy81_36 => ?_)
          refine pf_X6_49 hK (by decide) rfl dX6_comeIn_81 ?_
          refine TT_hp (h' := setO h 39 (fup (h 39) 7 x81_36)) (up_can rfl rfl rfl) ?_
          have hT_37 : TY (setO h 39 (fup (h 39) 7 x81_36)) := tu_39_7 hT (show up h 39 7 x81_36 = (setO h 39 (fup (h 39) 7 x81_36)) from up_can rfl rfl rfl) (by omega)
          have hF_37 : FR [39] h (setO h 39 (fup (h 39) 7 x81_36)) := FR_up (show up h 39 7 x81_36 = (setO h 39 (fup (h 39) 7 x81_36)) from up_can rfl rfl rfl) hF (by decide)
          refine TT_aload_n hK rfl 0 rfl dX6_comeIn_84 ?_
          refine TT_bipush hK (by decide) dX6_comeIn_85 ?_
          refine pf_X6_56 hK (by decide) rfl dX6_comeIn_87 ?_
          refine TT_hp (h' := setO h 39 (fup (fup (h 39) 6 8) 7 x81_36)) (up_can (sOf_eq _ _ _) (fup_comm _ _ _ (by decide)) (setO_same _ _ _ _)) ?_
          have hT_38 : TY (setO h 39 (fup (fup (h 39) 6 8) 7 x81_36)) := tu_39_6 hT_37 (show up (setO h 39 (fup (h 39) 7 x81_36)) 39 6 8 = (setO h 39 (fup (fup (h 39) 6 8) 7 x81_36)) from up_can (sOf_eq _ _ _) (fup_comm _ _ _ (by decide)) (setO_same _ _ _ _)) (by omega)
          have hF_38 : FR [39] h (setO h 39 (fup (fup (h 39) 6 8) 7 x81_36)) := FR_up (show up (setO h 39 (fup (h 39) 7 x81_36)) 39 6 8 = (setO h 39 (fup (fup (h 39) 6 8) 7 x81_36)) from up_can (sOf_eq _ _ _) (fup_comm _ _ _ (by decide)) (setO_same _ _ _ _)) hF_37 (by decide)
          refine TT_vret hK hQ ?_ dX6_comeIn_90
          have e39_39_6 : (setO h 39 (fup (fup (h 39) 6 8) 7 x81_36)) 39 6 = 8 := rd_ (sOf_eq _ _ _) ((fup_ne _ _ (by decide)).trans (fup_eq _ _ _))
          have e40_39_4 : (setO h 39 (fup (fup (h 39) 6 8) 7 x81_36)) 39 4 = (h 39) 4 := rd_ (sOf_eq _ _ _) ((fup_ne _ _ (by decide)).trans (fup_ne _ _ (by decide)))
          have e41_39_6 : (setO h 39 (fup (fup (h 39) 6 8) 7 x81_36)) 39 6 = 8 := rd_ (sOf_eq _ _ _) ((fup_ne _ _ (by decide)).trans (fup_eq _ _ _))
          have e42_39_7 : (setO h 39 (fup (fup (h 39) 6 8) 7 x81_36)) 39 7 = x81_36 := rd_ (sOf_eq _ _ _) (fup_eq _ _ _)
          have e43_39_2 : (setO h 39 (fup (fup (h 39) 6 8) 7 x81_36)) 39 2 = (h 39) 2 := rd_ (sOf_eq _ _ _) ((fup_ne _ _ (by decide)).trans (fup_ne _ _ (by decide)))
          have e44_39_3 : (setO h 39 (fup (fup (h 39) 6 8) 7 x81_36)) 39 3 = (h 39) 3 := rd_ (sOf_eq _ _ _) ((fup_ne _ _ (by decide)).trans (fup_ne _ _ (by decide)))
          have e45_39_5 : (setO h 39 (fup (fup (h 39) 6 8) 7 x81_36)) 39 5 = (h 39) 5 := rd_ (sOf_eq _ _ _) ((fup_ne _ _ (by decide)).trans (fup_ne _ _ (by decide)))
          exact ⟨⟨hT_38, hF_38⟩, rfl, (by rewrite [e39_39_6]; omega), (by rewrite [e40_39_4, e41_39_6, e42_39_7]; intro hc; refine inS_e ?_; first | (refine Or.inl ⟨?_, ?_, ?_, ?_, ?_⟩ <;> omega) | (refine Or.inr (Or.inl ⟨?_, ?_, ?_, ?_, ?_⟩) <;> omega) | (refine Or.inr (Or.inr ⟨?_, ?_, ?_, ?_⟩) <;> omega)), (by rewrite [e43_39_2, e44_39_3, e45_39_5]; omega)⟩
    refine TT_aload_n hK rfl 0 rfl dX6_comeIn_27 ?_
    refine gf_X6_44 hK (by decide) rfl (v := (h 39) 4) rfl dX6_comeIn_28 ?_
    have r46 := ty_39_4 (v := (h 39) 4) hT rfl
    refine TT_iconst hK dX6_comeIn_31 ?_
    refine TT_iadd hK dX6_comeIn_32 ?_
    refine TT_aload_n hK rfl 0 rfl dX6_comeIn_33 ?_
    refine gf_X6_41 hK (by decide) rfl (v := (h 39) 3) rfl dX6_comeIn_34 ?_
    have r47 := ty_39_3 (v := (h 39) 3) hT rfl
    refine TT_icmp_ge hK (tgt := 54) (irm (by omega) (by omega)) (irm (by omega) (by omega)) dX6_comeIn_37 (by decide) (fun hb37_48 => ?_) (fun hb37_48 => ?_)
    · refine TT_sipush hK (by decide) dX6_comeIn_54 ?_
      refine TT_istore_n hK rfl (lv' := [(2, vI 255), (0, vR 39), (1, vI a)]) (by decide) rfl dX6_comeIn_57 ?_
      refine TT_sub [1, 2, 0] rfl ?_
      have e49_39_4 : h 39 4 = (h 39) 4 := rfl
      exact J58_2 255 (by first | omega | (simp [up, setR] <;> omega)) (by rewrite [e49_39_4]; first | omega | (simp [up, setR] <;> omega)) (by unfold byS; first | rw [if_pos (by omega)] | rw [if_neg (by omega)])
    · refine TT_aload_n hK rfl 0 rfl dX6_comeIn_40 ?_
      refine gf_X6_18 hK (by decide) rfl (q := 43) rfl rfl dX6_comeIn_41 ?_
      refine TT_aload_n hK rfl 0 rfl dX6_comeIn_44 ?_
      refine gf_X6_44 hK (by decide) rfl (v := (h 39) 4) rfl dX6_comeIn_45 ?_
      refine TT_iconst hK dX6_comeIn_48 ?_
      refine TT_iadd hK dX6_comeIn_49 ?_
      refine TT_iald hK (o := 43) (n := 1024) (by decide) rfl (by first | omega | (simp [up, setR] <;> omega)) (by first | omega | (simp [up, setR] <;> omega)) (v := (h 43) (((h 39) 4) + 1)) rfl dX6_comeIn_50 ?_
      have r50 := ty_43 (i := ((h 39) 4) + 1) (v := (h 43) (((h 39) 4) + 1)) hT rfl (by omega) (by omega)
      refine TT_goto hK (tgt := 57) dX6_comeIn_51 (by decide) ?_
      refine TT_istore_n hK rfl (lv' := [(2, vI ((h 43) (((h 39) 4) + 1))), (0, vR 39), (1, vI a)]) (by decide) rfl dX6_comeIn_57 ?_
      refine TT_sub [1, 2, 0] rfl ?_
      have e51_39_4 : h 39 4 = (h 39) 4 := rfl
      exact J58_2 ((h 43) (((h 39) 4) + 1)) (by first | omega | (simp [up, setR] <;> omega)) (by rewrite [e51_39_4]; first | omega | (simp [up, setR] <;> omega)) (by unfold byS; first | rw [if_pos (by omega)] | rw [if_neg (by omega)])
  refine TT_aload_n hK rfl 0 rfl dX6_comeIn_0 ?_
  refine gf_X6_44 hK (by decide) rfl (v := (h 39) 4) rfl dX6_comeIn_1 ?_
  have r52 := ty_39_4 (v := (h 39) 4) hT rfl
  refine TT_aload_n hK rfl 0 rfl dX6_comeIn_4 ?_
  refine gf_X6_41 hK (by decide) rfl (v := (h 39) 3) rfl dX6_comeIn_5 ?_
  have r53 := ty_39_3 (v := (h 39) 3) hT rfl
  refine TT_icmp_ge hK (tgt := 23) (irm (by omega) (by omega)) (irm (by omega) (by omega)) dX6_comeIn_8 (by decide) (fun hb8_54 => ?_) (fun hb8_54 => ?_)
  · refine TT_sipush hK (by decide) dX6_comeIn_23 ?_
    refine TT_istore_n hK rfl (lv' := [(1, vI 255), (0, vR 39)]) (by decide) rfl dX6_comeIn_26 ?_
    refine TT_sub [1, 0] rfl ?_
    have e55_39_4 : h 39 4 = (h 39) 4 := rfl
    exact J27_1 255 (by first | omega | (simp [up, setR] <;> omega)) (by rewrite [e55_39_4]; first | omega | (simp [up, setR] <;> omega)) (by unfold byS; first | rw [if_pos (by omega)] | rw [if_neg (by omega)])
  · refine TT_aload_n hK rfl 0 rfl dX6_comeIn_11 ?_
    refine gf_X6_18 hK (by decide) rfl (q := 43) rfl rfl dX6_comeIn_12 ?_
    refine TT_aload_n hK rfl 0 rfl dX6_comeIn_15 ?_
    refine gf_X6_44 hK (by decide) rfl (v := (h 39) 4) rfl dX6_comeIn_16 ?_
    refine TT_iald hK (o := 43) (n := 1024) (by decide) rfl (by first | omega | (simp [up, setR] <;> omega)) (by first | omega | (simp [up, setR] <;> omega)) (v := (h 43) ((h 39) 4)) rfl dX6_comeIn_19 ?_
    have r56 := ty_43 (i := (h 39) 4) (v := (h 43) ((h 39) 4)) hT rfl (by omega) (by omega)
    refine TT_goto hK (tgt := 26) dX6_comeIn_20 (by decide) ?_
    refine TT_istore_n hK rfl (lv' := [(1, vI ((h 43) ((h 39) 4))), (0, vR 39)]) (by decide) rfl dX6_comeIn_26 ?_
    refine TT_sub [1, 0] rfl ?_
    have e57_39_4 : h 39 4 = (h 39) 4 := rfl
    exact J27_1 ((h 43) ((h 39) 4)) (by first | omega | (simp [up, setR] <;> omega)) (by rewrite [e57_39_4]; first | omega | (simp [up, setR] <;> omega)) (by unfold byS; first | rw [if_pos (by omega)] | rw [if_neg (by omega)])
set_option maxRecDepth 20000 in
theorem s_rbegin_e (n : Int) (h : Hp_) (hT : TY h) (hn : 0 ≤ n ∧ n ≤ 2147483647) : Ctr yX6_begin cX6_begin 2 none (rmd 2) ly ly 0 0 [vR 39, vI n] h (fun r h' => (TY h' ∧ FR [39, 41, 42] h h') ∧ r = none ∧ ((h' 39 2) = (h 39 2)) ∧ ((h' 39 5) = 32768) ∧ ((h' 39 3) = (min n (h 39 2))) ∧ (((h' 39 7), (h' 39 6), (h' 39 4)) = ((inS (h 43) (min n (h 39 2)) (65536 * byS (h 43) (min n (h 39 2)) 0) 0).1 * 128, (inS (h 43) (min n (h 39 2)) (65536 * byS (h 43) (min n (h 39 2)) 0) 0).2.1 - 7, (inS (h 43) (min n (h 39 2)) (65536 * byS (h 43) (min n (h 39 2)) 0) 0).2.2)) ∧ ((0 ≤ (h' 39 7) ∧ (h' 39 7) ≤ 1099511627776) ∧ RQ_ (h' 39 3) (h' 39 5) (h' 39 6) (h' 39 4)) ∧ (∀ j : Int, 0 ≤ j → j < 19 → (h' 41) j = st0 j) ∧ (∀ j : Int, 0 ≤ j → j < 19 → (h' 42) j = 0)) := by
  refine Ctr_of (by decide) (Nat.le_of_ble_eq_true rfl) ⟨Nat.le_refl _, Nat.le_refl _⟩ (fun K hK hQ _ => ?_)
  show TT K ly 0 0 0 [(0, vR 39), (1, vI n)] [] h
  have hF : FR [39, 41, 42] h h := FR_rf _ _
  refine TT_aload_n hK rfl 0 rfl dX6_begin_0 ?_
  refine gf_X6_12 hK (by decide) rfl (q := 40) rfl rfl dX6_begin_1 ?_
  refine iv_X6_32 hK (s_obegin40_e h hT ) (by decide) rfl ⟨by decide, by decide⟩ (by decide) rfl rfl (Nat.le_of_ble_eq_true rfl) ⟨by decide, by decide⟩ dX6_begin_4 ?_
  intro r9 g4_1 hp9
  obtain ⟨⟨hT_1, hG_1⟩, hr9, st_1, lk_1⟩ := hp9
  rw [hr9]
  have hF_1 : FR [39, 41, 42] h g4_1 := FR_tr hF hG_1 (by decide)
  have st_at4 := st_1
  have lk_at4 := lk_1
  show TT K ly 0 0 7 [(0, vR 39), (1, vI n)] [] g4_1
  refine TT_aload_n hK rfl 0 rfl dX6_begin_7 ?_
  refine TT_iload_n hK rfl 1 rfl dX6_begin_8 ?_
  refine TT_aload_n hK rfl 0 rfl dX6_begin_9 ?_
  refine gf_X6_22 hK (by decide) rfl (v := (h 39) 2) (rd_ (hG_1 39 (by decide)) rfl) dX6_begin_10 ?_
  have r2 := ty_39_2 (v := (h 39) 2) hT_1 (rd_ (hG_1 39 (by decide)) rfl)
  refine TT_mmin hK (irm (by omega) (by omega)) (irm (by omega) (by omega)) iw_X6_35 (by decide) (Nat.le_of_ble_eq_true rfl) ⟨by decide, by decide⟩ dX6_begin_13 ?_
  refine pf_X6_41 hK (by decide) rfl dX6_begin_16 ?_
  refine TT_hp (h' := setO g4_1 39 (fup (h 39) 3 (min n ((h 39) 2)))) (up_can (hG_1 39 (by decide)) rfl rfl) ?_
  have hT_3 : TY (setO g4_1 39 (fup (h 39) 3 (min n ((h 39) 2)))) := tu_39_3 hT_1 (show up g4_1 39 3 (min n ((h 39) 2)) = (setO g4_1 39 (fup (h 39) 3 (min n ((h 39) 2)))) from up_can (hG_1 39 (by decide)) rfl rfl) (by omega)
  have hF_3 : FR [39, 41, 42] h (setO g4_1 39 (fup (h 39) 3 (min n ((h 39) 2)))) := FR_up (show up g4_1 39 3 (min n ((h 39) 2)) = (setO g4_1 39 (fup (h 39) 3 (min n ((h 39) 2)))) from up_can (hG_1 39 (by decide)) rfl rfl) hF_1 (by decide)
  refine TT_aload_n hK rfl 0 rfl dX6_begin_19 ?_
  refine TT_iconst hK dX6_begin_20 ?_
  refine pf_X6_44 hK (by decide) rfl dX6_begin_21 ?_
  refine TT_hp (h' := setO g4_1 39 (fup (fup (h 39) 3 (min n ((h 39) 2))) 4 0)) (up_can (sOf_eq _ _ _) rfl (setO_same _ _ _ _)) ?_
  have hT_4 : TY (setO g4_1 39 (fup (fup (h 39) 3 (min n ((h 39) 2))) 4 0)) := tu_39_4 hT_3 (show up (setO g4_1 39 (fup (h 39) 3 (min n ((h 39) 2)))) 39 4 0 = (setO g4_1 39 (fup (fup (h 39) 3 (min n ((h 39) 2))) 4 0)) from up_can (sOf_eq _ _ _) rfl (setO_same _ _ _ _)) (by omega)
  have hF_4 : FR [39, 41, 42] h (setO g4_1 39 (fup (fup (h 39) 3 (min n ((h 39) 2))) 4 0)) := FR_up (show up (setO g4_1 39 (fup (h 39) 3 (min n ((h 39) 2)))) 39 4 0 = (setO g4_1 39 (fup (fup (h 39) 3 (min n ((h 39) 2))) 4 0)) from up_can (sOf_eq _ _ _) rfl (setO_same _ _ _ _)) hF_3 (by decide)
  refine TT_aload_n hK rfl 0 rfl dX6_begin_24 ?_
  refine TT_aload_n hK rfl 0 rfl dX6_begin_25 ?_
  refine gf_X6_41 hK (by decide) rfl (v := min n ((h 39) 2)) (rd_ (sOf_eq _ _ _) ((fup_ne _ _ (by decide)).trans (fup_eq _ _ _))) dX6_begin_26 ?_
  have r5 := ty_39_3 (v := min n ((h 39) 2)) hT_4 (rd_ (sOf_eq _ _ _) ((fup_ne _ _ (by decide)).trans (fup_eq _ _ _)))
  refine TT_if_le hK (tgt := 41) (irm (by omega) (by omega)) dX6_begin_29 (by decide) (fun hb29_6 => ?_) (fun hb29_6 => ?_)
  · refine TT_sipush hK (by decide) dX6_begin_41 ?_
    refine TT_i2l hK (by decide) dX6_begin_44 ?_
    refine TT_ldc2 hK lc_X6_47 dX6_begin_45 ?_
    refine TT_lmul hK dX6_begin_48 ?_
    refine pf_X6_49 hK (by decide) rfl dX6_begin_49 ?_
    refine TT_hp (h' := setO g4_1 39 (fup (fup (fup (h 39) 3 (min n ((h 39) 2))) 4 0) 7 (255 * 65536))) (up_can (sOf_eq _ _ _) rfl (setO_same _ _ _ _)) ?_
    have hT_7 : TY (setO g4_1 39 (fup (fup (fup (h 39) 3 (min n ((h 39) 2))) 4 0) 7 (255 * 65536))) := tu_39_7 hT_4 (show up (setO g4_1 39 (fup (fup (h 39) 3 (min n ((h 39) 2))) 4 0)) 39 7 (255 * 65536) = (setO g4_1 39 (fup (fup (fup (h 39) 3 (min n ((h 39) 2))) 4 0) 7 (255 * 65536))) from up_can (sOf_eq _ _ _) rfl (setO_same _ _ _ _)) (by omega)
    have hF_7 : FR [39, 41, 42] h (setO g4_1 39 (fup (fup (fup (h 39) 3 (min n ((h 39) 2))) 4 0) 7 (255 * 65536))) := FR_up (show up (setO g4_1 39 (fup (fup (h 39) 3 (min n ((h 39) 2))) 4 0)) 39 7 (255 * 65536) = (setO g4_1 39 (fup (fup (fup (h 39) 3 (min n ((h 39) 2))) 4 0) 7 (255 * 65536))) from up_can (sOf_eq _ _ _) rfl (setO_same _ _ _ _)) hF_4 (by decide)
    refine TT_aload_n hK rfl 0 rfl dX6_begin_52 ?_
    have eC : (255 * 65536) = 65536 * byS (h 43) (min n (h 39 2)) 0 := by unfold byS; first | (rw [if_pos (by omega)]; omega) | (rw [if_neg (by omega)]; omega) | rw [if_neg (by omega)]
    have b0 := byS_r (src := h 43) (n := min n (h 39 2)) (k := 0) (fun j j0 j1 => ty_43 (i := j) (v := h 43 j) hT rfl j0 (by omega)) (Int.le_refl 0)
    have i0 := inS_r (src := h 43) (n := min n (h 39 2)) (c := 65536 * byS (h 43) (min n (h 39 2)) 0) (p := 0) (fun j j0 j1 => ty_43 (i := j) (v := h 43 j) hT rfl j0 (by omega)) (Int.le_refl 0) (by omega)
    refine iv_X6_53 hK (s_comeIn_e (setO g4_1 39 (fup (fup (fup (h 39) 3 (min n ((h 39) 2))) 4 0) 7 (255 * 65536))) hT_7 ) (by decide) rfl ⟨by decide, by decide⟩ (by decide) rfl rfl (Nat.le_of_ble_eq_true rfl) ⟨by decide, by decide⟩ dX6_begin_53 ?_
    intro r9 g53_8 hp9
    obtain ⟨⟨hT_8, hG_8⟩, hr9, p1_8, in_8, ck_8⟩ := hp9
    rw [hr9]
    have hF_8 : FR [39, 41, 42] h g53_8 := FR_tr hF_7 hG_8 (by decide)
    rw [show (setO g4_1 39 (fup (fup (fup (h 39) 3 (min n ((h 39) 2))) 4 0) 7 (255 * 65536))) 39 3 = min n ((h 39) 2) from rd_ (sOf_eq _ _ _) ((fup_ne _ _ (by decide)).trans ((fup_ne _ _ (by decide)).trans (fup_eq _ _ _)))] at in_8
    rw [show (setO g4_1 39 (fup (fup (fup (h 39) 3 (min n ((h 39) 2))) 4 0) 7 (255 * 65536))) 39 4 = 0 from rd_ (sOf_eq _ _ _) ((fup_ne _ _ (by decide)).trans (fup_eq _ _ _))] at in_8
    rw [show (setO g4_1 39 (fup (fup (fup (h 39) 3 (min n ((h 39) 2))) 4 0) 7 (255 * 65536))) 39 7 = 255 * 65536 from rd_ (sOf_eq _ _ _) (fup_eq _ _ _)] at in_8
    rw [show (setO g4_1 39 (fup (fup (fup (h 39) 3 (min n ((h 39) 2))) 4 0) 7 (255 * 65536))) 43 = h 43 from (sOf_ne _ _ (by decide)).trans (hG_1 43 (by decide))] at in_8
    rw [show (setO g4_1 39 (fup (fup (fup (h 39) 3 (min n ((h 39) 2))) 4 0) 7 (255 * 65536))) 39 2 = (h 39) 2 from rd_ (sOf_eq _ _ _) ((fup_ne _ _ (by decide)).trans ((fup_ne _ _ (by decide)).trans (fup_ne _ _ (by decide))))] at ck_8
    rw [show (setO g4_1 39 (fup (fup (fup (h 39) 3 (min n ((h 39) 2))) 4 0) 7 (255 * 65536))) 39 3 = min n ((h 39) 2) from rd_ (sOf_eq _ _ _) ((fup_ne _ _ (by decide)).trans ((fup_ne _ _ (by decide)).trans (fup_eq _ _ _)))] at ck_8
    rw [show (setO g4_1 39 (fup (fup (fup (h 39) 3 (min n ((h 39) 2))) 4 0) 7 (255 * 65536))) 39 5 = (h 39) 5 from rd_ (sOf_eq _ _ _) ((fup_ne _ _ (by decide)).trans ((fup_ne _ _ (by decide)).trans (fup_ne _ _ (by decide))))] at ck_8
    have in_at53 := in_8
    have ck_at53 := ck_8
    show TT K ly 0 0 56 [(0, vR 39), (1, vI n)] [] g53_8
    have in9 := in_at53 (by omega)
    rw [eC] at in9
    rw [← in9] at i0
    dsimp only at i0
    refine TT_aload_n hK rfl 0 rfl dX6_begin_56 ?_
    refine TT_dup hK rfl dX6_begin_57 ?_
    refine gf_X6_49 hK (by decide) rfl (v := (g53_8 39) 7) rfl dX6_begin_58 ?_
    have r9 := ty_39_7 (v := (g53_8 39) 7) hT_8 rfl
    refine TT_bipush hK (by decide) dX6_begin_61 ?_
    refine TT_lshl hK (by decide) dX6_begin_63 ?_
    refine TT_cgJ (b := ((g53_8 39) 7) * 128) rfl ?_
    refine pf_X6_49 hK (by decide) rfl dX6_begin_64 ?_
    refine TT_hp (h' := setO g53_8 39 (fup (g53_8 39) 7 (((g53_8 39) 7) * 128))) (up_can rfl rfl rfl) ?_
    have hT_10 : TY (setO g53_8 39 (fup (g53_8 39) 7 (((g53_8 39) 7) * 128))) := tu_39_7 hT_8 (show up g53_8 39 7 (((g53_8 39) 7) * 128) = (setO g53_8 39 (fup (g53_8 39) 7 (((g53_8 39) 7) * 128))) from up_can rfl rfl rfl) (by omega)
    have hF_10 : FR [39, 41, 42] h (setO g53_8 39 (fup (g53_8 39) 7 (((g53_8 39) 7) * 128))) := FR_up (show up g53_8 39 7 (((g53_8 39) 7) * 128) = (setO g53_8 39 (fup (g53_8 39) 7 (((g53_8 39) 7) * 128))) from up_can rfl rfl rfl) hF_8 (by decide)
    refine TT_aload_n hK rfl 0 rfl dX6_begin_67 ?_
    refine TT_dup hK rfl dX6_begin_68 ?_
    refine gf_X6_56 hK (by decide) rfl (v := (g53_8 39) 6) (rd_ (sOf_eq _ _ _) (fup_ne _ _ (by decide))) dX6_begin_69 ?_
    have r11 := ty_39_6 (v := (g53_8 39) 6) hT_10 (rd_ (sOf_eq _ _ _) (fup_ne _ _ (by decide)))
    refine TT_bipush hK (by decide) dX6_begin_72 ?_
    refine TT_isub hK dX6_begin_74 ?_
    refine pf_X6_56 hK (by decide) rfl dX6_begin_75 ?_
    refine TT_hp (h' := setO g53_8 39 (fup (fup (g53_8 39) 6 (((g53_8 39) 6) - 7)) 7 (((g53_8 39) 7) * 128))) (up_can (sOf_eq _ _ _) (fup_comm _ _ _ (by decide)) (setO_same _ _ _ _)) ?_
    have hT_12 : TY (setO g53_8 39 (fup (fup (g53_8 39) 6 (((g53_8 39) 6) - 7)) 7 (((g53_8 39) 7) * 128))) := tu_39_6 hT_10 (show up (setO g53_8 39 (fup (g53_8 39) 7 (((g53_8 39) 7) * 128))) 39 6 (((g53_8 39) 6) - 7) = (setO g53_8 39 (fup (fup (g53_8 39) 6 (((g53_8 39) 6) - 7)) 7 (((g53_8 39) 7) * 128))) from up_can (sOf_eq _ _ _) (fup_comm _ _ _ (by decide)) (setO_same _ _ _ _)) (by omega)
    have hF_12 : FR [39, 41, 42] h (setO g53_8 39 (fup (fup (g53_8 39) 6 (((g53_8 39) 6) - 7)) 7 (((g53_8 39) 7) * 128))) := FR_up (show up (setO g53_8 39 (fup (g53_8 39) 7 (((g53_8 39) 7) * 128))) 39 6 (((g53_8 39) 6) - 7) = (setO g53_8 39 (fup (fup (g53_8 39) 6 (((g53_8 39) 6) - 7)) 7 (((g53_8 39) 7) * 128))) from up_can (sOf_eq _ _ _) (fup_comm _ _ _ (by decide)) (setO_same _ _ _ _)) hF_10 (by decide)
    refine TT_aload_n hK rfl 0 rfl dX6_begin_78 ?_
    refine TT_ldc hK lc_X6_59 dX6_begin_79 ?_
    refine pf_X6_60 hK (by decide) rfl dX6_begin_81 ?_
    refine TT_hp (h' := setO g53_8 39 (fup (fup (fup (g53_8 39) 5 32768) 6 (((g53_8 39) 6) - 7)) 7 (((g53_8 39) 7) * 128))) (up_can (sOf_eq _ _ _) ((fup_comm _ _ _ (by decide)).trans (fup_cg (fup_comm _ _ _ (by decide)))) (setO_same _ _ _ _)) ?_
    have hT_13 : TY (setO g53_8 39 (fup (fup (fup (g53_8 39) 5 32768) 6 (((g53_8 39) 6) - 7)) 7 (((g53_8 39) 7) * 128))) := tu_39_5 hT_12 (show up (setO g53_8 39 (fup (fup (g53_8 39) 6 (((g53_8 39) 6) - 7)) 7 (((g53_8 39) 7) * 128))) 39 5 32768 = (setO g53_8 39 (fup (fup (fup (g53_8 39) 5 32768) 6 (((g53_8 39) 6) - 7)) 7 (((g53_8 39) 7) * 128))) from up_can (sOf_eq _ _ _) ((fup_comm _ _ _ (by decide)).trans (fup_cg (fup_comm _ _ _ (by decide)))) (setO_same _ _ _ _)) (by omega)
    have hF_13 : FR [39, 41, 42] h (setO g53_8 39 (fup (fup (fup (g53_8 39) 5 32768) 6 (((g53_8 39) 6) - 7)) 7 (((g53_8 39) 7) * 128))) := FR_up (show up (setO g53_8 39 (fup (fup (g53_8 39) 6 (((g53_8 39) 6) - 7)) 7 (((g53_8 39) 7) * 128))) 39 5 32768 = (setO g53_8 39 (fup (fup (fup (g53_8 39) 5 32768) 6 (((g53_8 39) 6) - 7)) 7 (((g53_8 39) 7) * 128))) from up_can (sOf_eq _ _ _) ((fup_comm _ _ _ (by decide)).trans (fup_cg (fup_comm _ _ _ (by decide)))) (setO_same _ _ _ _)) hF_12 (by decide)
    refine TT_vret hK hQ ?_ dX6_begin_84
    have e14_39_2 : (setO g53_8 39 (fup (fup (fup (g53_8 39) 5 32768) 6 (((g53_8 39) 6) - 7)) 7 (((g53_8 39) 7) * 128))) 39 2 = (g53_8 39) 2 := rd_ (sOf_eq _ _ _) ((fup_ne _ _ (by decide)).trans ((fup_ne _ _ (by decide)).trans (fup_ne _ _ (by decide))))
    have e15_39_5 : (setO g53_8 39 (fup (fup (fup (g53_8 39) 5 32768) 6 (((g53_8 39) 6) - 7)) 7 (((g53_8 39) 7) * 128))) 39 5 = 32768 := rd_ (sOf_eq _ _ _) ((fup_ne _ _ (by decide)).trans ((fup_ne _ _ (by decide)).trans (fup_eq _ _ _)))
    have e16_39_3 : (setO g53_8 39 (fup (fup (fup (g53_8 39) 5 32768) 6 (((g53_8 39) 6) - 7)) 7 (((g53_8 39) 7) * 128))) 39 3 = (g53_8 39) 3 := rd_ (sOf_eq _ _ _) ((fup_ne _ _ (by decide)).trans ((fup_ne _ _ (by decide)).trans (fup_ne _ _ (by decide))))
    have e17_39_4 : (setO g53_8 39 (fup (fup (fup (g53_8 39) 5 32768) 6 (((g53_8 39) 6) - 7)) 7 (((g53_8 39) 7) * 128))) 39 4 = (g53_8 39) 4 := rd_ (sOf_eq _ _ _) ((fup_ne _ _ (by decide)).trans ((fup_ne _ _ (by decide)).trans (fup_ne _ _ (by decide))))
    have e18_39_6 : (setO g53_8 39 (fup (fup (fup (g53_8 39) 5 32768) 6 (((g53_8 39) 6) - 7)) 7 (((g53_8 39) 7) * 128))) 39 6 = ((g53_8 39) 6) - 7 := rd_ (sOf_eq _ _ _) ((fup_ne _ _ (by decide)).trans (fup_eq _ _ _))
    have e19_39_7 : (setO g53_8 39 (fup (fup (fup (g53_8 39) 5 32768) 6 (((g53_8 39) 6) - 7)) 7 (((g53_8 39) 7) * 128))) 39 7 = ((g53_8 39) 7) * 128 := rd_ (sOf_eq _ _ _) (fup_eq _ _ _)
    have e20_39_3 : (setO g53_8 39 (fup (fup (fup (g53_8 39) 5 32768) 6 (((g53_8 39) 6) - 7)) 7 (((g53_8 39) 7) * 128))) 39 3 = (g53_8 39) 3 := rd_ (sOf_eq _ _ _) ((fup_ne _ _ (by decide)).trans ((fup_ne _ _ (by decide)).trans (fup_ne _ _ (by decide))))
    have e21_39_4 : (setO g53_8 39 (fup (fup (fup (g53_8 39) 5 32768) 6 (((g53_8 39) 6) - 7)) 7 (((g53_8 39) 7) * 128))) 39 4 = (g53_8 39) 4 := rd_ (sOf_eq _ _ _) ((fup_ne _ _ (by decide)).trans ((fup_ne _ _ (by decide)).trans (fup_ne _ _ (by decide))))
    have e22_39_5 : (setO g53_8 39 (fup (fup (fup (g53_8 39) 5 32768) 6 (((g53_8 39) 6) - 7)) 7 (((g53_8 39) 7) * 128))) 39 5 = 32768 := rd_ (sOf_eq _ _ _) ((fup_ne _ _ (by decide)).trans ((fup_ne _ _ (by decide)).trans (fup_eq _ _ _)))
    have e23_39_6 : (setO g53_8 39 (fup (fup (fup (g53_8 39) 5 32768) 6 (((g53_8 39) 6) - 7)) 7 (((g53_8 39) 7) * 128))) 39 6 = ((g53_8 39) 6) - 7 := rd_ (sOf_eq _ _ _) ((fup_ne _ _ (by decide)).trans (fup_eq _ _ _))
    have e24_39_7 : (setO g53_8 39 (fup (fup (fup (g53_8 39) 5 32768) 6 (((g53_8 39) 6) - 7)) 7 (((g53_8 39) 7) * 128))) 39 7 = ((g53_8 39) 7) * 128 := rd_ (sOf_eq _ _ _) (fup_eq _ _ _)
    have e25_41 : (setO g53_8 39 (fup (fup (fup (g53_8 39) 5 32768) 6 (((g53_8 39) 6) - 7)) 7 (((g53_8 39) 7) * 128))) 41 = g4_1 41 := (sOf_ne _ _ (by decide)).trans (((hG_8 41 (by decide))).trans (sOf_ne _ _ (by decide)))
    have e26_42 : (setO g53_8 39 (fup (fup (fup (g53_8 39) 5 32768) 6 (((g53_8 39) 6) - 7)) 7 (((g53_8 39) 7) * 128))) 42 = g4_1 42 := (sOf_ne _ _ (by decide)).trans (((hG_8 42 (by decide))).trans (sOf_ne _ _ (by decide)))
    exact ⟨⟨hT_13, hF_13⟩, rfl, (by rewrite [e14_39_2]; omega), (by rewrite [e15_39_5]; omega), (by rewrite [e16_39_3]; omega), (by rewrite [e17_39_4, e18_39_6, e19_39_7]; rw [← in9]), (by rewrite [e20_39_3, e21_39_4, e22_39_5, e23_39_6, e24_39_7]; exact ⟨by omega, by omega, by omega, by omega, by omega, by omega, by omega⟩), (by rewrite [e25_41]; exact st_at4), (by rewrite [e26_42]; exact lk_at4)⟩
  · refine TT_aload_n hK rfl 0 rfl dX6_begin_32 ?_
    refine gf_X6_18 hK (by decide) rfl (q := 43) rfl rfl dX6_begin_33 ?_
    refine TT_iconst hK dX6_begin_36 ?_
    refine TT_iald hK (o := 43) (n := 1024) (by decide) rfl (by first | omega | (simp [up, setR] <;> omega)) (by first | omega | (simp [up, setR] <;> omega)) (v := (h 43) 0) (rd_ ((sOf_ne _ _ (by decide)).trans (hG_1 43 (by decide))) rfl) dX6_begin_37 ?_
    have r27 := ty_43 (i := 0) (v := (h 43) 0) hT_4 (rd_ ((sOf_ne _ _ (by decide)).trans (hG_1 43 (by decide))) rfl) (by omega) (by omega)
    refine TT_goto hK (tgt := 44) dX6_begin_38 (by decide) ?_
    refine TT_i2l hK (irm (by omega) (by omega)) dX6_begin_44 ?_
    refine TT_ldc2 hK lc_X6_47 dX6_begin_45 ?_
    refine TT_lmul hK dX6_begin_48 ?_
    refine pf_X6_49 hK (by decide) rfl dX6_begin_49 ?_
    refine TT_hp (h' := setO g4_1 39 (fup (fup (fup (h 39) 3 (min n ((h 39) 2))) 4 0) 7 (((h 43) 0) * 65536))) (up_can (sOf_eq _ _ _) rfl (setO_same _ _ _ _)) ?_
    have hT_28 : TY (setO g4_1 39 (fup (fup (fup (h 39) 3 (min n ((h 39) 2))) 4 0) 7 (((h 43) 0) * 65536))) := tu_39_7 hT_4 (show up (setO g4_1 39 (fup (fup (h 39) 3 (min n ((h 39) 2))) 4 0)) 39 7 (((h 43) 0) * 65536) = (setO g4_1 39 (fup (fup (fup (h 39) 3 (min n ((h 39) 2))) 4 0) 7 (((h 43) 0) * 65536))) from up_can (sOf_eq _ _ _) rfl (setO_same _ _ _ _)) (by omega)
    have hF_28 : FR [39, 41, 42] h (setO g4_1 39 (fup (fup (fup (h 39) 3 (min n ((h 39) 2))) 4 0) 7 (((h 43) 0) * 65536))) := FR_up (show up (setO g4_1 39 (fup (fup (h 39) 3 (min n ((h 39) 2))) 4 0)) 39 7 (((h 43) 0) * 65536) = (setO g4_1 39 (fup (fup (fup (h 39) 3 (min n ((h 39) 2))) 4 0) 7 (((h 43) 0) * 65536))) from up_can (sOf_eq _ _ _) rfl (setO_same _ _ _ _)) hF_4 (by decide)
    refine TT_aload_n hK rfl 0 rfl dX6_begin_52 ?_
    have eC : (((h 43) 0) * 65536) = 65536 * byS (h 43) (min n (h 39 2)) 0 := by unfold byS; first | (rw [if_pos (by omega)]; omega) | (rw [if_neg (by omega)]; omega) | rw [if_neg (by omega)]
    have b0 := byS_r (src := h 43) (n := min n (h 39 2)) (k := 0) (fun j j0 j1 => ty_43 (i := j) (v := h 43 j) hT rfl j0 (by omega)) (Int.le_refl 0)
    have i0 := inS_r (src := h 43) (n := min n (h 39 2)) (c := 65536 * byS (h 43) (min n (h 39 2)) 0) (p := 0) (fun j j0 j1 => ty_43 (i := j) (v := h 43 j) hT rfl j0 (by omega)) (Int.le_refl 0) (by omega)
    refine iv_X6_53 hK (s_comeIn_e (setO g4_1 39 (fup (fup (fup (h 39) 3 (min n ((h 39) 2))) 4 0) 7 (((h 43) 0) * 65536))) hT_28 ) (by decide) rfl ⟨by decide, by decide⟩ (by decide) rfl rfl (Nat.le_of_ble_eq_true rfl) ⟨by decide, by decide⟩ dX6_begin_53 ?_
    intro r9 g53_29 hp9
    obtain ⟨⟨hT_29, hG_29⟩, hr9, p1_29, in_29, ck_29⟩ := hp9
    rw [hr9]
    have hF_29 : FR [39, 41, 42] h g53_29 := FR_tr hF_28 hG_29 (by decide)
    rw [show (setO g4_1 39 (fup (fup (fup (h 39) 3 (min n ((h 39) 2))) 4 0) 7 (((h 43) 0) * 65536))) 39 3 = min n ((h 39) 2) from rd_ (sOf_eq _ _ _) ((fup_ne _ _ (by decide)).trans ((fup_ne _ _ (by decide)).trans (fup_eq _ _ _)))] at in_29
    rw [show (setO g4_1 39 (fup (fup (fup (h 39) 3 (min n ((h 39) 2))) 4 0) 7 (((h 43) 0) * 65536))) 39 4 = 0 from rd_ (sOf_eq _ _ _) ((fup_ne _ _ (by decide)).trans (fup_eq _ _ _))] at in_29
    rw [show (setO g4_1 39 (fup (fup (fup (h 39) 3 (min n ((h 39) 2))) 4 0) 7 (((h 43) 0) * 65536))) 39 7 = ((h 43) 0) * 65536 from rd_ (sOf_eq _ _ _) (fup_eq _ _ _)] at in_29
    rw [show (setO g4_1 39 (fup (fup (fup (h 39) 3 (min n ((h 39) 2))) 4 0) 7 (((h 43) 0) * 65536))) 43 = h 43 from (sOf_ne _ _ (by decide)).trans (hG_1 43 (by decide))] at in_29
    rw [show (setO g4_1 39 (fup (fup (fup (h 39) 3 (min n ((h 39) 2))) 4 0) 7 (((h 43) 0) * 65536))) 39 2 = (h 39) 2 from rd_ (sOf_eq _ _ _) ((fup_ne _ _ (by decide)).trans ((fup_ne _ _ (by decide)).trans (fup_ne _ _ (by decide))))] at ck_29
    rw [show (setO g4_1 39 (fup (fup (fup (h 39) 3 (min n ((h 39) 2))) 4 0) 7 (((h 43) 0) * 65536))) 39 3 = min n ((h 39) 2) from rd_ (sOf_eq _ _ _) ((fup_ne _ _ (by decide)).trans ((fup_ne _ _ (by decide)).trans (fup_eq _ _ _)))] at ck_29
    rw [show (setO g4_1 39 (fup (fup (fup (h 39) 3 (min n ((h 39) 2))) 4 0) 7 (((h 43) 0) * 65536))) 39 5 = (h 39) 5 from rd_ (sOf_eq _ _ _) ((fup_ne _ _ (by decide)).trans ((fup_ne _ _ (by decide)).trans (fup_ne _ _ (by decide))))] at ck_29
    have in_at53 := in_29
    have ck_at53 := ck_29
    show TT K ly 0 0 56 [(0, vR 39), (1, vI n)] [] g53_29
    have in9 := in_at53 (by omega)
    rw [eC] at in9
    rw [← in9] at i0
    dsimp only at i0
    refine TT_aload_n hK rfl 0 rfl dX6_begin_56 ?_
    refine TT_dup hK rfl dX6_begin_57 ?_
    refine gf_X6_49 hK (by decide) rfl (v := (g53_29 39) 7) rfl dX6_begin_58 ?_
    have r30 := ty_39_7 (v := (g53_29 39) 7) hT_29 rfl
    refine TT_bipush hK (by decide) dX6_begin_61 ?_
    refine TT_lshl hK (by decide) dX6_begin_63 ?_
    refine TT_cgJ (b := ((g53_29 39) 7) * 128) rfl ?_
    refine pf_X6_49 hK (by decide) rfl dX6_begin_64 ?_
    refine TT_hp (h' := setO g53_29 39 (fup (g53_29 39) 7 (((g53_29 39) 7) * 128))) (up_can rfl rfl rfl) ?_
    have hT_31 : TY (setO g53_29 39 (fup (g53_29 39) 7 (((g53_29 39) 7) * 128))) := tu_39_7 hT_29 (show up g53_29 39 7 (((g53_29 39) 7) * 128) = (setO g53_29 39 (fup (g53_29 39) 7 (((g53_29 39) 7) * 128))) from up_can rfl rfl rfl) (by omega)
    have hF_31 : FR [39, 41, 42] h (setO g53_29 39 (fup (g53_29 39) 7 (((g53_29 39) 7) * 128))) := FR_up (show up g53_29 39 7 (((g53_29 39) 7) * 128) = (setO g53_29 39 (fup (g53_29 39) 7 (((g53_29 39) 7) * 128))) from up_can rfl rfl rfl) hF_29 (by decide)
    refine TT_aload_n hK rfl 0 rfl dX6_begin_67 ?_
    refine TT_dup hK rfl dX6_begin_68 ?_
    refine gf_X6_56 hK (by decide) rfl (v := (g53_29 39) 6) (rd_ (sOf_eq _ _ _) (fup_ne _ _ (by decide))) dX6_begin_69 ?_
    have r32 := ty_39_6 (v := (g53_29 39) 6) hT_31 (rd_ (sOf_eq _ _ _) (fup_ne _ _ (by decide)))
    refine TT_bipush hK (by decide) dX6_begin_72 ?_
    refine TT_isub hK dX6_begin_74 ?_
    refine pf_X6_56 hK (by decide) rfl dX6_begin_75 ?_
    refine TT_hp (h' := setO g53_29 39 (fup (fup (g53_29 39) 6 (((g53_29 39) 6) - 7)) 7 (((g53_29 39) 7) * 128))) (up_can (sOf_eq _ _ _) (fup_comm _ _ _ (by decide)) (setO_same _ _ _ _)) ?_
    have hT_33 : TY (setO g53_29 39 (fup (fup (g53_29 39) 6 (((g53_29 39) 6) - 7)) 7 (((g53_29 39) 7) * 128))) := tu_39_6 hT_31 (show up (setO g53_29 39 (fup (g53_29 39) 7 (((g53_29 39) 7) * 128))) 39 6 (((g53_29 39) 6) - 7) = (setO g53_29 39 (fup (fup (g53_29 39) 6 (((g53_29 39) 6) - 7)) 7 (((g53_29 39) 7) * 128))) from up_can (sOf_eq _ _ _) (fup_comm _ _ _ (by decide)) (setO_same _ _ _ _)) (by omega)
    have hF_33 : FR [39, 41, 42] h (setO g53_29 39 (fup (fup (g53_29 39) 6 (((g53_29 39) 6) - 7)) 7 (((g53_29 39) 7) * 128))) := FR_up (show up (setO g53_29 39 (fup (g53_29 39) 7 (((g53_29 39) 7) * 128))) 39 6 (((g53_29 39) 6) - 7) = (setO g53_29 39 (fup (fup (g53_29 39) 6 (((g53_29 39) 6) - 7)) 7 (((g53_29 39) 7) * 128))) from up_can (sOf_eq _ _ _) (fup_comm _ _ _ (by decide)) (setO_same _ _ _ _)) hF_31 (by decide)
    refine TT_aload_n hK rfl 0 rfl dX6_begin_78 ?_
    refine TT_ldc hK lc_X6_59 dX6_begin_79 ?_
    refine pf_X6_60 hK (by decide) rfl dX6_begin_81 ?_
    refine TT_hp (h' := setO g53_29 39 (fup (fup (fup (g53_29 39) 5 32768) 6 (((g53_29 39) 6) - 7)) 7 (((g53_29 39) 7) * 128))) (up_can (sOf_eq _ _ _) ((fup_comm _ _ _ (by decide)).trans (fup_cg (fup_comm _ _ _ (by decide)))) (setO_same _ _ _ _)) ?_
    have hT_34 : TY (setO g53_29 39 (fup (fup (fup (g53_29 39) 5 32768) 6 (((g53_29 39) 6) - 7)) 7 (((g53_29 39) 7) * 128))) := tu_39_5 hT_33 (show up (setO g53_29 39 (fup (fup (g53_29 39) 6 (((g53_29 39) 6) - 7)) 7 (((g53_29 39) 7) * 128))) 39 5 32768 = (setO g53_29 39 (fup (fup (fup (g53_29 39) 5 32768) 6 (((g53_29 39) 6) - 7)) 7 (((g53_29 39) 7) * 128))) from up_can (sOf_eq _ _ _) ((fup_comm _ _ _ (by decide)).trans (fup_cg (fup_comm _ _ _ (by decide)))) (setO_same _ _ _ _)) (by omega)
    have hF_34 : FR [39, 41, 42] h (setO g53_29 39 (fup (fup (fup (g53_29 39) 5 32768) 6 (((g53_29 39) 6) - 7)) 7 (((g53_29 39) 7) * 128))) := FR_up (show up (setO g53_29 39 (fup (fup (g53_29 39) 6 (((g53_29 39) 6) - 7)) 7 (((g53_29 39) 7) * 128))) 39 5 32768 = (setO g53_29 39 (fup (fup (fup (g53_29 39) 5 32768) 6 (((g53_29 39) 6) - 7)) 7 (((g53_29 39) 7) * 128))) from up_can (sOf_eq _ _ _) ((fup_comm _ _ _ (by decide)).trans (fup_cg (fup_comm _ _ _ (by decide)))) (setO_same _ _ _ _)) hF_33 (by decide)
    refine TT_vret hK hQ ?_ dX6_begin_84
    have e35_39_2 : (setO g53_29 39 (fup (fup (fup (g53_29 39) 5 32768) 6 (((g53_29 39) 6) - 7)) 7 (((g53_29 39) 7) * 128))) 39 2 = (g53_29 39) 2 := rd_ (sOf_eq _ _ _) ((fup_ne _ _ (by decide)).trans ((fup_ne _ _ (by decide)).trans (fup_ne _ _ (by decide))))
    have e36_39_5 : (setO g53_29 39 (fup (fup (fup (g53_29 39) 5 32768) 6 (((g53_29 39) 6) - 7)) 7 (((g53_29 39) 7) * 128))) 39 5 = 32768 := rd_ (sOf_eq _ _ _) ((fup_ne _ _ (by decide)).trans ((fup_ne _ _ (by decide)).trans (fup_eq _ _ _)))
    have e37_39_3 : (setO g53_29 39 (fup (fup (fup (g53_29 39) 5 32768) 6 (((g53_29 39) 6) - 7)) 7 (((g53_29 39) 7) * 128))) 39 3 = (g53_29 39) 3 := rd_ (sOf_eq _ _ _) ((fup_ne _ _ (by decide)).trans ((fup_ne _ _ (by decide)).trans (fup_ne _ _ (by decide))))
    have e38_39_4 : (setO g53_29 39 (fup (fup (fup (g53_29 39) 5 32768) 6 (((g53_29 39) 6) - 7)) 7 (((g53_29 39) 7) * 128))) 39 4 = (g53_29 39) 4 := rd_ (sOf_eq _ _ _) ((fup_ne _ _ (by decide)).trans ((fup_ne _ _ (by decide)).trans (fup_ne _ _ (by decide))))
    have e39_39_6 : (setO g53_29 39 (fup (fup (fup (g53_29 39) 5 32768) 6 (((g53_29 39) 6) - 7)) 7 (((g53_29 39) 7) * 128))) 39 6 = ((g53_29 39) 6) - 7 := rd_ (sOf_eq _ _ _) ((fup_ne _ _ (by decide)).trans (fup_eq _ _ _))
    have e40_39_7 : (setO g53_29 39 (fup (fup (fup (g53_29 39) 5 32768) 6 (((g53_29 39) 6) - 7)) 7 (((g53_29 39) 7) * 128))) 39 7 = ((g53_29 39) 7) * 128 := rd_ (sOf_eq _ _ _) (fup_eq _ _ _)
    have e41_39_3 : (setO g53_29 39 (fup (fup (fup (g53_29 39) 5 32768) 6 (((g53_29 39) 6) - 7)) 7 (((g53_29 39) 7) * 128))) 39 3 = (g53_29 39) 3 := rd_ (sOf_eq _ _ _) ((fup_ne _ _ (by decide)).trans ((fup_ne _ _ (by decide)).trans (fup_ne _ _ (by decide))))
    have e42_39_4 : (setO g53_29 39 (fup (fup (fup (g53_29 39) 5 32768) 6 (((g53_29 39) 6) - 7)) 7 (((g53_29 39) 7) * 128))) 39 4 = (g53_29 39) 4 := rd_ (sOf_eq _ _ _) ((fup_ne _ _ (by decide)).trans ((fup_ne _ _ (by decide)).trans (fup_ne _ _ (by decide))))
    have e43_39_5 : (setO g53_29 39 (fup (fup (fup (g53_29 39) 5 32768) 6 (((g53_29 39) 6) - 7)) 7 (((g53_29 39) 7) * 128))) 39 5 = 32768 := rd_ (sOf_eq _ _ _) ((fup_ne _ _ (by decide)).trans ((fup_ne _ _ (by decide)).trans (fup_eq _ _ _)))
    have e44_39_6 : (setO g53_29 39 (fup (fup (fup (g53_29 39) 5 32768) 6 (((g53_29 39) 6) - 7)) 7 (((g53_29 39) 7) * 128))) 39 6 = ((g53_29 39) 6) - 7 := rd_ (sOf_eq _ _ _) ((fup_ne _ _ (by decide)).trans (fup_eq _ _ _))
    have e45_39_7 : (setO g53_29 39 (fup (fup (fup (g53_29 39) 5 32768) 6 (((g53_29 39) 6) - 7)) 7 (((g53_29 39) 7) * 128))) 39 7 = ((g53_29 39) 7) * 128 := rd_ (sOf_eq _ _ _) (fup_eq _ _ _)
    have e46_41 : (setO g53_29 39 (fup (fup (fup (g53_29 39) 5 32768) 6 (((g53_29 39) 6) - 7)) 7 (((g53_29 39) 7) * 128))) 41 = g4_1 41 := (sOf_ne _ _ (by decide)).trans (((hG_29 41 (by decide))).trans (sOf_ne _ _ (by decide)))
    have e47_42 : (setO g53_29 39 (fup (fup (fup (g53_29 39) 5 32768) 6 (((g53_29 39) 6) - 7)) 7 (((g53_29 39) 7) * 128))) 42 = g4_1 42 := (sOf_ne _ _ (by decide)).trans (((hG_29 42 (by decide))).trans (sOf_ne _ _ (by decide)))
    exact ⟨⟨hT_34, hF_34⟩, rfl, (by rewrite [e35_39_2]; omega), (by rewrite [e36_39_5]; omega), (by rewrite [e37_39_3]; omega), (by rewrite [e38_39_4, e39_39_6, e40_39_7]; rw [← in9]), (by rewrite [e41_39_3, e42_39_4, e43_39_5, e44_39_6, e45_39_7]; exact ⟨by omega, by omega, by omega, by omega, by omega, by omega, by omega⟩), (by rewrite [e46_41]; exact st_at4), (by rewrite [e47_42]; exact lk_at4)⟩
set_option maxRecDepth 20000 in
theorem s_rtellBit_e (x b : Int) (h : Hp_) (hT : TY h) (hx : 0 ≤ x ∧ x ≤ 18) (hb : -2147483648 ≤ b ∧ b ≤ 2147483647) (hc7 : 0 ≤ (h 39 7) ∧ (h 39 7) ≤ 1099511627776) (hrq : RQ_ (h 39 3) (h 39 5) (h 39 6) (h 39 4)) (ha5 : 32768 ≤ (h 39 5)) : Ctr yX6_tellBit cX6_tellBit 7 (some .int) (rmd 1) ly ly 0 0 [vR 39, vI x, vI b] h (fun r h' => (TY h' ∧ FR [39, 41, 42] h h') ∧ ∃ z : Int, r = some (vI z) ∧ (0 ≤ z ∧ z ≤ 1) ∧ ((z, ((h' 39 5), (h' 39 7), (h' 39 6), (h' 39 4), (h' 41), (h' 42))) = rdS lwC fxC (h 43) (h 39 3) ((h 39 5), (h 39 7), (h 39 6), (h 39 4), (h 41), (h 42)) x ∧ RQ_ (h 39 3) (h' 39 5) (h' 39 6) (h' 39 4) ∧ (0 ≤ (h' 39 7) ∧ (h' 39 7) ≤ 1099511627776) ∧ 32768 ≤ (h' 39 5)) ∧ ((h' 39 2) = (h 39 2) ∧ (h' 39 3) = (h 39 3))) := by
  refine Ctr_of (by decide) (Nat.le_of_ble_eq_true rfl) ⟨Nat.le_refl _, Nat.le_refl _⟩ (fun K hK hQ _ => ?_)
  show TT K ly 0 0 0 [(0, vR 39), (1, vI x), (2, vI b)] [] h
  have hF : FR [39, 41, 42] h h := FR_rf _ _
  have hs0 := ty_41 (i := x) (v := h 41 x) hT rfl (by omega) (by omega)
  have hs : 0 ≤ h 41 x ∧ h 41 x < 47 := by omega
  have ht := (tab_r hs).1
  have hl := ty_42 (i := x) (v := h 42 x) hT rfl (by omega) (by omega)
  have hrq2 := hrq.2.1
  have elw : lwC (h 39 7) = h 39 7 / 65536 := rfl
  have hsr : SRB (h 43) (h 39 3) := fun j j0 j1 => ty_43 (i := j) (v := h 43 j) hT rfl j0 (by have := (ty_39_3 (v := h 39 3) hT rfl).2; omega)
  refine TT_aload_n hK rfl 0 rfl dX6_tellBit_0 ?_
  refine gf_X6_12 hK (by decide) rfl (q := 40) rfl rfl dX6_tellBit_1 ?_
  refine TT_iload_n hK rfl 1 rfl dX6_tellBit_4 ?_
  refine iv_X6_65 hK (s_sizeOf40_e x h hT (by first | omega | (simp [up, setR] <;> omega))) (by decide) rfl ⟨by decide, by decide⟩ (by decide) rfl rfl (Nat.le_of_ble_eq_true rfl) ⟨by decide, by decide⟩ dX6_tellBit_5 ?_
  intro r9 g5_1 hp9
  obtain ⟨⟨hT_1, hG_1⟩, z5_1, hr9, hz_1, e_1⟩ := hp9
  rw [hr9]
  have hF_1 : FR [39, 41, 42] h g5_1 := FR_tr hF hG_1 (by decide)
  have e_at5 := e_1
  show TT K ly 0 0 8 [(0, vR 39), (1, vI x), (2, vI b)] [vI z5_1] g5_1
  refine TT_cgI (b := qS (h 41 x)) (by exact e_at5) ?_
  refine TT_istore_n hK rfl (lv' := [(3, vI (qS (h 41 x))), (0, vR 39), (1, vI x), (2, vI b)]) (by decide) rfl dX6_tellBit_8 ?_
  refine TT_aload_n hK rfl 1 rfl dX6_tellBit_9 ?_
  refine gf_X6_12 hK (by decide) rfl (q := 40) rfl rfl dX6_tellBit_10 ?_
  refine TT_iload_n hK rfl 2 rfl dX6_tellBit_13 ?_
  refine iv_X6_68 hK (s_likelyBit40_e x g5_1 hT_1 (by first | omega | (simp [up, setR] <;> omega))) (by decide) rfl ⟨by decide, by decide⟩ (by decide) rfl rfl (Nat.le_of_ble_eq_true rfl) ⟨by decide, by decide⟩ dX6_tellBit_14 ?_
  intro r9 g14_2 hp9
  obtain ⟨⟨hT_2, hG_2⟩, z14_2, hr9, hz_2, e_2⟩ := hp9
  rw [hr9]
  have hF_2 : FR [39, 41, 42] h g14_2 := FR_tr hF_1 hG_2 (by decide)
  rw [show g5_1 42 = h 42 from (hG_1 42 (by decide))] at e_2
  have e_at14 := e_2
  show TT K ly 0 0 17 [(3, vI (qS (h 41 x))), (0, vR 39), (1, vI x), (2, vI b)] [vI z14_2] g14_2
  refine TT_cgI (b := h 42 x) (by exact e_at14) ?_
  refine TT_istore hK (lv' := [(4, vI (h 42 x)), (3, vI (qS (h 41 x))), (0, vR 39), (1, vI x), (2, vI b)]) (by decide) rfl dX6_tellBit_17 ?_
  refine TT_aload_n hK rfl 2 rfl dX6_tellBit_19 ?_
  refine TT_dup hK rfl dX6_tellBit_20 ?_
  refine gf_X6_60 hK (by decide) rfl (v := (h 39) 5) (rd_ (((hG_2 39 (by decide))).trans (hG_1 39 (by decide))) rfl) dX6_tellBit_21 ?_
  have r3 := ty_39_5 (v := (h 39) 5) hT_2 (rd_ (((hG_2 39 (by decide))).trans (hG_1 39 (by decide))) rfl)
  refine TT_iload_n hK rfl 1 rfl dX6_tellBit_24 ?_
  refine TT_isub hK dX6_tellBit_25 ?_
  refine pf_X6_60 hK (by decide) rfl dX6_tellBit_26 ?_
  refine TT_hp (h' := setO g14_2 39 (fup (h 39) 5 (((h 39) 5) - (qS (h 41 x))))) (up_can (((hG_2 39 (by decide))).trans (hG_1 39 (by decide))) rfl rfl) ?_
  have hT_4 : TY (setO g14_2 39 (fup (h 39) 5 (((h 39) 5) - (qS (h 41 x))))) := tu_39_5 hT_2 (show up g14_2 39 5 (((h 39) 5) - (qS (h 41 x))) = (setO g14_2 39 (fup (h 39) 5 (((h 39) 5) - (qS (h 41 x))))) from up_can (((hG_2 39 (by decide))).trans (hG_1 39 (by decide))) rfl rfl) (by omega)
  have hF_4 : FR [39, 41, 42] h (setO g14_2 39 (fup (h 39) 5 (((h 39) 5) - (qS (h 41 x))))) := FR_up (show up g14_2 39 5 (((h 39) 5) - (qS (h 41 x))) = (setO g14_2 39 (fup (h 39) 5 (((h 39) 5) - (qS (h 41 x))))) from up_can (((hG_2 39 (by decide))).trans (hG_1 39 (by decide))) rfl rfl) hF_2 (by decide)
  refine TT_aload_n hK rfl 2 rfl dX6_tellBit_29 ?_
  refine gf_X6_49 hK (by decide) rfl (v := (h 39) 7) (rd_ (sOf_eq _ _ _) (fup_ne _ _ (by decide))) dX6_tellBit_30 ?_
  have r5 := ty_39_7 (v := (h 39) 7) hT_4 (rd_ (sOf_eq _ _ _) (fup_ne _ _ (by decide)))
  refine TT_bipush hK (by decide) dX6_tellBit_33 ?_
  refine TT_lshr hK (lrm (by omega) (by omega)) rfl dX6_tellBit_35 ?_
  refine TT_cgJ (b := ((h 39) 7) / 65536) rfl ?_
  refine TT_iload_n hK rfl 1 rfl dX6_tellBit_36 ?_
  refine TT_i2l hK (irm (by omega) (by omega)) dX6_tellBit_37 ?_
  refine TT_lcmp hK (lrm (by omega) (by omega)) (lrm (by omega) (by omega)) dX6_tellBit_38 ?_
  refine TT_if_ge hK (tgt := 69) (lcmp_ir _ _) dX6_tellBit_39 (by decide) (fun hb39_6 => ?_) (fun hb39_6 => ?_)
  · have hb39_6 := lcmp_ge hb39_6
    refine TT_aload_n hK rfl 2 rfl dX6_tellBit_69 ?_
    refine TT_dup hK rfl dX6_tellBit_70 ?_
    refine gf_X6_49 hK (by decide) rfl (v := (h 39) 7) (rd_ (sOf_eq _ _ _) (fup_ne _ _ (by decide))) dX6_tellBit_71 ?_
    refine TT_iload_n hK rfl 1 rfl dX6_tellBit_74 ?_
    refine TT_i2l hK (irm (by omega) (by omega)) dX6_tellBit_75 ?_
    refine TT_bipush hK (by decide) dX6_tellBit_76 ?_
    refine TT_lshl hK (by decide) dX6_tellBit_78 ?_
    refine TT_cgJ (b := (qS (h 41 x)) * 65536) rfl ?_
    refine TT_lsub hK dX6_tellBit_79 ?_
    refine pf_X6_49 hK (by decide) rfl dX6_tellBit_80 ?_
    refine TT_hp (h' := setO g14_2 39 (fup (fup (h 39) 5 (((h 39) 5) - (qS (h 41 x)))) 7 (((h 39) 7) - ((qS (h 41 x)) * 65536)))) (up_can (sOf_eq _ _ _) rfl (setO_same _ _ _ _)) ?_
    have hT_7 : TY (setO g14_2 39 (fup (fup (h 39) 5 (((h 39) 5) - (qS (h 41 x)))) 7 (((h 39) 7) - ((qS (h 41 x)) * 65536)))) := tu_39_7 hT_4 (show up (setO g14_2 39 (fup (h 39) 5 (((h 39) 5) - (qS (h 41 x))))) 39 7 (((h 39) 7) - ((qS (h 41 x)) * 65536)) = (setO g14_2 39 (fup (fup (h 39) 5 (((h 39) 5) - (qS (h 41 x)))) 7 (((h 39) 7) - ((qS (h 41 x)) * 65536)))) from up_can (sOf_eq _ _ _) rfl (setO_same _ _ _ _)) (by omega)
    have hF_7 : FR [39, 41, 42] h (setO g14_2 39 (fup (fup (h 39) 5 (((h 39) 5) - (qS (h 41 x)))) 7 (((h 39) 7) - ((qS (h 41 x)) * 65536)))) := FR_up (show up (setO g14_2 39 (fup (h 39) 5 (((h 39) 5) - (qS (h 41 x))))) 39 7 (((h 39) 7) - ((qS (h 41 x)) * 65536)) = (setO g14_2 39 (fup (fup (h 39) 5 (((h 39) 5) - (qS (h 41 x)))) 7 (((h 39) 7) - ((qS (h 41 x)) * 65536)))) from up_can (sOf_eq _ _ _) rfl (setO_same _ _ _ _)) hF_4 (by decide)
    refine TT_aload_n hK rfl 2 rfl dX6_tellBit_83 ?_
    refine gf_X6_60 hK (by decide) rfl (v := ((h 39) 5) - (qS (h 41 x))) (rd_ (sOf_eq _ _ _) ((fup_ne _ _ (by decide)).trans (fup_eq _ _ _))) dX6_tellBit_84 ?_
    have r8 := ty_39_5 (v := ((h 39) 5) - (qS (h 41 x))) hT_7 (rd_ (sOf_eq _ _ _) ((fup_ne _ _ (by decide)).trans (fup_eq _ _ _)))
    refine TT_ldc hK lc_X6_59 dX6_tellBit_87 ?_
    refine TT_icmp_lt hK (tgt := 95) (irm (by omega) (by omega)) (by decide) dX6_tellBit_89 (by decide) (fun hb89_9 => ?_) (fun hb89_9 => ?_)
    · refine TT_aload_n hK rfl 2 rfl dX6_tellBit_95 ?_
      refine gf_X6_60 hK (by decide) rfl (v := ((h 39) 5) - (qS (h 41 x))) (rd_ (sOf_eq _ _ _) ((fup_ne _ _ (by decide)).trans (fup_eq _ _ _))) dX6_tellBit_96 ?_
      refine TT_iload_n hK rfl 1 rfl dX6_tellBit_99 ?_
      refine TT_icmp_ge hK (tgt := 110) (irm (by omega) (by omega)) (irm (by omega) (by omega)) dX6_tellBit_100 (by decide) (fun hb100_10 => ?_) (fun hb100_10 => ?_)
      · refine TT_iload hK 0 rfl dX6_tellBit_110 ?_
        refine TT_istore hK (lv' := [(5, vI (h 42 x)), (4, vI (h 42 x)), (3, vI (qS (h 41 x))), (0, vR 39), (1, vI x), (2, vI b)]) (by decide) rfl dX6_tellBit_112 ?_
        refine TT_aload_n hK rfl 3 rfl dX6_tellBit_114 ?_
        refine gf_X6_12 hK (by decide) rfl (q := 40) rfl rfl dX6_tellBit_115 ?_
        refine TT_iload_n hK rfl 4 rfl dX6_tellBit_118 ?_
        refine TT_iload hK 0 rfl dX6_tellBit_119 ?_
        refine iv_X6_71 hK (s_learn40_e x (h 42 x) (setO g14_2 39 (fup (fup (h 39) 5 (((h 39) 5) - (qS (h 41 x)))) 7 (((h 39) 7) - ((qS (h 41 x)) * 65536)))) hT_7 (by first | omega | (simp [up, setR] <;> omega)) (by first | omega | (simp [up, setR] <;> omega))) (by decide) rfl ⟨by decide, by decide⟩ (by decide) rfl rfl (Nat.le_of_ble_eq_true rfl) ⟨by decide, by decide⟩ dX6_tellBit_121 ?_
        intro r9 g121_11 hp9
        obtain ⟨⟨hT_11, hG_11⟩, hr9, l1_11, l2_11⟩ := hp9
        rw [hr9]
        have hF_11 : FR [39, 41, 42] h g121_11 := FR_tr hF_7 hG_11 (by decide)
        rw [show (setO g14_2 39 (fup (fup (h 39) 5 (((h 39) 5) - (qS (h 41 x)))) 7 (((h 39) 7) - ((qS (h 41 x)) * 65536)))) 41 = h 41 from (sOf_ne _ _ (by decide)).trans (((hG_2 41 (by decide))).trans (hG_1 41 (by decide)))] at l1_11
        rw [show (setO g14_2 39 (fup (fup (h 39) 5 (((h 39) 5) - (qS (h 41 x)))) 7 (((h 39) 7) - ((qS (h 41 x)) * 65536)))) 42 = h 42 from (sOf_ne _ _ (by decide)).trans (((hG_2 42 (by decide))).trans (hG_1 42 (by decide)))] at l1_11
        rw [show (setO g14_2 39 (fup (fup (h 39) 5 (((h 39) 5) - (qS (h 41 x)))) 7 (((h 39) 7) - ((qS (h 41 x)) * 65536)))) 41 = h 41 from (sOf_ne _ _ (by decide)).trans (((hG_2 41 (by decide))).trans (hG_1 41 (by decide)))] at l2_11
        rw [show (setO g14_2 39 (fup (fup (h 39) 5 (((h 39) 5) - (qS (h 41 x)))) 7 (((h 39) 7) - ((qS (h 41 x)) * 65536)))) 42 = h 42 from (sOf_ne _ _ (by decide)).trans (((hG_2 42 (by decide))).trans (hG_1 42 (by decide)))] at l2_11
        have l1_at121 := l1_11
        have l2_at121 := l2_11
        show TT K ly 0 0 124 [(5, vI (h 42 x)), (4, vI (h 42 x)), (3, vI (qS (h 41 x))), (0, vR 39), (1, vI x), (2, vI b)] [] g121_11
        refine TT_iconst hK dX6_tellBit_124 ?_
        refine TT_istore hK (lv' := [(6, vI 0), (5, vI (h 42 x)), (4, vI (h 42 x)), (3, vI (qS (h 41 x))), (0, vR 39), (1, vI x), (2, vI b)]) (by decide) rfl dX6_tellBit_125 ?_
        have L127_12 : ∀ (k12 : Nat) (k : Int) (b9 : Int) (R9 : Int × Int × Int × Int) (w127_12 : Hp_), TY w127_12 → FR [39, 41, 42] h w127_12 → (0 ≤ k ∧ k ≤ 15) → (0 ≤ b9 ∧ b9 ≤ 1) → ((w127_12 39 3) = h 39 3) → ((w127_12 39 2) = h 39 2) → (k ≤ 15) → (0 ≤ (w127_12 39 7) ∧ (w127_12 39 7) ≤ 1099511627776) → (RJ_ fxC (h 43) (h 39 3) (15 - k).toNat (w127_12 39 5) (w127_12 39 7) (w127_12 39 6) (w127_12 39 4) R9) → (rdS lwC fxC (h 43) (h 39 3) ((h 39 5), (h 39 7), (h 39 6), (h 39 4), (h 41), (h 42)) x = (b9, R9.1, R9.2.1, R9.2.2.1, R9.2.2.2, (w127_12 41), (w127_12 42))) → ((15 : Int) - k).toNat < k12 → TT K ly 0 0 127 [(0, vR 39), (1, vI x), (5, vI b9), (6, vI k)] [] w127_12 := by
          intro k12
          induction k12 with
          | zero => intro k b9 R9 w127_12 hT127_12 hF127_12 hk hb9 k3 k2 hk15 hcb hM hR hk12; exact absurd hk12 (Nat.not_lt_zero _)
          | succ k12 ih12 =>
            intro k b9 R9 w127_12 hT127_12 hF127_12 hk hb9 k3 k2 hk15 hcb hM hR hk12
            have hcr := hM.2.2
            obtain ⟨m1, m2, m3, m4, m5, m6⟩ := hcr
            refine TT_iload hK 3 rfl dX6_tellBit_127 ?_
            refine TT_bipush hK (by decide) dX6_tellBit_129 ?_
            refine TT_icmp_ge hK (tgt := 196) (irm (by omega) (by omega)) (by decide) dX6_tellBit_131 (by decide) (fun hb131_13 => ?_) (fun hb131_13 => ?_)
            · refine TT_iload hK 2 rfl dX6_tellBit_196 ?_
              refine TT_iret hK hQ ?_ dX6_tellBit_198
              have e14_39_4 : w127_12 39 4 = (w127_12 39) 4 := rfl
              have e15_39_5 : w127_12 39 5 = (w127_12 39) 5 := rfl
              have e16_39_6 : w127_12 39 6 = (w127_12 39) 6 := rfl
              have e17_39_7 : w127_12 39 7 = (w127_12 39) 7 := rfl
              have e18_39_2 : w127_12 39 2 = (w127_12 39) 2 := rfl
              have e19_39_3 : w127_12 39 3 = (w127_12 39) 3 := rfl
              exact ⟨⟨hT127_12, hF127_12⟩, b9, rfl, (by omega), (by rewrite [e14_39_4, e15_39_5, e16_39_6, e17_39_7]; first | (obtain ⟨u4, u5, u6, u7, u8, u9⟩ := hrq; exact ⟨rdS_1c (by omega) (by omega) (by omega) (by omega), ⟨by omega, by omega, by omega, by omega, by omega, by omega⟩, by omega, by omega⟩) | (have hd := RJ_done hM (by first | omega | (have h0 : (15 - k).toNat = 0 := (by omega); rw [h0] at hM; exact RJ_z hM)); exact ⟨by rw [hR, ← hd], hM.2.2, by omega, by first | omega | (have h0 : (15 - k).toNat = 0 := (by omega); rw [h0] at hM; exact RJ_z hM)⟩)), (by rewrite [e18_39_2, e19_39_3]; omega)⟩
            · refine TT_aload_n hK rfl 0 rfl dX6_tellBit_134 ?_
              refine gf_X6_60 hK (by decide) rfl (v := (w127_12 39) 5) rfl dX6_tellBit_135 ?_
              have r20 := ty_39_5 (v := (w127_12 39) 5) hT127_12 rfl
              refine TT_ldc hK lc_X6_59 dX6_tellBit_138 ?_
              refine TT_icmp_ge hK (tgt := 196) (irm (by omega) (by omega)) (by decide) dX6_tellBit_140 (by decide) (fun hb140_21 => ?_) (fun hb140_21 => ?_)
              · refine TT_iload hK 2 rfl dX6_tellBit_196 ?_
                refine TT_iret hK hQ ?_ dX6_tellBit_198
                have e22_39_4 : w127_12 39 4 = (w127_12 39) 4 := rfl
                have e23_39_5 : w127_12 39 5 = (w127_12 39) 5 := rfl
                have e24_39_6 : w127_12 39 6 = (w127_12 39) 6 := rfl
                have e25_39_7 : w127_12 39 7 = (w127_12 39) 7 := rfl
                have e26_39_2 : w127_12 39 2 = (w127_12 39) 2 := rfl
                have e27_39_3 : w127_12 39 3 = (w127_12 39) 3 := rfl
                exact ⟨⟨hT127_12, hF127_12⟩, b9, rfl, (by omega), (by rewrite [e22_39_4, e23_39_5, e24_39_6, e25_39_7]; first | (obtain ⟨u4, u5, u6, u7, u8, u9⟩ := hrq; exact ⟨rdS_1c (by omega) (by omega) (by omega) (by omega), ⟨by omega, by omega, by omega, by omega, by omega, by omega⟩, by omega, by omega⟩) | (have hd := RJ_done hM (by first | omega | (have h0 : (15 - k).toNat = 0 := (by omega); rw [h0] at hM; exact RJ_z hM)); exact ⟨by rw [hR, ← hd], hM.2.2, by omega, by first | omega | (have h0 : (15 - k).toNat = 0 := (by omega); rw [h0] at hM; exact RJ_z hM)⟩)), (by rewrite [e26_39_2, e27_39_3]; omega)⟩
              · refine TT_aload_n hK rfl 0 rfl dX6_tellBit_143 ?_
                refine gf_X6_56 hK (by decide) rfl (v := (w127_12 39) 6) rfl dX6_tellBit_144 ?_
                have r28 := ty_39_6 (v := (w127_12 39) 6) hT127_12 rfl
                refine TT_if_ne hK (tgt := 154) (irm (by omega) (by omega)) dX6_tellBit_147 (by decide) (fun hb147_29 => ?_) (fun hb147_29 => ?_)
                · 
                  refine TT_aload_n hK rfl 0 rfl dX6_tellBit_154 ?_
                  refine TT_dup hK rfl dX6_tellBit_155 ?_
                  refine gf_X6_60 hK (by decide) rfl (v := (w127_12 39) 5) rfl dX6_tellBit_156 ?_
                  refine TT_iconst hK dX6_tellBit_159 ?_
                  refine TT_ishl hK (by omega) (by omega) dX6_tellBit_160 ?_
                  refine TT_cgI (b := ((w127_12 39) 5) * 2) rfl ?_
                  refine TT_cgI (b := 2 * ((w127_12 39) 5)) (by omega) ?_
                  refine pf_X6_60 hK (by decide) rfl dX6_tellBit_161 ?_
                  refine TT_hp (h' := setO w127_12 39 (fup (w127_12 39) 5 (2 * ((w127_12 39) 5)))) (up_can rfl rfl rfl) ?_
                  have hT_30 : TY (setO w127_12 39 (fup (w127_12 39) 5 (2 * ((w127_12 39) 5)))) := tu_39_5 hT127_12 (show up w127_12 39 5 (2 * ((w127_12 39) 5)) = (setO w127_12 39 (fup (w127_12 39) 5 (2 * ((w127_12 39) 5)))) from up_can rfl rfl rfl) (by omega)
                  have hF_30 : FR [39, 41, 42] h (setO w127_12 39 (fup (w127_12 39) 5 (2 * ((w127_12 39) 5)))) := FR_up (show up w127_12 39 5 (2 * ((w127_12 39) 5)) = (setO w127_12 39 (fup (w127_12 39) 5 (2 * ((w127_12 39) 5)))) from up_can rfl rfl rfl) hF127_12 (by decide)
                  refine TT_aload_n hK rfl 0 rfl dX6_tellBit_164 ?_
                  refine TT_aload_n hK rfl 0 rfl dX6_tellBit_165 ?_
                  refine gf_X6_49 hK (by decide) rfl (v := (w127_12 39) 7) (rd_ (sOf_eq _ _ _) (fup_ne _ _ (by decide))) dX6_tellBit_166 ?_
                  have r31 := ty_39_7 (v := (w127_12 39) 7) hT_30 (rd_ (sOf_eq _ _ _) (fup_ne _ _ (by decide)))
                  refine TT_iconst hK dX6_tellBit_169 ?_
                  refine TT_lshl hK (by decide) dX6_tellBit_170 ?_
                  refine TT_cgJ (b := ((w127_12 39) 7) * 2) rfl ?_
                  refine TT_cgJ (b := 2 * ((w127_12 39) 7)) (by omega) ?_
                  refine TT_ldc2 hK lc_X6_75 dX6_tellBit_171 ?_
                  refine TT_mminl hK (lrm (by omega) (by omega)) (by decide) iw_X6_77 (by decide) (Nat.le_of_ble_eq_true rfl) ⟨by decide, by decide⟩ dX6_tellBit_174 ?_
                  have fx9 := fxC_r (c := 2 * ((w127_12 39) 7)) (by omega)
                  refine TT_cgJ (b := fxC (2 * ((w127_12 39) 7))) (by rfl) ?_
                  refine pf_X6_49 hK (by decide) rfl dX6_tellBit_177 ?_
                  refine TT_hp (h' := setO w127_12 39 (fup (fup (w127_12 39) 5 (2 * ((w127_12 39) 5))) 7 (fxC (2 * ((w127_12 39) 7))))) (up_can (sOf_eq _ _ _) rfl (setO_same _ _ _ _)) ?_
                  have hT_32 : TY (setO w127_12 39 (fup (fup (w127_12 39) 5 (2 * ((w127_12 39) 5))) 7 (fxC (2 * ((w127_12 39) 7))))) := tu_39_7 hT_30 (show up (setO w127_12 39 (fup (w127_12 39) 5 (2 * ((w127_12 39) 5)))) 39 7 (fxC (2 * ((w127_12 39) 7))) = (setO w127_12 39 (fup (fup (w127_12 39) 5 (2 * ((w127_12 39) 5))) 7 (fxC (2 * ((w127_12 39) 7))))) from up_can (sOf_eq _ _ _) rfl (setO_same _ _ _ _)) (by omega)
                  have hF_32 : FR [39, 41, 42] h (setO w127_12 39 (fup (fup (w127_12 39) 5 (2 * ((w127_12 39) 5))) 7 (fxC (2 * ((w127_12 39) 7))))) := FR_up (show up (setO w127_12 39 (fup (w127_12 39) 5 (2 * ((w127_12 39) 5)))) 39 7 (fxC (2 * ((w127_12 39) 7))) = (setO w127_12 39 (fup (fup (w127_12 39) 5 (2 * ((w127_12 39) 5))) 7 (fxC (2 * ((w127_12 39) 7))))) from up_can (sOf_eq _ _ _) rfl (setO_same _ _ _ _)) hF_30 (by decide)
                  refine TT_aload_n hK rfl 0 rfl dX6_tellBit_180 ?_
                  refine TT_dup hK rfl dX6_tellBit_181 ?_
                  refine gf_X6_56 hK (by decide) rfl (v := (w127_12 39) 6) (rd_ (sOf_eq _ _ _) ((fup_ne _ _ (by decide)).trans (fup_ne _ _ (by decide)))) dX6_tellBit_182 ?_
                  refine TT_iconst hK dX6_tellBit_185 ?_
                  refine TT_isub hK dX6_tellBit_186 ?_
                  refine pf_X6_56 hK (by decide) rfl dX6_tellBit_187 ?_
                  refine TT_hp (h' := setO w127_12 39 (fup (fup (fup (w127_12 39) 5 (2 * ((w127_12 39) 5))) 6 (((w127_12 39) 6) - 1)) 7 (fxC (2 * ((w127_12 39) 7))))) (up_can (sOf_eq _ _ _) (fup_comm _ _ _ (by decide)) (setO_same _ _ _ _)) ?_
                  have hT_33 : TY (setO w127_12 39 (fup (fup (fup (w127_12 39) 5 (2 * ((w127_12 39) 5))) 6 (((w127_12 39) 6) - 1)) 7 (fxC (2 * ((w127_12 39) 7))))) := tu_39_6 hT_32 (show up (setO w127_12 39 (fup (fup (w127_12 39) 5 (2 * ((w127_12 39) 5))) 7 (fxC (2 * ((w127_12 39) 7))))) 39 6 (((w127_12 39) 6) - 1) = (setO w127_12 39 (fup (fup (fup (w127_12 39) 5 (2 * ((w127_12 39) 5))) 6 (((w127_12 39) 6) - 1)) 7 (fxC (2 * ((w127_12 39) 7))))) from up_can (sOf_eq _ _ _) (fup_comm _ _ _ (by decide)) (setO_same _ _ _ _)) (by omega)
                  have hF_33 : FR [39, 41, 42] h (setO w127_12 39 (fup (fup (fup (w127_12 39) 5 (2 * ((w127_12 39) 5))) 6 (((w127_12 39) 6) - 1)) 7 (fxC (2 * ((w127_12 39) 7))))) := FR_up (show up (setO w127_12 39 (fup (fup (w127_12 39) 5 (2 * ((w127_12 39) 5))) 7 (fxC (2 * ((w127_12 39) 7))))) 39 6 (((w127_12 39) 6) - 1) = (setO w127_12 39 (fup (fup (fup (w127_12 39) 5 (2 * ((w127_12 39) 5))) 6 (((w127_12 39) 6) - 1)) 7 (fxC (2 * ((w127_12 39) 7))))) from up_can (sOf_eq _ _ _) (fup_comm _ _ _ (by decide)) (setO_same _ _ _ _)) hF_32 (by decide)
                  refine TT_iinc hK (v := k + 1) (lv' := [(6, vI (k + 1)), (0, vR 39), (1, vI x), (5, vI b9)]) 3 rfl rfl (by decide) rfl dX6_tellBit_190 ?_
                  refine TT_goto hK (tgt := 127) dX6_tellBit_193 (by decide) ?_
                  refine TT_sub [1, 2, 3, 0] rfl ?_
                  have e34_39_3 : (setO w127_12 39 (fup (fup (fup (w127_12 39) 5 (2 * ((w127_12 39) 5))) 6 (((w127_12 39) 6) - 1)) 7 (fxC (2 * ((w127_12 39) 7))))) 39 3 = (w127_12 39) 3 := rd_ (sOf_eq _ _ _) ((fup_ne _ _ (by decide)).trans ((fup_ne _ _ (by decide)).trans (fup_ne _ _ (by decide))))
                  have e35_39_2 : (setO w127_12 39 (fup (fup (fup (w127_12 39) 5 (2 * ((w127_12 39) 5))) 6 (((w127_12 39) 6) - 1)) 7 (fxC (2 * ((w127_12 39) 7))))) 39 2 = (w127_12 39) 2 := rd_ (sOf_eq _ _ _) ((fup_ne _ _ (by decide)).trans ((fup_ne _ _ (by decide)).trans (fup_ne _ _ (by decide))))
                  have e36_39_7 : (setO w127_12 39 (fup (fup (fup (w127_12 39) 5 (2 * ((w127_12 39) 5))) 6 (((w127_12 39) 6) - 1)) 7 (fxC (2 * ((w127_12 39) 7))))) 39 7 = fxC (2 * ((w127_12 39) 7)) := rd_ (sOf_eq _ _ _) (fup_eq _ _ _)
                  have e37_39_4 : (setO w127_12 39 (fup (fup (fup (w127_12 39) 5 (2 * ((w127_12 39) 5))) 6 (((w127_12 39) 6) - 1)) 7 (fxC (2 * ((w127_12 39) 7))))) 39 4 = (w127_12 39) 4 := rd_ (sOf_eq _ _ _) ((fup_ne _ _ (by decide)).trans ((fup_ne _ _ (by decide)).trans (fup_ne _ _ (by decide))))
                  have e38_39_5 : (setO w127_12 39 (fup (fup (fup (w127_12 39) 5 (2 * ((w127_12 39) 5))) 6 (((w127_12 39) 6) - 1)) 7 (fxC (2 * ((w127_12 39) 7))))) 39 5 = 2 * ((w127_12 39) 5) := rd_ (sOf_eq _ _ _) ((fup_ne _ _ (by decide)).trans ((fup_ne _ _ (by decide)).trans (fup_eq _ _ _)))
                  have e39_39_6 : (setO w127_12 39 (fup (fup (fup (w127_12 39) 5 (2 * ((w127_12 39) 5))) 6 (((w127_12 39) 6) - 1)) 7 (fxC (2 * ((w127_12 39) 7))))) 39 6 = ((w127_12 39) 6) - 1 := rd_ (sOf_eq _ _ _) ((fup_ne _ _ (by decide)).trans (fup_eq _ _ _))
                  have e40_39_7 : (setO w127_12 39 (fup (fup (fup (w127_12 39) 5 (2 * ((w127_12 39) 5))) 6 (((w127_12 39) 6) - 1)) 7 (fxC (2 * ((w127_12 39) 7))))) 39 7 = fxC (2 * ((w127_12 39) 7)) := rd_ (sOf_eq _ _ _) (fup_eq _ _ _)
                  have e41_41 : (setO w127_12 39 (fup (fup (fup (w127_12 39) 5 (2 * ((w127_12 39) 5))) 6 (((w127_12 39) 6) - 1)) 7 (fxC (2 * ((w127_12 39) 7))))) 41 = w127_12 41 := sOf_ne _ _ (by decide)
                  have e42_42 : (setO w127_12 39 (fup (fup (fup (w127_12 39) 5 (2 * ((w127_12 39) 5))) 6 (((w127_12 39) 6) - 1)) 7 (fxC (2 * ((w127_12 39) 7))))) 42 = w127_12 42 := sOf_ne _ _ (by decide)
                  exact ih12 (k + 1) b9 R9 (setO w127_12 39 (fup (fup (fup (w127_12 39) 5 (2 * ((w127_12 39) 5))) 6 (((w127_12 39) 6) - 1)) 7 (fxC (2 * ((w127_12 39) 7))))) hT_33 hF_33 (by first | omega | (simp [up, setR] <;> omega)) (by first | omega | (simp [up, setR] <;> omega)) (by rewrite [e34_39_3]; first | omega | (simp [up, setR] <;> omega)) (by rewrite [e35_39_2]; first | omega | (simp [up, setR] <;> omega)) (by first | omega | (simp [up, setR] <;> omega)) (by rewrite [e36_39_7]; unfold fxC; omega) (by rewrite [e37_39_4, e38_39_5, e39_39_6, e40_39_7]; have h1 : (15 - k).toNat = (15 - (k + 1)).toNat + 1 := (by omega); rw [h1] at hM; first | exact RJ_next hM (by omega) (by omega) rfl) (by rewrite [e41_41, e42_42]; exact hR) (by first | omega | (simp [up, setR] <;> omega))
                · refine TT_aload_n hK rfl 0 rfl dX6_tellBit_150 ?_
                  refine iv_X6_53 hK (s_comeIn_e w127_12 hT127_12 ) (by decide) rfl ⟨by decide, by decide⟩ (by decide) rfl rfl (Nat.le_of_ble_eq_true rfl) ⟨by decide, by decide⟩ dX6_tellBit_151 ?_
                  intro r9 g151_43 hp9
                  obtain ⟨⟨hT_43, hG_43⟩, hr9, p1_43, in_43, ck_43⟩ := hp9
                  rw [hr9]
                  have hF_43 : FR [39, 41, 42] h g151_43 := FR_tr hF127_12 hG_43 (by decide)
                  rw [show w127_12 39 3 = (w127_12 39) 3 from rfl] at in_43
                  rw [show w127_12 39 4 = (w127_12 39) 4 from rfl] at in_43
                  rw [show w127_12 39 7 = (w127_12 39) 7 from rfl] at in_43
                  rw [show w127_12 43 = h 43 from (hF127_12 43 (by decide))] at in_43
                  rw [show w127_12 39 2 = (w127_12 39) 2 from rfl] at ck_43
                  rw [show w127_12 39 3 = (w127_12 39) 3 from rfl] at ck_43
                  rw [show w127_12 39 5 = (w127_12 39) 5 from rfl] at ck_43
                  have in_at151 := in_43
                  have ck_at151 := ck_43
                  show TT K ly 0 0 154 [(0, vR 39), (1, vI x), (5, vI b9), (6, vI k)] [] g151_43
                  have i9r := inS_rr (by rw [k3]; exact hsr) (by omega) (by omega) (in_at151 (by omega))
                  refine TT_aload_n hK rfl 0 rfl dX6_tellBit_154 ?_
                  refine TT_dup hK rfl dX6_tellBit_155 ?_
                  refine gf_X6_60 hK (by decide) rfl (v := (g151_43 39) 5) rfl dX6_tellBit_156 ?_
                  have r44 := ty_39_5 (v := (g151_43 39) 5) hT_43 rfl
                  refine TT_iconst hK dX6_tellBit_159 ?_
                  refine TT_ishl hK (by omega) (by omega) dX6_tellBit_160 ?_
                  refine TT_cgI (b := ((g151_43 39) 5) * 2) rfl ?_
                  refine TT_cgI (b := 2 * ((g151_43 39) 5)) (by omega) ?_
                  refine pf_X6_60 hK (by decide) rfl dX6_tellBit_161 ?_
                  refine TT_hp (h' := setO g151_43 39 (fup (g151_43 39) 5 (2 * ((g151_43 39) 5)))) (up_can rfl rfl rfl) ?_
                  have hT_45 : TY (setO g151_43 39 (fup (g151_43 39) 5 (2 * ((g151_43 39) 5)))) := tu_39_5 hT_43 (show up g151_43 39 5 (2 * ((g151_43 39) 5)) = (setO g151_43 39 (fup (g151_43 39) 5 (2 * ((g151_43 39) 5)))) from up_can rfl rfl rfl) (by omega)
                  have hF_45 : FR [39, 41, 42] h (setO g151_43 39 (fup (g151_43 39) 5 (2 * ((g151_43 39) 5)))) := FR_up (show up g151_43 39 5 (2 * ((g151_43 39) 5)) = (setO g151_43 39 (fup (g151_43 39) 5 (2 * ((g151_43 39) 5)))) from up_can rfl rfl rfl) hF_43 (by decide)
                  refine TT_aload_n hK rfl 0 rfl dX6_tellBit_164 ?_
                  refine TT_aload_n hK rfl 0 rfl dX6_tellBit_165 ?_
                  refine gf_X6_49 hK (by decide) rfl (v := (g151_43 39) 7) (rd_ (sOf_eq _ _ _) (fup_ne _ _ (by decide))) dX6_tellBit_166 ?_
                  have r46 := ty_39_7 (v := (g151_43 39) 7) hT_45 (rd_ (sOf_eq _ _ _) (fup_ne _ _ (by decide)))
                  refine TT_iconst hK dX6_tellBit_169 ?_
                  refine TT_lshl hK (by decide) dX6_tellBit_170 ?_
                  refine TT_cgJ (b := ((g151_43 39) 7) * 2) rfl ?_
                  refine TT_cgJ (b := 2 * ((g151_43 39) 7)) (by omega) ?_
                  refine TT_ldc2 hK lc_X6_75 dX6_tellBit_171 ?_
                  refine TT_mminl hK (lrm (by omega) (by omega)) (by decide) iw_X6_77 (by decide) (Nat.le_of_ble_eq_true rfl) ⟨by decide, by decide⟩ dX6_tellBit_174 ?_
                  have fx9 := fxC_r (c := 2 * ((g151_43 39) 7)) (by omega)
                  refine TT_cgJ (b := fxC (2 * ((g151_43 39) 7))) (by rfl) ?_
                  refine pf_X6_49 hK (by decide) rfl dX6_tellBit_177 ?_
                  refine TT_hp (h' := setO g151_43 39 (fup (fup (g151_43 39) 5 (2 * ((g151_43 39) 5))) 7 (fxC (2 * ((g151_43 39) 7))))) (up_can (sOf_eq _ _ _) rfl (setO_same _ _ _ _)) ?_
                  have hT_47 : TY (setO g151_43 39 (fup (fup (g151_43 39) 5 (2 * ((g151_43 39) 5))) 7 (fxC (2 * ((g151_43 39) 7))))) := tu_39_7 hT_45 (show up (setO g151_43 39 (fup (g151_43 39) 5 (2 * ((g151_43 39) 5)))) 39 7 (fxC (2 * ((g151_43 39) 7))) = (setO g151_43 39 (fup (fup (g151_43 39) 5 (2 * ((g151_43 39) 5))) 7 (fxC (2 * ((g151_43 39) 7))))) from up_can (sOf_eq _ _ _) rfl (setO_same _ _ _ _)) (by omega)
                  have hF_47 : FR [39, 41, 42] h (setO g151_43 39 (fup (fup (g151_43 39) 5 (2 * ((g151_43 39) 5))) 7 (fxC (2 * ((g151_43 39) 7))))) := FR_up (show up (setO g151_43 39 (fup (g151_43 39) 5 (2 * ((g151_43 39) 5)))) 39 7 (fxC (2 * ((g151_43 39) 7))) = (setO g151_43 39 (fup (fup (g151_43 39) 5 (2 * ((g151_43 39) 5))) 7 (fxC (2 * ((g151_43 39) 7))))) from up_can (sOf_eq _ _ _) rfl (setO_same _ _ _ _)) hF_45 (by decide)
                  refine TT_aload_n hK rfl 0 rfl dX6_tellBit_180 ?_
                  refine TT_dup hK rfl dX6_tellBit_181 ?_
                  refine gf_X6_56 hK (by decide) rfl (v := (g151_43 39) 6) (rd_ (sOf_eq _ _ _) ((fup_ne _ _ (by decide)).trans (fup_ne _ _ (by decide)))) dX6_tellBit_182 ?_
                  have r48 := ty_39_6 (v := (g151_43 39) 6) hT_47 (rd_ (sOf_eq _ _ _) ((fup_ne _ _ (by decide)).trans (fup_ne _ _ (by decide))))
                  refine TT_iconst hK dX6_tellBit_185 ?_
                  refine TT_isub hK dX6_tellBit_186 ?_
                  refine pf_X6_56 hK (by decide) rfl dX6_tellBit_187 ?_
                  refine TT_hp (h' := setO g151_43 39 (fup (fup (fup (g151_43 39) 5 (2 * ((g151_43 39) 5))) 6 (((g151_43 39) 6) - 1)) 7 (fxC (2 * ((g151_43 39) 7))))) (up_can (sOf_eq _ _ _) (fup_comm _ _ _ (by decide)) (setO_same _ _ _ _)) ?_
                  have hT_49 : TY (setO g151_43 39 (fup (fup (fup (g151_43 39) 5 (2 * ((g151_43 39) 5))) 6 (((g151_43 39) 6) - 1)) 7 (fxC (2 * ((g151_43 39) 7))))) := tu_39_6 hT_47 (show up (setO g151_43 39 (fup (fup (g151_43 39) 5 (2 * ((g151_43 39) 5))) 7 (fxC (2 * ((g151_43 39) 7))))) 39 6 (((g151_43 39) 6) - 1) = (setO g151_43 39 (fup (fup (fup (g151_43 39) 5 (2 * ((g151_43 39) 5))) 6 (((g151_43 39) 6) - 1)) 7 (fxC (2 * ((g151_43 39) 7))))) from up_can (sOf_eq _ _ _) (fup_comm _ _ _ (by decide)) (setO_same _ _ _ _)) (by omega)
                  have hF_49 : FR [39, 41, 42] h (setO g151_43 39 (fup (fup (fup (g151_43 39) 5 (2 * ((g151_43 39) 5))) 6 (((g151_43 39) 6) - 1)) 7 (fxC (2 * ((g151_43 39) 7))))) := FR_up (show up (setO g151_43 39 (fup (fup (g151_43 39) 5 (2 * ((g151_43 39) 5))) 7 (fxC (2 * ((g151_43 39) 7))))) 39 6 (((g151_43 39) 6) - 1) = (setO g151_43 39 (fup (fup (fup (g151_43 39) 5 (2 * ((g151_43 39) 5))) 6 (((g151_43 39) 6) - 1)) 7 (fxC (2 * ((g151_43 39) 7))))) from up_can (sOf_eq _ _ _) (fup_comm _ _ _ (by decide)) (setO_same _ _ _ _)) hF_47 (by decide)
                  refine TT_iinc hK (v := k + 1) (lv' := [(6, vI (k + 1)), (0, vR 39), (1, vI x), (5, vI b9)]) 3 rfl rfl (by decide) rfl dX6_tellBit_190 ?_
                  refine TT_goto hK (tgt := 127) dX6_tellBit_193 (by decide) ?_
                  refine TT_sub [1, 2, 3, 0] rfl ?_
                  have e50_39_3 : (setO g151_43 39 (fup (fup (fup (g151_43 39) 5 (2 * ((g151_43 39) 5))) 6 (((g151_43 39) 6) - 1)) 7 (fxC (2 * ((g151_43 39) 7))))) 39 3 = (g151_43 39) 3 := rd_ (sOf_eq _ _ _) ((fup_ne _ _ (by decide)).trans ((fup_ne _ _ (by decide)).trans (fup_ne _ _ (by decide))))
                  have e51_39_2 : (setO g151_43 39 (fup (fup (fup (g151_43 39) 5 (2 * ((g151_43 39) 5))) 6 (((g151_43 39) 6) - 1)) 7 (fxC (2 * ((g151_43 39) 7))))) 39 2 = (g151_43 39) 2 := rd_ (sOf_eq _ _ _) ((fup_ne _ _ (by decide)).trans ((fup_ne _ _ (by decide)).trans (fup_ne _ _ (by decide))))
                  have e52_39_7 : (setO g151_43 39 (fup (fup (fup (g151_43 39) 5 (2 * ((g151_43 39) 5))) 6 (((g151_43 39) 6) - 1)) 7 (fxC (2 * ((g151_43 39) 7))))) 39 7 = fxC (2 * ((g151_43 39) 7)) := rd_ (sOf_eq _ _ _) (fup_eq _ _ _)
                  have e53_39_4 : (setO g151_43 39 (fup (fup (fup (g151_43 39) 5 (2 * ((g151_43 39) 5))) 6 (((g151_43 39) 6) - 1)) 7 (fxC (2 * ((g151_43 39) 7))))) 39 4 = (g151_43 39) 4 := rd_ (sOf_eq _ _ _) ((fup_ne _ _ (by decide)).trans ((fup_ne _ _ (by decide)).trans (fup_ne _ _ (by decide))))
                  have e54_39_5 : (setO g151_43 39 (fup (fup (fup (g151_43 39) 5 (2 * ((g151_43 39) 5))) 6 (((g151_43 39) 6) - 1)) 7 (fxC (2 * ((g151_43 39) 7))))) 39 5 = 2 * ((g151_43 39) 5) := rd_ (sOf_eq _ _ _) ((fup_ne _ _ (by decide)).trans ((fup_ne _ _ (by decide)).trans (fup_eq _ _ _)))
                  have e55_39_6 : (setO g151_43 39 (fup (fup (fup (g151_43 39) 5 (2 * ((g151_43 39) 5))) 6 (((g151_43 39) 6) - 1)) 7 (fxC (2 * ((g151_43 39) 7))))) 39 6 = ((g151_43 39) 6) - 1 := rd_ (sOf_eq _ _ _) ((fup_ne _ _ (by decide)).trans (fup_eq _ _ _))
                  have e56_39_7 : (setO g151_43 39 (fup (fup (fup (g151_43 39) 5 (2 * ((g151_43 39) 5))) 6 (((g151_43 39) 6) - 1)) 7 (fxC (2 * ((g151_43 39) 7))))) 39 7 = fxC (2 * ((g151_43 39) 7)) := rd_ (sOf_eq _ _ _) (fup_eq _ _ _)
                  have e57_41 : (setO g151_43 39 (fup (fup (fup (g151_43 39) 5 (2 * ((g151_43 39) 5))) 6 (((g151_43 39) 6) - 1)) 7 (fxC (2 * ((g151_43 39) 7))))) 41 = w127_12 41 := (sOf_ne _ _ (by decide)).trans (hG_43 41 (by decide))
                  have e58_42 : (setO g151_43 39 (fup (fup (fup (g151_43 39) 5 (2 * ((g151_43 39) 5))) 6 (((g151_43 39) 6) - 1)) 7 (fxC (2 * ((g151_43 39) 7))))) 42 = w127_12 42 := (sOf_ne _ _ (by decide)).trans (hG_43 42 (by decide))
                  exact ih12 (k + 1) b9 R9 (setO g151_43 39 (fup (fup (fup (g151_43 39) 5 (2 * ((g151_43 39) 5))) 6 (((g151_43 39) 6) - 1)) 7 (fxC (2 * ((g151_43 39) 7))))) hT_49 hF_49 (by first | omega | (simp [up, setR] <;> omega)) (by first | omega | (simp [up, setR] <;> omega)) (by rewrite [e50_39_3]; first | omega | (simp [up, setR] <;> omega)) (by rewrite [e51_39_2]; first | omega | (simp [up, setR] <;> omega)) (by first | omega | (simp [up, setR] <;> omega)) (by rewrite [e52_39_7]; unfold fxC; omega) (by rewrite [e53_39_4, e54_39_5, e55_39_6, e56_39_7]; have h1 : (15 - k).toNat = (15 - (k + 1)).toNat + 1 := (by omega); rw [h1] at hM; first | exact RJ_next hM (by omega) (by omega) rfl | (rw [ck_at151.2.2]; exact RJK_in hsr hM (by omega) (by omega) (by have i9 := in_at151 (by omega); rw [k3] at i9; exact i9) rfl)) (by rewrite [e57_41, e58_42]; exact hR) (by first | omega | (simp [up, setR] <;> omega))
        refine TT_sub [4, 5, 1, 0] rfl ?_
        have e59_39_3 : g121_11 39 3 = (h 39) 3 := rd_ (((hG_11 39 (by decide))).trans (sOf_eq _ _ _)) ((fup_ne _ _ (by decide)).trans (fup_ne _ _ (by decide)))
        have e60_39_2 : g121_11 39 2 = (h 39) 2 := rd_ (((hG_11 39 (by decide))).trans (sOf_eq _ _ _)) ((fup_ne _ _ (by decide)).trans (fup_ne _ _ (by decide)))
        have e61_39_7 : g121_11 39 7 = ((h 39) 7) - ((qS (h 41 x)) * 65536) := rd_ (((hG_11 39 (by decide))).trans (sOf_eq _ _ _)) (fup_eq _ _ _)
        have e62_39_4 : g121_11 39 4 = (h 39) 4 := rd_ (((hG_11 39 (by decide))).trans (sOf_eq _ _ _)) ((fup_ne _ _ (by decide)).trans (fup_ne _ _ (by decide)))
        have e63_39_5 : g121_11 39 5 = ((h 39) 5) - (qS (h 41 x)) := rd_ (((hG_11 39 (by decide))).trans (sOf_eq _ _ _)) ((fup_ne _ _ (by decide)).trans (fup_eq _ _ _))
        have e64_39_6 : g121_11 39 6 = (h 39) 6 := rd_ (((hG_11 39 (by decide))).trans (sOf_eq _ _ _)) ((fup_ne _ _ (by decide)).trans (fup_ne _ _ (by decide)))
        have e65_39_7 : g121_11 39 7 = ((h 39) 7) - ((qS (h 41 x)) * 65536) := rd_ (((hG_11 39 (by decide))).trans (sOf_eq _ _ _)) (fup_eq _ _ _)
        exact L127_12 ((((15 : Int) - 0).toNat) + 1) 0 (h 42 x) (rmS fxC (h 43) (h 39 3) 15 (((h 39) 5) - (qS (h 41 x))) (((h 39) 7) - ((qS (h 41 x)) * 65536)) ((h 39) 6) ((h 39) 4)) g121_11 hT_11 hF_11 (by first | omega | (simp [up, setR] <;> omega)) (by first | omega | (simp [up, setR] <;> omega)) (by rewrite [e59_39_3]; first | omega | (simp [up, setR] <;> omega)) (by rewrite [e60_39_2]; first | omega | (simp [up, setR] <;> omega)) (by first | omega | (simp [up, setR] <;> omega)) (by rewrite [e61_39_7]; omega) (by rewrite [e62_39_4, e63_39_5, e64_39_6, e65_39_7]; exact RJ_0 (RQ_rd (x := x) (st := h 41) (P := lwC (h 39 7) < qS (h 41 x)) hrq ha5 hs (by first | exact (if_pos (by omega)).symm | exact (if_neg (by omega)).symm))) (by rw [l1_at121, l2_at121]; exact rdS_m (by omega) (by first | exact (if_pos (by omega)).symm | exact (if_neg (by omega)).symm) (by first | exact (if_pos (by omega)).symm | (rw [if_neg (by omega)]; omega)) (by omega) (by split <;> omega)) (Nat.lt_succ_self _)
      · refine TT_iconst hK dX6_tellBit_103 ?_
        refine TT_iload hK 0 rfl dX6_tellBit_104 ?_
        refine TT_isub hK dX6_tellBit_106 ?_
        refine TT_goto hK (tgt := 112) dX6_tellBit_107 (by decide) ?_
        refine TT_istore hK (lv' := [(5, vI (1 - (h 42 x))), (4, vI (h 42 x)), (3, vI (qS (h 41 x))), (0, vR 39), (1, vI x), (2, vI b)]) (by decide) rfl dX6_tellBit_112 ?_
        refine TT_aload_n hK rfl 3 rfl dX6_tellBit_114 ?_
        refine gf_X6_12 hK (by decide) rfl (q := 40) rfl rfl dX6_tellBit_115 ?_
        refine TT_iload_n hK rfl 4 rfl dX6_tellBit_118 ?_
        refine TT_iload hK 0 rfl dX6_tellBit_119 ?_
        refine iv_X6_71 hK (s_learn40_e x (1 - (h 42 x)) (setO g14_2 39 (fup (fup (h 39) 5 (((h 39) 5) - (qS (h 41 x)))) 7 (((h 39) 7) - ((qS (h 41 x)) * 65536)))) hT_7 (by first | omega | (simp [up, setR] <;> omega)) (by first | omega | (simp [up, setR] <;> omega))) (by decide) rfl ⟨by decide, by decide⟩ (by decide) rfl rfl (Nat.le_of_ble_eq_true rfl) ⟨by decide, by decide⟩ dX6_tellBit_121 ?_
        intro r9 g121_66 hp9
        obtain ⟨⟨hT_66, hG_66⟩, hr9, l1_66, l2_66⟩ := hp9
        rw [hr9]
        have hF_66 : FR [39, 41, 42] h g121_66 := FR_tr hF_7 hG_66 (by decide)
        rw [show (setO g14_2 39 (fup (fup (h 39) 5 (((h 39) 5) - (qS (h 41 x)))) 7 (((h 39) 7) - ((qS (h 41 x)) * 65536)))) 41 = h 41 from (sOf_ne _ _ (by decide)).trans (((hG_2 41 (by decide))).trans (hG_1 41 (by decide)))] at l1_66
        rw [show (setO g14_2 39 (fup (fup (h 39) 5 (((h 39) 5) - (qS (h 41 x)))) 7 (((h 39) 7) - ((qS (h 41 x)) * 65536)))) 42 = h 42 from (sOf_ne _ _ (by decide)).trans (((hG_2 42 (by decide))).trans (hG_1 42 (by decide)))] at l1_66
        rw [show (setO g14_2 39 (fup (fup (h 39) 5 (((h 39) 5) - (qS (h 41 x)))) 7 (((h 39) 7) - ((qS (h 41 x)) * 65536)))) 41 = h 41 from (sOf_ne _ _ (by decide)).trans (((hG_2 41 (by decide))).trans (hG_1 41 (by decide)))] at l2_66
        rw [show (setO g14_2 39 (fup (fup (h 39) 5 (((h 39) 5) - (qS (h 41 x)))) 7 (((h 39) 7) - ((qS (h 41 x)) * 65536)))) 42 = h 42 from (sOf_ne _ _ (by decide)).trans (((hG_2 42 (by decide))).trans (hG_1 42 (by decide)))] at l2_66
        have l1_at121 := l1_66
        have l2_at121 := l2_66
        show TT K ly 0 0 124 [(5, vI (1 - (h 42 x))), (4, vI (h 42 x)), (3, vI (qS (h 41 x))), (0, vR 39), (1, vI x), (2, vI b)] [] g121_66
        refine TT_iconst hK dX6_tellBit_124 ?_
        refine TT_istore hK (lv' := [(6, vI 0), (5, vI (1 - (h 42 x))), (4, vI (h 42 x)), (3, vI (qS (h 41 x))), (0, vR 39), (1, vI x), (2, vI b)]) (by decide) rfl dX6_tellBit_125 ?_
        have L127_67 : ∀ (k67 : Nat) (k : Int) (b9 : Int) (R9 : Int × Int × Int × Int) (w127_67 : Hp_), TY w127_67 → FR [39, 41, 42] h w127_67 → (0 ≤ k ∧ k ≤ 15) → (0 ≤ b9 ∧ b9 ≤ 1) → ((w127_67 39 3) = h 39 3) → ((w127_67 39 2) = h 39 2) → (k ≤ 15) → (0 ≤ (w127_67 39 7) ∧ (w127_67 39 7) ≤ 1099511627776) → (RJ_ fxC (h 43) (h 39 3) (15 - k).toNat (w127_67 39 5) (w127_67 39 7) (w127_67 39 6) (w127_67 39 4) R9) → (rdS lwC fxC (h 43) (h 39 3) ((h 39 5), (h 39 7), (h 39 6), (h 39 4), (h 41), (h 42)) x = (b9, R9.1, R9.2.1, R9.2.2.1, R9.2.2.2, (w127_67 41), (w127_67 42))) → ((15 : Int) - k).toNat < k67 → TT K ly 0 0 127 [(0, vR 39), (1, vI x), (5, vI b9), (6, vI k)] [] w127_67 := by
          intro k67
          induction k67 with
          | zero => intro k b9 R9 w127_67 hT127_67 hF127_67 hk hb9 k3 k2 hk15 hcb hM hR hk67; exact absurd hk67 (Nat.not_lt_zero _)
          | succ k67 ih67 =>
            intro k b9 R9 w127_67 hT127_67 hF127_67 hk hb9 k3 k2 hk15 hcb hM hR hk67
            have hcr := hM.2.2
            obtain ⟨m1, m2, m3, m4, m5, m6⟩ := hcr
            refine TT_iload hK 3 rfl dX6_tellBit_127 ?_
            refine TT_bipush hK (by decide) dX6_tellBit_129 ?_
            refine TT_icmp_ge hK (tgt := 196) (irm (by omega) (by omega)) (by decide) dX6_tellBit_131 (by decide) (fun hb131_68 => ?_) (fun hb131_68 => ?_)
            · refine TT_iload hK 2 rfl dX6_tellBit_196 ?_
              refine TT_iret hK hQ ?_ dX6_tellBit_198
              have e69_39_4 : w127_67 39 4 = (w127_67 39) 4 := rfl
              have e70_39_5 : w127_67 39 5 = (w127_67 39) 5 := rfl
              have e71_39_6 : w127_67 39 6 = (w127_67 39) 6 := rfl
              have e72_39_7 : w127_67 39 7 = (w127_67 39) 7 := rfl
              have e73_39_2 : w127_67 39 2 = (w127_67 39) 2 := rfl
              have e74_39_3 : w127_67 39 3 = (w127_67 39) 3 := rfl
              exact ⟨⟨hT127_67, hF127_67⟩, b9, rfl, (by omega), (by rewrite [e69_39_4, e70_39_5, e71_39_6, e72_39_7]; first | (obtain ⟨u4, u5, u6, u7, u8, u9⟩ := hrq; exact ⟨rdS_1c (by omega) (by omega) (by omega) (by omega), ⟨by omega, by omega, by omega, by omega, by omega, by omega⟩, by omega, by omega⟩) | (have hd := RJ_done hM (by first | omega | (have h0 : (15 - k).toNat = 0 := (by omega); rw [h0] at hM; exact RJ_z hM)); exact ⟨by rw [hR, ← hd], hM.2.2, by omega, by first | omega | (have h0 : (15 - k).toNat = 0 := (by omega); rw [h0] at hM; exact RJ_z hM)⟩)), (by rewrite [e73_39_2, e74_39_3]; omega)⟩
            · refine TT_aload_n hK rfl 0 rfl dX6_tellBit_134 ?_
              refine gf_X6_60 hK (by decide) rfl (v := (w127_67 39) 5) rfl dX6_tellBit_135 ?_
              have r75 := ty_39_5 (v := (w127_67 39) 5) hT127_67 rfl
              refine TT_ldc hK lc_X6_59 dX6_tellBit_138 ?_
              refine TT_icmp_ge hK (tgt := 196) (irm (by omega) (by omega)) (by decide) dX6_tellBit_140 (by decide) (fun hb140_76 => ?_) (fun hb140_76 => ?_)
              · refine TT_iload hK 2 rfl dX6_tellBit_196 ?_
                refine TT_iret hK hQ ?_ dX6_tellBit_198
                have e77_39_4 : w127_67 39 4 = (w127_67 39) 4 := rfl
                have e78_39_5 : w127_67 39 5 = (w127_67 39) 5 := rfl
                have e79_39_6 : w127_67 39 6 = (w127_67 39) 6 := rfl
                have e80_39_7 : w127_67 39 7 = (w127_67 39) 7 := rfl
                have e81_39_2 : w127_67 39 2 = (w127_67 39) 2 := rfl
                have e82_39_3 : w127_67 39 3 = (w127_67 39) 3 := rfl
                exact ⟨⟨hT127_67, hF127_67⟩, b9, rfl, (by omega), (by rewrite [e77_39_4, e78_39_5, e79_39_6, e80_39_7]; first | (obtain ⟨u4, u5, u6, u7, u8, u9⟩ := hrq; exact ⟨rdS_1c (by omega) (by omega) (by omega) (by omega), ⟨by omega, by omega, by omega, by omega, by omega, by omega⟩, by omega, by omega⟩) | (have hd := RJ_done hM (by first | omega | (have h0 : (15 - k).toNat = 0 := (by omega); rw [h0] at hM; exact RJ_z hM)); exact ⟨by rw [hR, ← hd], hM.2.2, by omega, by first | omega | (have h0 : (15 - k).toNat = 0 := (by omega); rw [h0] at hM; exact RJ_z hM)⟩)), (by rewrite [e81_39_2, e82_39_3]; omega)⟩
              · refine TT_aload_n hK rfl 0 rfl dX6_tellBit_143 ?_
                refine gf_X6_56 hK (by decide) rfl (v := (w127_67 39) 6) rfl dX6_tellBit_144 ?_
                have r83 := ty_39_6 (v := (w127_67 39) 6) hT127_67 rfl
                refine TT_if_ne hK (tgt := 154) (irm (by omega) (by omega)) dX6_tellBit_147 (by decide) (fun hb147_84 => ?_) (fun hb147_84 => ?_)
                · 
                  refine TT_aload_n hK rfl 0 rfl dX6_tellBit_154 ?_
                  refine TT_dup hK rfl dX6_tellBit_155 ?_
                  refine gf_X6_60 hK (by decide) rfl (v := (w127_67 39) 5) rfl dX6_tellBit_156 ?_
                  refine TT_iconst hK dX6_tellBit_159 ?_
                  refine TT_ishl hK (by omega) (by omega) dX6_tellBit_160 ?_
                  refine TT_cgI (b := ((w127_67 39) 5) * 2) rfl ?_
                  refine TT_cgI (b := 2 * ((w127_67 39) 5)) (by omega) ?_
                  refine pf_X6_60 hK (by decide) rfl dX6_tellBit_161 ?_
                  refine TT_hp (h' := setO w127_67 39 (fup (w127_67 39) 5 (2 * ((w127_67 39) 5)))) (up_can rfl rfl rfl) ?_
                  have hT_85 : TY (setO w127_67 39 (fup (w127_67 39) 5 (2 * ((w127_67 39) 5)))) := tu_39_5 hT127_67 (show up w127_67 39 5 (2 * ((w127_67 39) 5)) = (setO w127_67 39 (fup (w127_67 39) 5 (2 * ((w127_67 39) 5)))) from up_can rfl rfl rfl) (by omega)
                  have hF_85 : FR [39, 41, 42] h (setO w127_67 39 (fup (w127_67 39) 5 (2 * ((w127_67 39) 5)))) := FR_up (show up w127_67 39 5 (2 * ((w127_67 39) 5)) = (setO w127_67 39 (fup (w127_67 39) 5 (2 * ((w127_67 39) 5)))) from up_can rfl rfl rfl) hF127_67 (by decide)
                  refine TT_aload_n hK rfl 0 rfl dX6_tellBit_164 ?_
                  refine TT_aload_n hK rfl 0 rfl dX6_tellBit_165 ?_
                  refine gf_X6_49 hK (by decide) rfl (v := (w127_67 39) 7) (rd_ (sOf_eq _ _ _) (fup_ne _ _ (by decide))) dX6_tellBit_166 ?_
                  have r86 := ty_39_7 (v := (w127_67 39) 7) hT_85 (rd_ (sOf_eq _ _ _) (fup_ne _ _ (by decide)))
                  refine TT_iconst hK dX6_tellBit_169 ?_
                  refine TT_lshl hK (by decide) dX6_tellBit_170 ?_
                  refine TT_cgJ (b := ((w127_67 39) 7) * 2) rfl ?_
                  refine TT_cgJ (b := 2 * ((w127_67 39) 7)) (by omega) ?_
                  refine TT_ldc2 hK lc_X6_75 dX6_tellBit_171 ?_
                  refine TT_mminl hK (lrm (by omega) (by omega)) (by decide) iw_X6_77 (by decide) (Nat.le_of_ble_eq_true rfl) ⟨by decide, by decide⟩ dX6_tellBit_174 ?_
                  have fx9 := fxC_r (c := 2 * ((w127_67 39) 7)) (by omega)
                  refine TT_cgJ (b := fxC (2 * ((w127_67 39) 7))) (by rfl) ?_
                  refine pf_X6_49 hK (by decide) rfl dX6_tellBit_177 ?_
                  refine TT_hp (h' := setO w127_67 39 (fup (fup (w127_67 39) 5 (2 * ((w127_67 39) 5))) 7 (fxC (2 * ((w127_67 39) 7))))) (up_can (sOf_eq _ _ _) rfl (setO_same _ _ _ _)) ?_
                  have hT_87 : TY (setO w127_67 39 (fup (fup (w127_67 39) 5 (2 * ((w127_67 39) 5))) 7 (fxC (2 * ((w127_67 39) 7))))) := tu_39_7 hT_85 (show up (setO w127_67 39 (fup (w127_67 39) 5 (2 * ((w127_67 39) 5)))) 39 7 (fxC (2 * ((w127_67 39) 7))) = (setO w127_67 39 (fup (fup (w127_67 39) 5 (2 * ((w127_67 39) 5))) 7 (fxC (2 * ((w127_67 39) 7))))) from up_can (sOf_eq _ _ _) rfl (setO_same _ _ _ _)) (by omega)
                  have hF_87 : FR [39, 41, 42] h (setO w127_67 39 (fup (fup (w127_67 39) 5 (2 * ((w127_67 39) 5))) 7 (fxC (2 * ((w127_67 39) 7))))) := FR_up (show up (setO w127_67 39 (fup (w127_67 39) 5 (2 * ((w127_67 39) 5)))) 39 7 (fxC (2 * ((w127_67 39) 7))) = (setO w127_67 39 (fup (fup (w127_67 39) 5 (2 * ((w127_67 39) 5))) 7 (fxC (2 * ((w127_67 39) 7))))) from up_can (sOf_eq _ _ _) rfl (setO_same _ _ _ _)) hF_85 (by decide)
                  refine TT_aload_n hK rfl 0 rfl dX6_tellBit_180 ?_
                  refine TT_dup hK rfl dX6_tellBit_181 ?_
                  refine gf_X6_56 hK (by decide) rfl (v := (w127_67 39) 6) (rd_ (sOf_eq _ _ _) ((fup_ne _ _ (by decide)).trans (fup_ne _ _ (by decide)))) dX6_tellBit_182 ?_
                  refine TT_iconst hK dX6_tellBit_185 ?_
                  refine TT_isub hK dX6_tellBit_186 ?_
                  refine pf_X6_56 hK (by decide) rfl dX6_tellBit_187 ?_
                  refine TT_hp (h' := setO w127_67 39 (fup (fup (fup (w127_67 39) 5 (2 * ((w127_67 39) 5))) 6 (((w127_67 39) 6) - 1)) 7 (fxC (2 * ((w127_67 39) 7))))) (up_can (sOf_eq _ _ _) (fup_comm _ _ _ (by decide)) (setO_same _ _ _ _)) ?_
                  have hT_88 : TY (setO w127_67 39 (fup (fup (fup (w127_67 39) 5 (2 * ((w127_67 39) 5))) 6 (((w127_67 39) 6) - 1)) 7 (fxC (2 * ((w127_67 39) 7))))) := tu_39_6 hT_87 (show up (setO w127_67 39 (fup (fup (w127_67 39) 5 (2 * ((w127_67 39) 5))) 7 (fxC (2 * ((w127_67 39) 7))))) 39 6 (((w127_67 39) 6) - 1) = (setO w127_67 39 (fup (fup (fup (w127_67 39) 5 (2 * ((w127_67 39) 5))) 6 (((w127_67 39) 6) - 1)) 7 (fxC (2 * ((w127_67 39) 7))))) from up_can (sOf_eq _ _ _) (fup_comm _ _ _ (by decide)) (setO_same _ _ _ _)) (by omega)
                  have hF_88 : FR [39, 41, 42] h (setO w127_67 39 (fup (fup (fup (w127_67 39) 5 (2 * ((w127_67 39) 5))) 6 (((w127_67 39) 6) - 1)) 7 (fxC (2 * ((w127_67 39) 7))))) := FR_up (show up (setO w127_67 39 (fup (fup (w127_67 39) 5 (2 * ((w127_67 39) 5))) 7 (fxC (2 * ((w127_67 39) 7))))) 39 6 (((w127_67 39) 6) - 1) = (setO w127_67 39 (fup (fup (fup (w127_67 39) 5 (2 * ((w127_67 39) 5))) 6 (((w127_67 39) 6) - 1)) 7 (fxC (2 * ((w127_67 39) 7))))) from up_can (sOf_eq _ _ _) (fup_comm _ _ _ (by decide)) (setO_same _ _ _ _)) hF_87 (by decide)
                  refine TT_iinc hK (v := k + 1) (lv' := [(6, vI (k + 1)), (0, vR 39), (1, vI x), (5, vI b9)]) 3 rfl rfl (by decide) rfl dX6_tellBit_190 ?_
                  refine TT_goto hK (tgt := 127) dX6_tellBit_193 (by decide) ?_
                  refine TT_sub [1, 2, 3, 0] rfl ?_
                  have e89_39_3 : (setO w127_67 39 (fup (fup (fup (w127_67 39) 5 (2 * ((w127_67 39) 5))) 6 (((w127_67 39) 6) - 1)) 7 (fxC (2 * ((w127_67 39) 7))))) 39 3 = (w127_67 39) 3 := rd_ (sOf_eq _ _ _) ((fup_ne _ _ (by decide)).trans ((fup_ne _ _ (by decide)).trans (fup_ne _ _ (by decide))))
                  have e90_39_2 : (setO w127_67 39 (fup (fup (fup (w127_67 39) 5 (2 * ((w127_67 39) 5))) 6 (((w127_67 39) 6) - 1)) 7 (fxC (2 * ((w127_67 39) 7))))) 39 2 = (w127_67 39) 2 := rd_ (sOf_eq _ _ _) ((fup_ne _ _ (by decide)).trans ((fup_ne _ _ (by decide)).trans (fup_ne _ _ (by decide))))
                  have e91_39_7 : (setO w127_67 39 (fup (fup (fup (w127_67 39) 5 (2 * ((w127_67 39) 5))) 6 (((w127_67 39) 6) - 1)) 7 (fxC (2 * ((w127_67 39) 7))))) 39 7 = fxC (2 * ((w127_67 39) 7)) := rd_ (sOf_eq _ _ _) (fup_eq _ _ _)
                  have e92_39_4 : (setO w127_67 39 (fup (fup (fup (w127_67 39) 5 (2 * ((w127_67 39) 5))) 6 (((w127_67 39) 6) - 1)) 7 (fxC (2 * ((w127_67 39) 7))))) 39 4 = (w127_67 39) 4 := rd_ (sOf_eq _ _ _) ((fup_ne _ _ (by decide)).trans ((fup_ne _ _ (by decide)).trans (fup_ne _ _ (by decide))))
                  have e93_39_5 : (setO w127_67 39 (fup (fup (fup (w127_67 39) 5 (2 * ((w127_67 39) 5))) 6 (((w127_67 39) 6) - 1)) 7 (fxC (2 * ((w127_67 39) 7))))) 39 5 = 2 * ((w127_67 39) 5) := rd_ (sOf_eq _ _ _) ((fup_ne _ _ (by decide)).trans ((fup_ne _ _ (by decide)).trans (fup_eq _ _ _)))
                  have e94_39_6 : (setO w127_67 39 (fup (fup (fup (w127_67 39) 5 (2 * ((w127_67 39) 5))) 6 (((w127_67 39) 6) - 1)) 7 (fxC (2 * ((w127_67 39) 7))))) 39 6 = ((w127_67 39) 6) - 1 := rd_ (sOf_eq _ _ _) ((fup_ne _ _ (by decide)).trans (fup_eq _ _ _))
                  have e95_39_7 : (setO w127_67 39 (fup (fup (fup (w127_67 39) 5 (2 * ((w127_67 39) 5))) 6 (((w127_67 39) 6) - 1)) 7 (fxC (2 * ((w127_67 39) 7))))) 39 7 = fxC (2 * ((w127_67 39) 7)) := rd_ (sOf_eq _ _ _) (fup_eq _ _ _)
                  have e96_41 : (setO w127_67 39 (fup (fup (fup (w127_67 39) 5 (2 * ((w127_67 39) 5))) 6 (((w127_67 39) 6) - 1)) 7 (fxC (2 * ((w127_67 39) 7))))) 41 = w127_67 41 := sOf_ne _ _ (by decide)
                  have e97_42 : (setO w127_67 39 (fup (fup (fup (w127_67 39) 5 (2 * ((w127_67 39) 5))) 6 (((w127_67 39) 6) - 1)) 7 (fxC (2 * ((w127_67 39) 7))))) 42 = w127_67 42 := sOf_ne _ _ (by decide)
                  exact ih67 (k + 1) b9 R9 (setO w127_67 39 (fup (fup (fup (w127_67 39) 5 (2 * ((w127_67 39) 5))) 6 (((w127_67 39) 6) - 1)) 7 (fxC (2 * ((w127_67 39) 7))))) hT_88 hF_88 (by first | omega | (simp [up, setR] <;> omega)) (by first | omega | (simp [up, setR] <;> omega)) (by rewrite [e89_39_3]; first | omega | (simp [up, setR] <;> omega)) (by rewrite [e90_39_2]; first | omega | (simp [up, setR] <;> omega)) (by first | omega | (simp [up, setR] <;> omega)) (by rewrite [e91_39_7]; unfold fxC; omega) (by rewrite [e92_39_4, e93_39_5, e94_39_6, e95_39_7]; have h1 : (15 - k).toNat = (15 - (k + 1)).toNat + 1 := (by omega); rw [h1] at hM; first | exact RJ_next hM (by omega) (by omega) rfl) (by rewrite [e96_41, e97_42]; exact hR) (by first | omega | (simp [up, setR] <;> omega))
                · refine TT_aload_n hK rfl 0 rfl dX6_tellBit_150 ?_
                  refine iv_X6_53 hK (s_comeIn_e w127_67 hT127_67 ) (by decide) rfl ⟨by decide, by decide⟩ (by decide) rfl rfl (Nat.le_of_ble_eq_true rfl) ⟨by decide, by decide⟩ dX6_tellBit_151 ?_
                  intro r9 g151_98 hp9
                  obtain ⟨⟨hT_98, hG_98⟩, hr9, p1_98, in_98, ck_98⟩ := hp9
                  rw [hr9]
                  have hF_98 : FR [39, 41, 42] h g151_98 := FR_tr hF127_67 hG_98 (by decide)
                  rw [show w127_67 39 3 = (w127_67 39) 3 from rfl] at in_98
                  rw [show w127_67 39 4 = (w127_67 39) 4 from rfl] at in_98
                  rw [show w127_67 39 7 = (w127_67 39) 7 from rfl] at in_98
                  rw [show w127_67 43 = h 43 from (hF127_67 43 (by decide))] at in_98
                  rw [show w127_67 39 2 = (w127_67 39) 2 from rfl] at ck_98
                  rw [show w127_67 39 3 = (w127_67 39) 3 from rfl] at ck_98
                  rw [show w127_67 39 5 = (w127_67 39) 5 from rfl] at ck_98
                  have in_at151 := in_98
                  have ck_at151 := ck_98
                  show TT K ly 0 0 154 [(0, vR 39), (1, vI x), (5, vI b9), (6, vI k)] [] g151_98
                  have i9r := inS_rr (by rw [k3]; exact hsr) (by omega) (by omega) (in_at151 (by omega))
                  refine TT_aload_n hK rfl 0 rfl dX6_tellBit_154 ?_
                  refine TT_dup hK rfl dX6_tellBit_155 ?_
                  refine gf_X6_60 hK (by decide) rfl (v := (g151_98 39) 5) rfl dX6_tellBit_156 ?_
                  have r99 := ty_39_5 (v := (g151_98 39) 5) hT_98 rfl
                  refine TT_iconst hK dX6_tellBit_159 ?_
                  refine TT_ishl hK (by omega) (by omega) dX6_tellBit_160 ?_
                  refine TT_cgI (b := ((g151_98 39) 5) * 2) rfl ?_
                  refine TT_cgI (b := 2 * ((g151_98 39) 5)) (by omega) ?_
                  refine pf_X6_60 hK (by decide) rfl dX6_tellBit_161 ?_
                  refine TT_hp (h' := setO g151_98 39 (fup (g151_98 39) 5 (2 * ((g151_98 39) 5)))) (up_can rfl rfl rfl) ?_
                  have hT_100 : TY (setO g151_98 39 (fup (g151_98 39) 5 (2 * ((g151_98 39) 5)))) := tu_39_5 hT_98 (show up g151_98 39 5 (2 * ((g151_98 39) 5)) = (setO g151_98 39 (fup (g151_98 39) 5 (2 * ((g151_98 39) 5)))) from up_can rfl rfl rfl) (by omega)
                  have hF_100 : FR [39, 41, 42] h (setO g151_98 39 (fup (g151_98 39) 5 (2 * ((g151_98 39) 5)))) := FR_up (show up g151_98 39 5 (2 * ((g151_98 39) 5)) = (setO g151_98 39 (fup (g151_98 39) 5 (2 * ((g151_98 39) 5)))) from up_can rfl rfl rfl) hF_98 (by decide)
                  refine TT_aload_n hK rfl 0 rfl dX6_tellBit_164 ?_
                  refine TT_aload_n hK rfl 0 rfl dX6_tellBit_165 ?_
                  refine gf_X6_49 hK (by decide) rfl (v := (g151_98 39) 7) (rd_ (sOf_eq _ _ _) (fup_ne _ _ (by decide))) dX6_tellBit_166 ?_
                  have r101 := ty_39_7 (v := (g151_98 39) 7) hT_100 (rd_ (sOf_eq _ _ _) (fup_ne _ _ (by decide)))
                  refine TT_iconst hK dX6_tellBit_169 ?_
                  refine TT_lshl hK (by decide) dX6_tellBit_170 ?_
                  refine TT_cgJ (b := ((g151_98 39) 7) * 2) rfl ?_
                  refine TT_cgJ (b := 2 * ((g151_98 39) 7)) (by omega) ?_
                  refine TT_ldc2 hK lc_X6_75 dX6_tellBit_171 ?_
                  refine TT_mminl hK (lrm (by omega) (by omega)) (by decide) iw_X6_77 (by decide) (Nat.le_of_ble_eq_true rfl) ⟨by decide, by decide⟩ dX6_tellBit_174 ?_
                  have fx9 := fxC_r (c := 2 * ((g151_98 39) 7)) (by omega)
                  refine TT_cgJ (b := fxC (2 * ((g151_98 39) 7))) (by rfl) ?_
                  refine pf_X6_49 hK (by decide) rfl dX6_tellBit_177 ?_
                  refine TT_hp (h' := setO g151_98 39 (fup (fup (g151_98 39) 5 (2 * ((g151_98 39) 5))) 7 (fxC (2 * ((g151_98 39) 7))))) (up_can (sOf_eq _ _ _) rfl (setO_same _ _ _ _)) ?_
                  have hT_102 : TY (setO g151_98 39 (fup (fup (g151_98 39) 5 (2 * ((g151_98 39) 5))) 7 (fxC (2 * ((g151_98 39) 7))))) := tu_39_7 hT_100 (show up (setO g151_98 39 (fup (g151_98 39) 5 (2 * ((g151_98 39) 5)))) 39 7 (fxC (2 * ((g151_98 39) 7))) = (setO g151_98 39 (fup (fup (g151_98 39) 5 (2 * ((g151_98 39) 5))) 7 (fxC (2 * ((g151_98 39) 7))))) from up_can (sOf_eq _ _ _) rfl (setO_same _ _ _ _)) (by omega)
                  have hF_102 : FR [39, 41, 42] h (setO g151_98 39 (fup (fup (g151_98 39) 5 (2 * ((g151_98 39) 5))) 7 (fxC (2 * ((g151_98 39) 7))))) := FR_up (show up (setO g151_98 39 (fup (g151_98 39) 5 (2 * ((g151_98 39) 5)))) 39 7 (fxC (2 * ((g151_98 39) 7))) = (setO g151_98 39 (fup (fup (g151_98 39) 5 (2 * ((g151_98 39) 5))) 7 (fxC (2 * ((g151_98 39) 7))))) from up_can (sOf_eq _ _ _) rfl (setO_same _ _ _ _)) hF_100 (by decide)
                  refine TT_aload_n hK rfl 0 rfl dX6_tellBit_180 ?_
                  refine TT_dup hK rfl dX6_tellBit_181 ?_
                  refine gf_X6_56 hK (by decide) rfl (v := (g151_98 39) 6) (rd_ (sOf_eq _ _ _) ((fup_ne _ _ (by decide)).trans (fup_ne _ _ (by decide)))) dX6_tellBit_182 ?_
                  have r103 := ty_39_6 (v := (g151_98 39) 6) hT_102 (rd_ (sOf_eq _ _ _) ((fup_ne _ _ (by decide)).trans (fup_ne _ _ (by decide))))
                  refine TT_iconst hK dX6_tellBit_185 ?_
                  refine TT_isub hK dX6_tellBit_186 ?_
                  refine pf_X6_56 hK (by decide) rfl dX6_tellBit_187 ?_
                  refine TT_hp (h' := setO g151_98 39 (fup (fup (fup (g151_98 39) 5 (2 * ((g151_98 39) 5))) 6 (((g151_98 39) 6) - 1)) 7 (fxC (2 * ((g151_98 39) 7))))) (up_can (sOf_eq _ _ _) (fup_comm _ _ _ (by decide)) (setO_same _ _ _ _)) ?_
                  have hT_104 : TY (setO g151_98 39 (fup (fup (fup (g151_98 39) 5 (2 * ((g151_98 39) 5))) 6 (((g151_98 39) 6) - 1)) 7 (fxC (2 * ((g151_98 39) 7))))) := tu_39_6 hT_102 (show up (setO g151_98 39 (fup (fup (g151_98 39) 5 (2 * ((g151_98 39) 5))) 7 (fxC (2 * ((g151_98 39) 7))))) 39 6 (((g151_98 39) 6) - 1) = (setO g151_98 39 (fup (fup (fup (g151_98 39) 5 (2 * ((g151_98 39) 5))) 6 (((g151_98 39) 6) - 1)) 7 (fxC (2 * ((g151_98 39) 7))))) from up_can (sOf_eq _ _ _) (fup_comm _ _ _ (by decide)) (setO_same _ _ _ _)) (by omega)
                  have hF_104 : FR [39, 41, 42] h (setO g151_98 39 (fup (fup (fup (g151_98 39) 5 (2 * ((g151_98 39) 5))) 6 (((g151_98 39) 6) - 1)) 7 (fxC (2 * ((g151_98 39) 7))))) := FR_up (show up (setO g151_98 39 (fup (fup (g151_98 39) 5 (2 * ((g151_98 39) 5))) 7 (fxC (2 * ((g151_98 39) 7))))) 39 6 (((g151_98 39) 6) - 1) = (setO g151_98 39 (fup (fup (fup (g151_98 39) 5 (2 * ((g151_98 39) 5))) 6 (((g151_98 39) 6) - 1)) 7 (fxC (2 * ((g151_98 39) 7))))) from up_can (sOf_eq _ _ _) (fup_comm _ _ _ (by decide)) (setO_same _ _ _ _)) hF_102 (by decide)
                  refine TT_iinc hK (v := k + 1) (lv' := [(6, vI (k + 1)), (0, vR 39), (1, vI x), (5, vI b9)]) 3 rfl rfl (by decide) rfl dX6_tellBit_190 ?_
                  refine TT_goto hK (tgt := 127) dX6_tellBit_193 (by decide) ?_
                  refine TT_sub [1, 2, 3, 0] rfl ?_
                  have e105_39_3 : (setO g151_98 39 (fup (fup (fup (g151_98 39) 5 (2 * ((g151_98 39) 5))) 6 (((g151_98 39) 6) - 1)) 7 (fxC (2 * ((g151_98 39) 7))))) 39 3 = (g151_98 39) 3 := rd_ (sOf_eq _ _ _) ((fup_ne _ _ (by decide)).trans ((fup_ne _ _ (by decide)).trans (fup_ne _ _ (by decide))))
                  have e106_39_2 : (setO g151_98 39 (fup (fup (fup (g151_98 39) 5 (2 * ((g151_98 39) 5))) 6 (((g151_98 39) 6) - 1)) 7 (fxC (2 * ((g151_98 39) 7))))) 39 2 = (g151_98 39) 2 := rd_ (sOf_eq _ _ _) ((fup_ne _ _ (by decide)).trans ((fup_ne _ _ (by decide)).trans (fup_ne _ _ (by decide))))
                  have e107_39_7 : (setO g151_98 39 (fup (fup (fup (g151_98 39) 5 (2 * ((g151_98 39) 5))) 6 (((g151_98 39) 6) - 1)) 7 (fxC (2 * ((g151_98 39) 7))))) 39 7 = fxC (2 * ((g151_98 39) 7)) := rd_ (sOf_eq _ _ _) (fup_eq _ _ _)
                  have e108_39_4 : (setO g151_98 39 (fup (fup (fup (g151_98 39) 5 (2 * ((g151_98 39) 5))) 6 (((g151_98 39) 6) - 1)) 7 (fxC (2 * ((g151_98 39) 7))))) 39 4 = (g151_98 39) 4 := rd_ (sOf_eq _ _ _) ((fup_ne _ _ (by decide)).trans ((fup_ne _ _ (by decide)).trans (fup_ne _ _ (by decide))))
                  have e109_39_5 : (setO g151_98 39 (fup (fup (fup (g151_98 39) 5 (2 * ((g151_98 39) 5))) 6 (((g151_98 39) 6) - 1)) 7 (fxC (2 * ((g151_98 39) 7))))) 39 5 = 2 * ((g151_98 39) 5) := rd_ (sOf_eq _ _ _) ((fup_ne _ _ (by decide)).trans ((fup_ne _ _ (by decide)).trans (fup_eq _ _ _)))
                  have e110_39_6 : (setO g151_98 39 (fup (fup (fup (g151_98 39) 5 (2 * ((g151_98 39) 5))) 6 (((g151_98 39) 6) - 1)) 7 (fxC (2 * ((g151_98 39) 7))))) 39 6 = ((g151_98 39) 6) - 1 := rd_ (sOf_eq _ _ _) ((fup_ne _ _ (by decide)).trans (fup_eq _ _ _))
                  have e111_39_7 : (setO g151_98 39 (fup (fup (fup (g151_98 39) 5 (2 * ((g151_98 39) 5))) 6 (((g151_98 39) 6) - 1)) 7 (fxC (2 * ((g151_98 39) 7))))) 39 7 = fxC (2 * ((g151_98 39) 7)) := rd_ (sOf_eq _ _ _) (fup_eq _ _ _)
                  have e112_41 : (setO g151_98 39 (fup (fup (fup (g151_98 39) 5 (2 * ((g151_98 39) 5))) 6 (((g151_98 39) 6) - 1)) 7 (fxC (2 * ((g151_98 39) 7))))) 41 = w127_67 41 := (sOf_ne _ _ (by decide)).trans (hG_98 41 (by decide))
                  have e113_42 : (setO g151_98 39 (fup (fup (fup (g151_98 39) 5 (2 * ((g151_98 39) 5))) 6 (((g151_98 39) 6) - 1)) 7 (fxC (2 * ((g151_98 39) 7))))) 42 = w127_67 42 := (sOf_ne _ _ (by decide)).trans (hG_98 42 (by decide))
                  exact ih67 (k + 1) b9 R9 (setO g151_98 39 (fup (fup (fup (g151_98 39) 5 (2 * ((g151_98 39) 5))) 6 (((g151_98 39) 6) - 1)) 7 (fxC (2 * ((g151_98 39) 7))))) hT_104 hF_104 (by first | omega | (simp [up, setR] <;> omega)) (by first | omega | (simp [up, setR] <;> omega)) (by rewrite [e105_39_3]; first | omega | (simp [up, setR] <;> omega)) (by rewrite [e106_39_2]; first | omega | (simp [up, setR] <;> omega)) (by first | omega | (simp [up, setR] <;> omega)) (by rewrite [e107_39_7]; unfold fxC; omega) (by rewrite [e108_39_4, e109_39_5, e110_39_6, e111_39_7]; have h1 : (15 - k).toNat = (15 - (k + 1)).toNat + 1 := (by omega); rw [h1] at hM; first | exact RJ_next hM (by omega) (by omega) rfl | (rw [ck_at151.2.2]; exact RJK_in hsr hM (by omega) (by omega) (by have i9 := in_at151 (by omega); rw [k3] at i9; exact i9) rfl)) (by rewrite [e112_41, e113_42]; exact hR) (by first | omega | (simp [up, setR] <;> omega))
        refine TT_sub [4, 5, 1, 0] rfl ?_
        have e114_39_3 : g121_66 39 3 = (h 39) 3 := rd_ (((hG_66 39 (by decide))).trans (sOf_eq _ _ _)) ((fup_ne _ _ (by decide)).trans (fup_ne _ _ (by decide)))
        have e115_39_2 : g121_66 39 2 = (h 39) 2 := rd_ (((hG_66 39 (by decide))).trans (sOf_eq _ _ _)) ((fup_ne _ _ (by decide)).trans (fup_ne _ _ (by decide)))
        have e116_39_7 : g121_66 39 7 = ((h 39) 7) - ((qS (h 41 x)) * 65536) := rd_ (((hG_66 39 (by decide))).trans (sOf_eq _ _ _)) (fup_eq _ _ _)
        have e117_39_4 : g121_66 39 4 = (h 39) 4 := rd_ (((hG_66 39 (by decide))).trans (sOf_eq _ _ _)) ((fup_ne _ _ (by decide)).trans (fup_ne _ _ (by decide)))
        have e118_39_5 : g121_66 39 5 = ((h 39) 5) - (qS (h 41 x)) := rd_ (((hG_66 39 (by decide))).trans (sOf_eq _ _ _)) ((fup_ne _ _ (by decide)).trans (fup_eq _ _ _))
        have e119_39_6 : g121_66 39 6 = (h 39) 6 := rd_ (((hG_66 39 (by decide))).trans (sOf_eq _ _ _)) ((fup_ne _ _ (by decide)).trans (fup_ne _ _ (by decide)))
        have e120_39_7 : g121_66 39 7 = ((h 39) 7) - ((qS (h 41 x)) * 65536) := rd_ (((hG_66 39 (by decide))).trans (sOf_eq _ _ _)) (fup_eq _ _ _)
        exact L127_67 ((((15 : Int) - 0).toNat) + 1) 0 (1 - (h 42 x)) (rmS fxC (h 43) (h 39 3) 15 (((h 39) 5) - (qS (h 41 x))) (((h 39) 7) - ((qS (h 41 x)) * 65536)) ((h 39) 6) ((h 39) 4)) g121_66 hT_66 hF_66 (by first | omega | (simp [up, setR] <;> omega)) (by first | omega | (simp [up, setR] <;> omega)) (by rewrite [e114_39_3]; first | omega | (simp [up, setR] <;> omega)) (by rewrite [e115_39_2]; first | omega | (simp [up, setR] <;> omega)) (by first | omega | (simp [up, setR] <;> omega)) (by rewrite [e116_39_7]; omega) (by rewrite [e117_39_4, e118_39_5, e119_39_6, e120_39_7]; exact RJ_0 (RQ_rd (x := x) (st := h 41) (P := lwC (h 39 7) < qS (h 41 x)) hrq ha5 hs (by first | exact (if_pos (by omega)).symm | exact (if_neg (by omega)).symm))) (by rw [l1_at121, l2_at121]; exact rdS_m (by omega) (by first | exact (if_pos (by omega)).symm | exact (if_neg (by omega)).symm) (by first | exact (if_pos (by omega)).symm | (rw [if_neg (by omega)]; omega)) (by omega) (by split <;> omega)) (Nat.lt_succ_self _)
    · refine TT_iload hK 0 rfl dX6_tellBit_92 ?_
      refine TT_iret hK hQ ?_ dX6_tellBit_94
      have e121_39_4 : (setO g14_2 39 (fup (fup (h 39) 5 (((h 39) 5) - (qS (h 41 x)))) 7 (((h 39) 7) - ((qS (h 41 x)) * 65536)))) 39 4 = (h 39) 4 := rd_ (sOf_eq _ _ _) ((fup_ne _ _ (by decide)).trans (fup_ne _ _ (by decide)))
      have e122_39_5 : (setO g14_2 39 (fup (fup (h 39) 5 (((h 39) 5) - (qS (h 41 x)))) 7 (((h 39) 7) - ((qS (h 41 x)) * 65536)))) 39 5 = ((h 39) 5) - (qS (h 41 x)) := rd_ (sOf_eq _ _ _) ((fup_ne _ _ (by decide)).trans (fup_eq _ _ _))
      have e123_39_6 : (setO g14_2 39 (fup (fup (h 39) 5 (((h 39) 5) - (qS (h 41 x)))) 7 (((h 39) 7) - ((qS (h 41 x)) * 65536)))) 39 6 = (h 39) 6 := rd_ (sOf_eq _ _ _) ((fup_ne _ _ (by decide)).trans (fup_ne _ _ (by decide)))
      have e124_39_7 : (setO g14_2 39 (fup (fup (h 39) 5 (((h 39) 5) - (qS (h 41 x)))) 7 (((h 39) 7) - ((qS (h 41 x)) * 65536)))) 39 7 = ((h 39) 7) - ((qS (h 41 x)) * 65536) := rd_ (sOf_eq _ _ _) (fup_eq _ _ _)
      have e125_41 : (setO g14_2 39 (fup (fup (h 39) 5 (((h 39) 5) - (qS (h 41 x)))) 7 (((h 39) 7) - ((qS (h 41 x)) * 65536)))) 41 = h 41 := (sOf_ne _ _ (by decide)).trans (((hG_2 41 (by decide))).trans (hG_1 41 (by decide)))
      have e126_42 : (setO g14_2 39 (fup (fup (h 39) 5 (((h 39) 5) - (qS (h 41 x)))) 7 (((h 39) 7) - ((qS (h 41 x)) * 65536)))) 42 = h 42 := (sOf_ne _ _ (by decide)).trans (((hG_2 42 (by decide))).trans (hG_1 42 (by decide)))
      have e127_39_2 : (setO g14_2 39 (fup (fup (h 39) 5 (((h 39) 5) - (qS (h 41 x)))) 7 (((h 39) 7) - ((qS (h 41 x)) * 65536)))) 39 2 = (h 39) 2 := rd_ (sOf_eq _ _ _) ((fup_ne _ _ (by decide)).trans (fup_ne _ _ (by decide)))
      have e128_39_3 : (setO g14_2 39 (fup (fup (h 39) 5 (((h 39) 5) - (qS (h 41 x)))) 7 (((h 39) 7) - ((qS (h 41 x)) * 65536)))) 39 3 = (h 39) 3 := rd_ (sOf_eq _ _ _) ((fup_ne _ _ (by decide)).trans (fup_ne _ _ (by decide)))
      exact ⟨⟨hT_7, hF_7⟩, (h 42 x), rfl, (by omega), (by rewrite [e121_39_4, e122_39_5, e123_39_6, e124_39_7, e125_41, e126_42]; first | (obtain ⟨u4, u5, u6, u7, u8, u9⟩ := hrq; exact ⟨rdS_1c (by omega) (by omega) (by omega) (by omega), ⟨by omega, by omega, by omega, by omega, by omega, by omega⟩, by omega, by omega⟩)), (by rewrite [e127_39_2, e128_39_3]; omega)⟩
  · have hb39_6 := lcmp_lt hb39_6
    refine TT_aload_n hK rfl 2 rfl dX6_tellBit_42 ?_
    refine gf_X6_60 hK (by decide) rfl (v := ((h 39) 5) - (qS (h 41 x))) (rd_ (sOf_eq _ _ _) (fup_eq _ _ _)) dX6_tellBit_43 ?_
    have r129 := ty_39_5 (v := ((h 39) 5) - (qS (h 41 x))) hT_4 (rd_ (sOf_eq _ _ _) (fup_eq _ _ _))
    refine TT_iload_n hK rfl 1 rfl dX6_tellBit_46 ?_
    refine TT_icmp_ge hK (tgt := 55) (irm (by omega) (by omega)) (irm (by omega) (by omega)) dX6_tellBit_47 (by decide) (fun hb47_130 => ?_) (fun hb47_130 => ?_)
    · refine TT_iconst hK dX6_tellBit_55 ?_
      refine TT_iload hK 0 rfl dX6_tellBit_56 ?_
      refine TT_isub hK dX6_tellBit_58 ?_
      refine TT_istore hK (lv' := [(5, vI (1 - (h 42 x))), (4, vI (h 42 x)), (3, vI (qS (h 41 x))), (0, vR 39), (1, vI x), (2, vI b)]) (by decide) rfl dX6_tellBit_59 ?_
      refine TT_aload_n hK rfl 3 rfl dX6_tellBit_61 ?_
      refine TT_iload_n hK rfl 2 rfl dX6_tellBit_62 ?_
      refine pf_X6_60 hK (by decide) rfl dX6_tellBit_63 ?_
      refine TT_hp (h' := setO g14_2 39 (fup (h 39) 5 (qS (h 41 x)))) (up_can (sOf_eq _ _ _) (fup_same _ _ _ _) (setO_same _ _ _ _)) ?_
      have hT_131 : TY (setO g14_2 39 (fup (h 39) 5 (qS (h 41 x)))) := tu_39_5 hT_4 (show up (setO g14_2 39 (fup (h 39) 5 (((h 39) 5) - (qS (h 41 x))))) 39 5 (qS (h 41 x)) = (setO g14_2 39 (fup (h 39) 5 (qS (h 41 x)))) from up_can (sOf_eq _ _ _) (fup_same _ _ _ _) (setO_same _ _ _ _)) (by omega)
      have hF_131 : FR [39, 41, 42] h (setO g14_2 39 (fup (h 39) 5 (qS (h 41 x)))) := FR_up (show up (setO g14_2 39 (fup (h 39) 5 (((h 39) 5) - (qS (h 41 x))))) 39 5 (qS (h 41 x)) = (setO g14_2 39 (fup (h 39) 5 (qS (h 41 x)))) from up_can (sOf_eq _ _ _) (fup_same _ _ _ _) (setO_same _ _ _ _)) hF_4 (by decide)
      refine TT_goto hK (tgt := 114) dX6_tellBit_66 (by decide) ?_
      refine TT_aload_n hK rfl 3 rfl dX6_tellBit_114 ?_
      refine gf_X6_12 hK (by decide) rfl (q := 40) rfl rfl dX6_tellBit_115 ?_
      refine TT_iload_n hK rfl 4 rfl dX6_tellBit_118 ?_
      refine TT_iload hK 0 rfl dX6_tellBit_119 ?_
      refine iv_X6_71 hK (s_learn40_e x (1 - (h 42 x)) (setO g14_2 39 (fup (h 39) 5 (qS (h 41 x)))) hT_131 (by first | omega | (simp [up, setR] <;> omega)) (by first | omega | (simp [up, setR] <;> omega))) (by decide) rfl ⟨by decide, by decide⟩ (by decide) rfl rfl (Nat.le_of_ble_eq_true rfl) ⟨by decide, by decide⟩ dX6_tellBit_121 ?_
      intro r9 g121_132 hp9
      obtain ⟨⟨hT_132, hG_132⟩, hr9, l1_132, l2_132⟩ := hp9
      rw [hr9]
      have hF_132 : FR [39, 41, 42] h g121_132 := FR_tr hF_131 hG_132 (by decide)
      rw [show (setO g14_2 39 (fup (h 39) 5 (qS (h 41 x)))) 41 = h 41 from (sOf_ne _ _ (by decide)).trans (((hG_2 41 (by decide))).trans (hG_1 41 (by decide)))] at l1_132
      rw [show (setO g14_2 39 (fup (h 39) 5 (qS (h 41 x)))) 42 = h 42 from (sOf_ne _ _ (by decide)).trans (((hG_2 42 (by decide))).trans (hG_1 42 (by decide)))] at l1_132
      rw [show (setO g14_2 39 (fup (h 39) 5 (qS (h 41 x)))) 41 = h 41 from (sOf_ne _ _ (by decide)).trans (((hG_2 41 (by decide))).trans (hG_1 41 (by decide)))] at l2_132
      rw [show (setO g14_2 39 (fup (h 39) 5 (qS (h 41 x)))) 42 = h 42 from (sOf_ne _ _ (by decide)).trans (((hG_2 42 (by decide))).trans (hG_1 42 (by decide)))] at l2_132
      have l1_at121 := l1_132
      have l2_at121 := l2_132
      show TT K ly 0 0 124 [(5, vI (1 - (h 42 x))), (4, vI (h 42 x)), (3, vI (qS (h 41 x))), (0, vR 39), (1, vI x), (2, vI b)] [] g121_132
      refine TT_iconst hK dX6_tellBit_124 ?_
      refine TT_istore hK (lv' := [(6, vI 0), (5, vI (1 - (h 42 x))), (4, vI (h 42 x)), (3, vI (qS (h 41 x))), (0, vR 39), (1, vI x), (2, vI b)]) (by decide) rfl dX6_tellBit_125 ?_
      have L127_133 : ∀ (k133 : Nat) (k : Int) (b9 : Int) (R9 : Int × Int × Int × Int) (w127_133 : Hp_), TY w127_133 → FR [39, 41, 42] h w127_133 → (0 ≤ k ∧ k ≤ 15) → (0 ≤ b9 ∧ b9 ≤ 1) → ((w127_133 39 3) = h 39 3) → ((w127_133 39 2) = h 39 2) → (k ≤ 15) → (0 ≤ (w127_133 39 7) ∧ (w127_133 39 7) ≤ 1099511627776) → (RJ_ fxC (h 43) (h 39 3) (15 - k).toNat (w127_133 39 5) (w127_133 39 7) (w127_133 39 6) (w127_133 39 4) R9) → (rdS lwC fxC (h 43) (h 39 3) ((h 39 5), (h 39 7), (h 39 6), (h 39 4), (h 41), (h 42)) x = (b9, R9.1, R9.2.1, R9.2.2.1, R9.2.2.2, (w127_133 41), (w127_133 42))) → ((15 : Int) - k).toNat < k133 → TT K ly 0 0 127 [(0, vR 39), (1, vI x), (5, vI b9), (6, vI k)] [] w127_133 := by
        intro k133
        induction k133 with
        | zero => intro k b9 R9 w127_133 hT127_133 hF127_133 hk hb9 k3 k2 hk15 hcb hM hR hk133; exact absurd hk133 (Nat.not_lt_zero _)
        | succ k133 ih133 =>
          intro k b9 R9 w127_133 hT127_133 hF127_133 hk hb9 k3 k2 hk15 hcb hM hR hk133
          have hcr := hM.2.2
          obtain ⟨m1, m2, m3, m4, m5, m6⟩ := hcr
          refine TT_iload hK 3 rfl dX6_tellBit_127 ?_
          refine TT_bipush hK (by decide) dX6_tellBit_129 ?_
          refine TT_icmp_ge hK (tgt := 196) (irm (by omega) (by omega)) (by decide) dX6_tellBit_131 (by decide) (fun hb131_134 => ?_) (fun hb131_134 => ?_)
          · refine TT_iload hK 2 rfl dX6_tellBit_196 ?_
            refine TT_iret hK hQ ?_ dX6_tellBit_198
            have e135_39_4 : w127_133 39 4 = (w127_133 39) 4 := rfl
            have e136_39_5 : w127_133 39 5 = (w127_133 39) 5 := rfl
            have e137_39_6 : w127_133 39 6 = (w127_133 39) 6 := rfl
            have e138_39_7 : w127_133 39 7 = (w127_133 39) 7 := rfl
            have e139_39_2 : w127_133 39 2 = (w127_133 39) 2 := rfl
            have e140_39_3 : w127_133 39 3 = (w127_133 39) 3 := rfl
            exact ⟨⟨hT127_133, hF127_133⟩, b9, rfl, (by omega), (by rewrite [e135_39_4, e136_39_5, e137_39_6, e138_39_7]; first | (obtain ⟨u4, u5, u6, u7, u8, u9⟩ := hrq; exact ⟨rdS_1c (by omega) (by omega) (by omega) (by omega), ⟨by omega, by omega, by omega, by omega, by omega, by omega⟩, by omega, by omega⟩) | (have hd := RJ_done hM (by first | omega | (have h0 : (15 - k).toNat = 0 := (by omega); rw [h0] at hM; exact RJ_z hM)); exact ⟨by rw [hR, ← hd], hM.2.2, by omega, by first | omega | (have h0 : (15 - k).toNat = 0 := (by omega); rw [h0] at hM; exact RJ_z hM)⟩)), (by rewrite [e139_39_2, e140_39_3]; omega)⟩
          · refine TT_aload_n hK rfl 0 rfl dX6_tellBit_134 ?_
            refine gf_X6_60 hK (by decide) rfl (v := (w127_133 39) 5) rfl dX6_tellBit_135 ?_
            have r141 := ty_39_5 (v := (w127_133 39) 5) hT127_133 rfl
            refine TT_ldc hK lc_X6_59 dX6_tellBit_138 ?_
            refine TT_icmp_ge hK (tgt := 196) (irm (by omega) (by omega)) (by decide) dX6_tellBit_140 (by decide) (fun hb140_142 => ?_) (fun hb140_142 => ?_)
            · refine TT_iload hK 2 rfl dX6_tellBit_196 ?_
              refine TT_iret hK hQ ?_ dX6_tellBit_198
              have e143_39_4 : w127_133 39 4 = (w127_133 39) 4 := rfl
              have e144_39_5 : w127_133 39 5 = (w127_133 39) 5 := rfl
              have e145_39_6 : w127_133 39 6 = (w127_133 39) 6 := rfl
              have e146_39_7 : w127_133 39 7 = (w127_133 39) 7 := rfl
              have e147_39_2 : w127_133 39 2 = (w127_133 39) 2 := rfl
              have e148_39_3 : w127_133 39 3 = (w127_133 39) 3 := rfl
              exact ⟨⟨hT127_133, hF127_133⟩, b9, rfl, (by omega), (by rewrite [e143_39_4, e144_39_5, e145_39_6, e146_39_7]; first | (obtain ⟨u4, u5, u6, u7, u8, u9⟩ := hrq; exact ⟨rdS_1c (by omega) (by omega) (by omega) (by omega), ⟨by omega, by omega, by omega, by omega, by omega, by omega⟩, by omega, by omega⟩) | (have hd := RJ_done hM (by first | omega | (have h0 : (15 - k).toNat = 0 := (by omega); rw [h0] at hM; exact RJ_z hM)); exact ⟨by rw [hR, ← hd], hM.2.2, by omega, by first | omega | (have h0 : (15 - k).toNat = 0 := (by omega); rw [h0] at hM; exact RJ_z hM)⟩)), (by rewrite [e147_39_2, e148_39_3]; omega)⟩
            · refine TT_aload_n hK rfl 0 rfl dX6_tellBit_143 ?_
              refine gf_X6_56 hK (by decide) rfl (v := (w127_133 39) 6) rfl dX6_tellBit_144 ?_
              have r149 := ty_39_6 (v := (w127_133 39) 6) hT127_133 rfl
              refine TT_if_ne hK (tgt := 154) (irm (by omega) (by omega)) dX6_tellBit_147 (by decide) (fun hb147_150 => ?_) (fun hb147_150 => ?_)
              · 
                refine TT_aload_n hK rfl 0 rfl dX6_tellBit_154 ?_
                refine TT_dup hK rfl dX6_tellBit_155 ?_
                refine gf_X6_60 hK (by decide) rfl (v := (w127_133 39) 5) rfl dX6_tellBit_156 ?_
                refine TT_iconst hK dX6_tellBit_159 ?_
                refine TT_ishl hK (by omega) (by omega) dX6_tellBit_160 ?_
                refine TT_cgI (b := ((w127_133 39) 5) * 2) rfl ?_
                refine TT_cgI (b := 2 * ((w127_133 39) 5)) (by omega) ?_
                refine pf_X6_60 hK (by decide) rfl dX6_tellBit_161 ?_
                refine TT_hp (h' := setO w127_133 39 (fup (w127_133 39) 5 (2 * ((w127_133 39) 5)))) (up_can rfl rfl rfl) ?_
                have hT_151 : TY (setO w127_133 39 (fup (w127_133 39) 5 (2 * ((w127_133 39) 5)))) := tu_39_5 hT127_133 (show up w127_133 39 5 (2 * ((w127_133 39) 5)) = (setO w127_133 39 (fup (w127_133 39) 5 (2 * ((w127_133 39) 5)))) from up_can rfl rfl rfl) (by omega)
                have hF_151 : FR [39, 41, 42] h (setO w127_133 39 (fup (w127_133 39) 5 (2 * ((w127_133 39) 5)))) := FR_up (show up w127_133 39 5 (2 * ((w127_133 39) 5)) = (setO w127_133 39 (fup (w127_133 39) 5 (2 * ((w127_133 39) 5)))) from up_can rfl rfl rfl) hF127_133 (by decide)
                refine TT_aload_n hK rfl 0 rfl dX6_tellBit_164 ?_
                refine TT_aload_n hK rfl 0 rfl dX6_tellBit_165 ?_
                refine gf_X6_49 hK (by decide) rfl (v := (w127_133 39) 7) (rd_ (sOf_eq _ _ _) (fup_ne _ _ (by decide))) dX6_tellBit_166 ?_
                have r152 := ty_39_7 (v := (w127_133 39) 7) hT_151 (rd_ (sOf_eq _ _ _) (fup_ne _ _ (by decide)))
                refine TT_iconst hK dX6_tellBit_169 ?_
                refine TT_lshl hK (by decide) dX6_tellBit_170 ?_
                refine TT_cgJ (b := ((w127_133 39) 7) * 2) rfl ?_
                refine TT_cgJ (b := 2 * ((w127_133 39) 7)) (by omega) ?_
                refine TT_ldc2 hK lc_X6_75 dX6_tellBit_171 ?_
                refine TT_mminl hK (lrm (by omega) (by omega)) (by decide) iw_X6_77 (by decide) (Nat.le_of_ble_eq_true rfl) ⟨by decide, by decide⟩ dX6_tellBit_174 ?_
                have fx9 := fxC_r (c := 2 * ((w127_133 39) 7)) (by omega)
                refine TT_cgJ (b := fxC (2 * ((w127_133 39) 7))) (by rfl) ?_
                refine pf_X6_49 hK (by decide) rfl dX6_tellBit_177 ?_
                refine TT_hp (h' := setO w127_133 39 (fup (fup (w127_133 39) 5 (2 * ((w127_133 39) 5))) 7 (fxC (2 * ((w127_133 39) 7))))) (up_can (sOf_eq _ _ _) rfl (setO_same _ _ _ _)) ?_
                have hT_153 : TY (setO w127_133 39 (fup (fup (w127_133 39) 5 (2 * ((w127_133 39) 5))) 7 (fxC (2 * ((w127_133 39) 7))))) := tu_39_7 hT_151 (show up (setO w127_133 39 (fup (w127_133 39) 5 (2 * ((w127_133 39) 5)))) 39 7 (fxC (2 * ((w127_133 39) 7))) = (setO w127_133 39 (fup (fup (w127_133 39) 5 (2 * ((w127_133 39) 5))) 7 (fxC (2 * ((w127_133 39) 7))))) from up_can (sOf_eq _ _ _) rfl (setO_same _ _ _ _)) (by omega)
                have hF_153 : FR [39, 41, 42] h (setO w127_133 39 (fup (fup (w127_133 39) 5 (2 * ((w127_133 39) 5))) 7 (fxC (2 * ((w127_133 39) 7))))) := FR_up (show up (setO w127_133 39 (fup (w127_133 39) 5 (2 * ((w127_133 39) 5)))) 39 7 (fxC (2 * ((w127_133 39) 7))) = (setO w127_133 39 (fup (fup (w127_133 39) 5 (2 * ((w127_133 39) 5))) 7 (fxC (2 * ((w127_133 39) 7))))) from up_can (sOf_eq _ _ _) rfl (setO_same _ _ _ _)) hF_151 (by decide)
                refine TT_aload_n hK rfl 0 rfl dX6_tellBit_180 ?_
                refine TT_dup hK rfl dX6_tellBit_181 ?_
                refine gf_X6_56 hK (by decide) rfl (v := (w127_133 39) 6) (rd_ (sOf_eq _ _ _) ((fup_ne _ _ (by decide)).trans (fup_ne _ _ (by decide)))) dX6_tellBit_182 ?_
                refine TT_iconst hK dX6_tellBit_185 ?_
                refine TT_isub hK dX6_tellBit_186 ?_
                refine pf_X6_56 hK (by decide) rfl dX6_tellBit_187 ?_
                refine TT_hp (h' := setO w127_133 39 (fup (fup (fup (w127_133 39) 5 (2 * ((w127_133 39) 5))) 6 (((w127_133 39) 6) - 1)) 7 (fxC (2 * ((w127_133 39) 7))))) (up_can (sOf_eq _ _ _) (fup_comm _ _ _ (by decide)) (setO_same _ _ _ _)) ?_
                have hT_154 : TY (setO w127_133 39 (fup (fup (fup (w127_133 39) 5 (2 * ((w127_133 39) 5))) 6 (((w127_133 39) 6) - 1)) 7 (fxC (2 * ((w127_133 39) 7))))) := tu_39_6 hT_153 (show up (setO w127_133 39 (fup (fup (w127_133 39) 5 (2 * ((w127_133 39) 5))) 7 (fxC (2 * ((w127_133 39) 7))))) 39 6 (((w127_133 39) 6) - 1) = (setO w127_133 39 (fup (fup (fup (w127_133 39) 5 (2 * ((w127_133 39) 5))) 6 (((w127_133 39) 6) - 1)) 7 (fxC (2 * ((w127_133 39) 7))))) from up_can (sOf_eq _ _ _) (fup_comm _ _ _ (by decide)) (setO_same _ _ _ _)) (by omega)
                have hF_154 : FR [39, 41, 42] h (setO w127_133 39 (fup (fup (fup (w127_133 39) 5 (2 * ((w127_133 39) 5))) 6 (((w127_133 39) 6) - 1)) 7 (fxC (2 * ((w127_133 39) 7))))) := FR_up (show up (setO w127_133 39 (fup (fup (w127_133 39) 5 (2 * ((w127_133 39) 5))) 7 (fxC (2 * ((w127_133 39) 7))))) 39 6 (((w127_133 39) 6) - 1) = (setO w127_133 39 (fup (fup (fup (w127_133 39) 5 (2 * ((w127_133 39) 5))) 6 (((w127_133 39) 6) - 1)) 7 (fxC (2 * ((w127_133 39) 7))))) from up_can (sOf_eq _ _ _) (fup_comm _ _ _ (by decide)) (setO_same _ _ _ _)) hF_153 (by decide)
                refine TT_iinc hK (v := k + 1) (lv' := [(6, vI (k + 1)), (0, vR 39), (1, vI x), (5, vI b9)]) 3 rfl rfl (by decide) rfl dX6_tellBit_190 ?_
                refine TT_goto hK (tgt := 127) dX6_tellBit_193 (by decide) ?_
                refine TT_sub [1, 2, 3, 0] rfl ?_
                have e155_39_3 : (setO w127_133 39 (fup (fup (fup (w127_133 39) 5 (2 * ((w127_133 39) 5))) 6 (((w127_133 39) 6) - 1)) 7 (fxC (2 * ((w127_133 39) 7))))) 39 3 = (w127_133 39) 3 := rd_ (sOf_eq _ _ _) ((fup_ne _ _ (by decide)).trans ((fup_ne _ _ (by decide)).trans (fup_ne _ _ (by decide))))
                have e156_39_2 : (setO w127_133 39 (fup (fup (fup (w127_133 39) 5 (2 * ((w127_133 39) 5))) 6 (((w127_133 39) 6) - 1)) 7 (fxC (2 * ((w127_133 39) 7))))) 39 2 = (w127_133 39) 2 := rd_ (sOf_eq _ _ _) ((fup_ne _ _ (by decide)).trans ((fup_ne _ _ (by decide)).trans (fup_ne _ _ (by decide))))
                have e157_39_7 : (setO w127_133 39 (fup (fup (fup (w127_133 39) 5 (2 * ((w127_133 39) 5))) 6 (((w127_133 39) 6) - 1)) 7 (fxC (2 * ((w127_133 39) 7))))) 39 7 = fxC (2 * ((w127_133 39) 7)) := rd_ (sOf_eq _ _ _) (fup_eq _ _ _)
                have e158_39_4 : (setO w127_133 39 (fup (fup (fup (w127_133 39) 5 (2 * ((w127_133 39) 5))) 6 (((w127_133 39) 6) - 1)) 7 (fxC (2 * ((w127_133 39) 7))))) 39 4 = (w127_133 39) 4 := rd_ (sOf_eq _ _ _) ((fup_ne _ _ (by decide)).trans ((fup_ne _ _ (by decide)).trans (fup_ne _ _ (by decide))))
                have e159_39_5 : (setO w127_133 39 (fup (fup (fup (w127_133 39) 5 (2 * ((w127_133 39) 5))) 6 (((w127_133 39) 6) - 1)) 7 (fxC (2 * ((w127_133 39) 7))))) 39 5 = 2 * ((w127_133 39) 5) := rd_ (sOf_eq _ _ _) ((fup_ne _ _ (by decide)).trans ((fup_ne _ _ (by decide)).trans (fup_eq _ _ _)))
                have e160_39_6 : (setO w127_133 39 (fup (fup (fup (w127_133 39) 5 (2 * ((w127_133 39) 5))) 6 (((w127_133 39) 6) - 1)) 7 (fxC (2 * ((w127_133 39) 7))))) 39 6 = ((w127_133 39) 6) - 1 := rd_ (sOf_eq _ _ _) ((fup_ne _ _ (by decide)).trans (fup_eq _ _ _))
                have e161_39_7 : (setO w127_133 39 (fup (fup (fup (w127_133 39) 5 (2 * ((w127_133 39) 5))) 6 (((w127_133 39) 6) - 1)) 7 (fxC (2 * ((w127_133 39) 7))))) 39 7 = fxC (2 * ((w127_133 39) 7)) := rd_ (sOf_eq _ _ _) (fup_eq _ _ _)
                have e162_41 : (setO w127_133 39 (fup (fup (fup (w127_133 39) 5 (2 * ((w127_133 39) 5))) 6 (((w127_133 39) 6) - 1)) 7 (fxC (2 * ((w127_133 39) 7))))) 41 = w127_133 41 := sOf_ne _ _ (by decide)
                have e163_42 : (setO w127_133 39 (fup (fup (fup (w127_133 39) 5 (2 * ((w127_133 39) 5))) 6 (((w127_133 39) 6) - 1)) 7 (fxC (2 * ((w127_133 39) 7))))) 42 = w127_133 42 := sOf_ne _ _ (by decide)
                exact ih133 (k + 1) b9 R9 (setO w127_133 39 (fup (fup (fup (w127_133 39) 5 (2 * ((w127_133 39) 5))) 6 (((w127_133 39) 6) - 1)) 7 (fxC (2 * ((w127_133 39) 7))))) hT_154 hF_154 (by first | omega | (simp [up, setR] <;> omega)) (by first | omega | (simp [up, setR] <;> omega)) (by rewrite [e155_39_3]; first | omega | (simp [up, setR] <;> omega)) (by rewrite [e156_39_2]; first | omega | (simp [up, setR] <;> omega)) (by first | omega | (simp [up, setR] <;> omega)) (by rewrite [e157_39_7]; unfold fxC; omega) (by rewrite [e158_39_4, e159_39_5, e160_39_6, e161_39_7]; have h1 : (15 - k).toNat = (15 - (k + 1)).toNat + 1 := (by omega); rw [h1] at hM; first | exact RJ_next hM (by omega) (by omega) rfl) (by rewrite [e162_41, e163_42]; exact hR) (by first | omega | (simp [up, setR] <;> omega))
              · refine TT_aload_n hK rfl 0 rfl dX6_tellBit_150 ?_
                refine iv_X6_53 hK (s_comeIn_e w127_133 hT127_133 ) (by decide) rfl ⟨by decide, by decide⟩ (by decide) rfl rfl (Nat.le_of_ble_eq_true rfl) ⟨by decide, by decide⟩ dX6_tellBit_151 ?_
                intro r9 g151_164 hp9
                obtain ⟨⟨hT_164, hG_164⟩, hr9, p1_164, in_164, ck_164⟩ := hp9
                rw [hr9]
                have hF_164 : FR [39, 41, 42] h g151_164 := FR_tr hF127_133 hG_164 (by decide)
                rw [show w127_133 39 3 = (w127_133 39) 3 from rfl] at in_164
                rw [show w127_133 39 4 = (w127_133 39) 4 from rfl] at in_164
                rw [show w127_133 39 7 = (w127_133 39) 7 from rfl] at in_164
                rw [show w127_133 43 = h 43 from (hF127_133 43 (by decide))] at in_164
                rw [show w127_133 39 2 = (w127_133 39) 2 from rfl] at ck_164
                rw [show w127_133 39 3 = (w127_133 39) 3 from rfl] at ck_164
                rw [show w127_133 39 5 = (w127_133 39) 5 from rfl] at ck_164
                have in_at151 := in_164
                have ck_at151 := ck_164
                show TT K ly 0 0 154 [(0, vR 39), (1, vI x), (5, vI b9), (6, vI k)] [] g151_164
                have i9r := inS_rr (by rw [k3]; exact hsr) (by omega) (by omega) (in_at151 (by omega))
                refine TT_aload_n hK rfl 0 rfl dX6_tellBit_154 ?_
                refine TT_dup hK rfl dX6_tellBit_155 ?_
                refine gf_X6_60 hK (by decide) rfl (v := (g151_164 39) 5) rfl dX6_tellBit_156 ?_
                have r165 := ty_39_5 (v := (g151_164 39) 5) hT_164 rfl
                refine TT_iconst hK dX6_tellBit_159 ?_
                refine TT_ishl hK (by omega) (by omega) dX6_tellBit_160 ?_
                refine TT_cgI (b := ((g151_164 39) 5) * 2) rfl ?_
                refine TT_cgI (b := 2 * ((g151_164 39) 5)) (by omega) ?_
                refine pf_X6_60 hK (by decide) rfl dX6_tellBit_161 ?_
                refine TT_hp (h' := setO g151_164 39 (fup (g151_164 39) 5 (2 * ((g151_164 39) 5)))) (up_can rfl rfl rfl) ?_
                have hT_166 : TY (setO g151_164 39 (fup (g151_164 39) 5 (2 * ((g151_164 39) 5)))) := tu_39_5 hT_164 (show up g151_164 39 5 (2 * ((g151_164 39) 5)) = (setO g151_164 39 (fup (g151_164 39) 5 (2 * ((g151_164 39) 5)))) from up_can rfl rfl rfl) (by omega)
                have hF_166 : FR [39, 41, 42] h (setO g151_164 39 (fup (g151_164 39) 5 (2 * ((g151_164 39) 5)))) := FR_up (show up g151_164 39 5 (2 * ((g151_164 39) 5)) = (setO g151_164 39 (fup (g151_164 39) 5 (2 * ((g151_164 39) 5)))) from up_can rfl rfl rfl) hF_164 (by decide)
                refine TT_aload_n hK rfl 0 rfl dX6_tellBit_164 ?_
                refine TT_aload_n hK rfl 0 rfl dX6_tellBit_165 ?_
                refine gf_X6_49 hK (by decide) rfl (v := (g151_164 39) 7) (rd_ (sOf_eq _ _ _) (fup_ne _ _ (by decide))) dX6_tellBit_166 ?_
                have r167 := ty_39_7 (v := (g151_164 39) 7) hT_166 (rd_ (sOf_eq _ _ _) (fup_ne _ _ (by decide)))
                refine TT_iconst hK dX6_tellBit_169 ?_
                refine TT_lshl hK (by decide) dX6_tellBit_170 ?_
                refine TT_cgJ (b := ((g151_164 39) 7) * 2) rfl ?_
                refine TT_cgJ (b := 2 * ((g151_164 39) 7)) (by omega) ?_
                refine TT_ldc2 hK lc_X6_75 dX6_tellBit_171 ?_
                refine TT_mminl hK (lrm (by omega) (by omega)) (by decide) iw_X6_77 (by decide) (Nat.le_of_ble_eq_true rfl) ⟨by decide, by decide⟩ dX6_tellBit_174 ?_
                have fx9 := fxC_r (c := 2 * ((g151_164 39) 7)) (by omega)
                refine TT_cgJ (b := fxC (2 * ((g151_164 39) 7))) (by rfl) ?_
                refine pf_X6_49 hK (by decide) rfl dX6_tellBit_177 ?_
                refine TT_hp (h' := setO g151_164 39 (fup (fup (g151_164 39) 5 (2 * ((g151_164 39) 5))) 7 (fxC (2 * ((g151_164 39) 7))))) (up_can (sOf_eq _ _ _) rfl (setO_same _ _ _ _)) ?_
                have hT_168 : TY (setO g151_164 39 (fup (fup (g151_164 39) 5 (2 * ((g151_164 39) 5))) 7 (fxC (2 * ((g151_164 39) 7))))) := tu_39_7 hT_166 (show up (setO g151_164 39 (fup (g151_164 39) 5 (2 * ((g151_164 39) 5)))) 39 7 (fxC (2 * ((g151_164 39) 7))) = (setO g151_164 39 (fup (fup (g151_164 39) 5 (2 * ((g151_164 39) 5))) 7 (fxC (2 * ((g151_164 39) 7))))) from up_can (sOf_eq _ _ _) rfl (setO_same _ _ _ _)) (by omega)
                have hF_168 : FR [39, 41, 42] h (setO g151_164 39 (fup (fup (g151_164 39) 5 (2 * ((g151_164 39) 5))) 7 (fxC (2 * ((g151_164 39) 7))))) := FR_up (show up (setO g151_164 39 (fup (g151_164 39) 5 (2 * ((g151_164 39) 5)))) 39 7 (fxC (2 * ((g151_164 39) 7))) = (setO g151_164 39 (fup (fup (g151_164 39) 5 (2 * ((g151_164 39) 5))) 7 (fxC (2 * ((g151_164 39) 7))))) from up_can (sOf_eq _ _ _) rfl (setO_same _ _ _ _)) hF_166 (by decide)
                refine TT_aload_n hK rfl 0 rfl dX6_tellBit_180 ?_
                refine TT_dup hK rfl dX6_tellBit_181 ?_
                refine gf_X6_56 hK (by decide) rfl (v := (g151_164 39) 6) (rd_ (sOf_eq _ _ _) ((fup_ne _ _ (by decide)).trans (fup_ne _ _ (by decide)))) dX6_tellBit_182 ?_
                have r169 := ty_39_6 (v := (g151_164 39) 6) hT_168 (rd_ (sOf_eq _ _ _) ((fup_ne _ _ (by decide)).trans (fup_ne _ _ (by decide))))
                refine TT_iconst hK dX6_tellBit_185 ?_
                refine TT_isub hK dX6_tellBit_186 ?_
                refine pf_X6_56 hK (by decide) rfl dX6_tellBit_187 ?_
                refine TT_hp (h' := setO g151_164 39 (fup (fup (fup (g151_164 39) 5 (2 * ((g151_164 39) 5))) 6 (((g151_164 39) 6) - 1)) 7 (fxC (2 * ((g151_164 39) 7))))) (up_can (sOf_eq _ _ _) (fup_comm _ _ _ (by decide)) (setO_same _ _ _ _)) ?_
                have hT_170 : TY (setO g151_164 39 (fup (fup (fup (g151_164 39) 5 (2 * ((g151_164 39) 5))) 6 (((g151_164 39) 6) - 1)) 7 (fxC (2 * ((g151_164 39) 7))))) := tu_39_6 hT_168 (show up (setO g151_164 39 (fup (fup (g151_164 39) 5 (2 * ((g151_164 39) 5))) 7 (fxC (2 * ((g151_164 39) 7))))) 39 6 (((g151_164 39) 6) - 1) = (setO g151_164 39 (fup (fup (fup (g151_164 39) 5 (2 * ((g151_164 39) 5))) 6 (((g151_164 39) 6) - 1)) 7 (fxC (2 * ((g151_164 39) 7))))) from up_can (sOf_eq _ _ _) (fup_comm _ _ _ (by decide)) (setO_same _ _ _ _)) (by omega)
                have hF_170 : FR [39, 41, 42] h (setO g151_164 39 (fup (fup (fup (g151_164 39) 5 (2 * ((g151_164 39) 5))) 6 (((g151_164 39) 6) - 1)) 7 (fxC (2 * ((g151_164 39) 7))))) := FR_up (show up (setO g151_164 39 (fup (fup (g151_164 39) 5 (2 * ((g151_164 39) 5))) 7 (fxC (2 * ((g151_164 39) 7))))) 39 6 (((g151_164 39) 6) - 1) = (setO g151_164 39 (fup (fup (fup (g151_164 39) 5 (2 * ((g151_164 39) 5))) 6 (((g151_164 39) 6) - 1)) 7 (fxC (2 * ((g151_164 39) 7))))) from up_can (sOf_eq _ _ _) (fup_comm _ _ _ (by decide)) (setO_same _ _ _ _)) hF_168 (by decide)
                refine TT_iinc hK (v := k + 1) (lv' := [(6, vI (k + 1)), (0, vR 39), (1, vI x), (5, vI b9)]) 3 rfl rfl (by decide) rfl dX6_tellBit_190 ?_
                refine TT_goto hK (tgt := 127) dX6_tellBit_193 (by decide) ?_
                refine TT_sub [1, 2, 3, 0] rfl ?_
                have e171_39_3 : (setO g151_164 39 (fup (fup (fup (g151_164 39) 5 (2 * ((g151_164 39) 5))) 6 (((g151_164 39) 6) - 1)) 7 (fxC (2 * ((g151_164 39) 7))))) 39 3 = (g151_164 39) 3 := rd_ (sOf_eq _ _ _) ((fup_ne _ _ (by decide)).trans ((fup_ne _ _ (by decide)).trans (fup_ne _ _ (by decide))))
                have e172_39_2 : (setO g151_164 39 (fup (fup (fup (g151_164 39) 5 (2 * ((g151_164 39) 5))) 6 (((g151_164 39) 6) - 1)) 7 (fxC (2 * ((g151_164 39) 7))))) 39 2 = (g151_164 39) 2 := rd_ (sOf_eq _ _ _) ((fup_ne _ _ (by decide)).trans ((fup_ne _ _ (by decide)).trans (fup_ne _ _ (by decide))))
                have e173_39_7 : (setO g151_164 39 (fup (fup (fup (g151_164 39) 5 (2 * ((g151_164 39) 5))) 6 (((g151_164 39) 6) - 1)) 7 (fxC (2 * ((g151_164 39) 7))))) 39 7 = fxC (2 * ((g151_164 39) 7)) := rd_ (sOf_eq _ _ _) (fup_eq _ _ _)
                have e174_39_4 : (setO g151_164 39 (fup (fup (fup (g151_164 39) 5 (2 * ((g151_164 39) 5))) 6 (((g151_164 39) 6) - 1)) 7 (fxC (2 * ((g151_164 39) 7))))) 39 4 = (g151_164 39) 4 := rd_ (sOf_eq _ _ _) ((fup_ne _ _ (by decide)).trans ((fup_ne _ _ (by decide)).trans (fup_ne _ _ (by decide))))
                have e175_39_5 : (setO g151_164 39 (fup (fup (fup (g151_164 39) 5 (2 * ((g151_164 39) 5))) 6 (((g151_164 39) 6) - 1)) 7 (fxC (2 * ((g151_164 39) 7))))) 39 5 = 2 * ((g151_164 39) 5) := rd_ (sOf_eq _ _ _) ((fup_ne _ _ (by decide)).trans ((fup_ne _ _ (by decide)).trans (fup_eq _ _ _)))
                have e176_39_6 : (setO g151_164 39 (fup (fup (fup (g151_164 39) 5 (2 * ((g151_164 39) 5))) 6 (((g151_164 39) 6) - 1)) 7 (fxC (2 * ((g151_164 39) 7))))) 39 6 = ((g151_164 39) 6) - 1 := rd_ (sOf_eq _ _ _) ((fup_ne _ _ (by decide)).trans (fup_eq _ _ _))
                have e177_39_7 : (setO g151_164 39 (fup (fup (fup (g151_164 39) 5 (2 * ((g151_164 39) 5))) 6 (((g151_164 39) 6) - 1)) 7 (fxC (2 * ((g151_164 39) 7))))) 39 7 = fxC (2 * ((g151_164 39) 7)) := rd_ (sOf_eq _ _ _) (fup_eq _ _ _)
                have e178_41 : (setO g151_164 39 (fup (fup (fup (g151_164 39) 5 (2 * ((g151_164 39) 5))) 6 (((g151_164 39) 6) - 1)) 7 (fxC (2 * ((g151_164 39) 7))))) 41 = w127_133 41 := (sOf_ne _ _ (by decide)).trans (hG_164 41 (by decide))
                have e179_42 : (setO g151_164 39 (fup (fup (fup (g151_164 39) 5 (2 * ((g151_164 39) 5))) 6 (((g151_164 39) 6) - 1)) 7 (fxC (2 * ((g151_164 39) 7))))) 42 = w127_133 42 := (sOf_ne _ _ (by decide)).trans (hG_164 42 (by decide))
                exact ih133 (k + 1) b9 R9 (setO g151_164 39 (fup (fup (fup (g151_164 39) 5 (2 * ((g151_164 39) 5))) 6 (((g151_164 39) 6) - 1)) 7 (fxC (2 * ((g151_164 39) 7))))) hT_170 hF_170 (by first | omega | (simp [up, setR] <;> omega)) (by first | omega | (simp [up, setR] <;> omega)) (by rewrite [e171_39_3]; first | omega | (simp [up, setR] <;> omega)) (by rewrite [e172_39_2]; first | omega | (simp [up, setR] <;> omega)) (by first | omega | (simp [up, setR] <;> omega)) (by rewrite [e173_39_7]; unfold fxC; omega) (by rewrite [e174_39_4, e175_39_5, e176_39_6, e177_39_7]; have h1 : (15 - k).toNat = (15 - (k + 1)).toNat + 1 := (by omega); rw [h1] at hM; first | exact RJ_next hM (by omega) (by omega) rfl | (rw [ck_at151.2.2]; exact RJK_in hsr hM (by omega) (by omega) (by have i9 := in_at151 (by omega); rw [k3] at i9; exact i9) rfl)) (by rewrite [e178_41, e179_42]; exact hR) (by first | omega | (simp [up, setR] <;> omega))
      refine TT_sub [4, 5, 1, 0] rfl ?_
      have e180_39_3 : g121_132 39 3 = (h 39) 3 := rd_ (((hG_132 39 (by decide))).trans (sOf_eq _ _ _)) (fup_ne _ _ (by decide))
      have e181_39_2 : g121_132 39 2 = (h 39) 2 := rd_ (((hG_132 39 (by decide))).trans (sOf_eq _ _ _)) (fup_ne _ _ (by decide))
      have e182_39_7 : g121_132 39 7 = (h 39) 7 := rd_ (((hG_132 39 (by decide))).trans (sOf_eq _ _ _)) (fup_ne _ _ (by decide))
      have e183_39_4 : g121_132 39 4 = (h 39) 4 := rd_ (((hG_132 39 (by decide))).trans (sOf_eq _ _ _)) (fup_ne _ _ (by decide))
      have e184_39_5 : g121_132 39 5 = qS (h 41 x) := rd_ (((hG_132 39 (by decide))).trans (sOf_eq _ _ _)) (fup_eq _ _ _)
      have e185_39_6 : g121_132 39 6 = (h 39) 6 := rd_ (((hG_132 39 (by decide))).trans (sOf_eq _ _ _)) (fup_ne _ _ (by decide))
      have e186_39_7 : g121_132 39 7 = (h 39) 7 := rd_ (((hG_132 39 (by decide))).trans (sOf_eq _ _ _)) (fup_ne _ _ (by decide))
      exact L127_133 ((((15 : Int) - 0).toNat) + 1) 0 (1 - (h 42 x)) (rmS fxC (h 43) (h 39 3) 15 (qS (h 41 x)) ((h 39) 7) ((h 39) 6) ((h 39) 4)) g121_132 hT_132 hF_132 (by first | omega | (simp [up, setR] <;> omega)) (by first | omega | (simp [up, setR] <;> omega)) (by rewrite [e180_39_3]; first | omega | (simp [up, setR] <;> omega)) (by rewrite [e181_39_2]; first | omega | (simp [up, setR] <;> omega)) (by first | omega | (simp [up, setR] <;> omega)) (by rewrite [e182_39_7]; omega) (by rewrite [e183_39_4, e184_39_5, e185_39_6, e186_39_7]; exact RJ_0 (RQ_rd (x := x) (st := h 41) (P := lwC (h 39 7) < qS (h 41 x)) hrq ha5 hs (by first | exact (if_pos (by omega)).symm | exact (if_neg (by omega)).symm))) (by rw [l1_at121, l2_at121]; exact rdS_m (by omega) (by first | exact (if_pos (by omega)).symm | exact (if_neg (by omega)).symm) (by first | exact (if_pos (by omega)).symm | (rw [if_neg (by omega)]; omega)) (by omega) (by split <;> omega)) (Nat.lt_succ_self _)
    · refine TT_iload hK 0 rfl dX6_tellBit_50 ?_
      refine TT_goto hK (tgt := 59) dX6_tellBit_52 (by decide) ?_
      refine TT_istore hK (lv' := [(5, vI (h 42 x)), (4, vI (h 42 x)), (3, vI (qS (h 41 x))), (0, vR 39), (1, vI x), (2, vI b)]) (by decide) rfl dX6_tellBit_59 ?_
      refine TT_aload_n hK rfl 3 rfl dX6_tellBit_61 ?_
      refine TT_iload_n hK rfl 2 rfl dX6_tellBit_62 ?_
      refine pf_X6_60 hK (by decide) rfl dX6_tellBit_63 ?_
      refine TT_hp (h' := setO g14_2 39 (fup (h 39) 5 (qS (h 41 x)))) (up_can (sOf_eq _ _ _) (fup_same _ _ _ _) (setO_same _ _ _ _)) ?_
      have hT_187 : TY (setO g14_2 39 (fup (h 39) 5 (qS (h 41 x)))) := tu_39_5 hT_4 (show up (setO g14_2 39 (fup (h 39) 5 (((h 39) 5) - (qS (h 41 x))))) 39 5 (qS (h 41 x)) = (setO g14_2 39 (fup (h 39) 5 (qS (h 41 x)))) from up_can (sOf_eq _ _ _) (fup_same _ _ _ _) (setO_same _ _ _ _)) (by omega)
      have hF_187 : FR [39, 41, 42] h (setO g14_2 39 (fup (h 39) 5 (qS (h 41 x)))) := FR_up (show up (setO g14_2 39 (fup (h 39) 5 (((h 39) 5) - (qS (h 41 x))))) 39 5 (qS (h 41 x)) = (setO g14_2 39 (fup (h 39) 5 (qS (h 41 x)))) from up_can (sOf_eq _ _ _) (fup_same _ _ _ _) (setO_same _ _ _ _)) hF_4 (by decide)
      refine TT_goto hK (tgt := 114) dX6_tellBit_66 (by decide) ?_
      refine TT_aload_n hK rfl 3 rfl dX6_tellBit_114 ?_
      refine gf_X6_12 hK (by decide) rfl (q := 40) rfl rfl dX6_tellBit_115 ?_
      refine TT_iload_n hK rfl 4 rfl dX6_tellBit_118 ?_
      refine TT_iload hK 0 rfl dX6_tellBit_119 ?_
      refine iv_X6_71 hK (s_learn40_e x (h 42 x) (setO g14_2 39 (fup (h 39) 5 (qS (h 41 x)))) hT_187 (by first | omega | (simp [up, setR] <;> omega)) (by first | omega | (simp [up, setR] <;> omega))) (by decide) rfl ⟨by decide, by decide⟩ (by decide) rfl rfl (Nat.le_of_ble_eq_true rfl) ⟨by decide, by decide⟩ dX6_tellBit_121 ?_
      intro r9 g121_188 hp9
      obtain ⟨⟨hT_188, hG_188⟩, hr9, l1_188, l2_188⟩ := hp9
      rw [hr9]
      have hF_188 : FR [39, 41, 42] h g121_188 := FR_tr hF_187 hG_188 (by decide)
      rw [show (setO g14_2 39 (fup (h 39) 5 (qS (h 41 x)))) 41 = h 41 from (sOf_ne _ _ (by decide)).trans (((hG_2 41 (by decide))).trans (hG_1 41 (by decide)))] at l1_188
      rw [show (setO g14_2 39 (fup (h 39) 5 (qS (h 41 x)))) 42 = h 42 from (sOf_ne _ _ (by decide)).trans (((hG_2 42 (by decide))).trans (hG_1 42 (by decide)))] at l1_188
      rw [show (setO g14_2 39 (fup (h 39) 5 (qS (h 41 x)))) 41 = h 41 from (sOf_ne _ _ (by decide)).trans (((hG_2 41 (by decide))).trans (hG_1 41 (by decide)))] at l2_188
      rw [show (setO g14_2 39 (fup (h 39) 5 (qS (h 41 x)))) 42 = h 42 from (sOf_ne _ _ (by decide)).trans (((hG_2 42 (by decide))).trans (hG_1 42 (by decide)))] at l2_188
      have l1_at121 := l1_188
      have l2_at121 := l2_188
      show TT K ly 0 0 124 [(5, vI (h 42 x)), (4, vI (h 42 x)), (3, vI (qS (h 41 x))), (0, vR 39), (1, vI x), (2, vI b)] [] g121_188
      refine TT_iconst hK dX6_tellBit_124 ?_
      refine TT_istore hK (lv' := [(6, vI 0), (5, vI (h 42 x)), (4, vI (h 42 x)), (3, vI (qS (h 41 x))), (0, vR 39), (1, vI x), (2, vI b)]) (by decide) rfl dX6_tellBit_125 ?_
      have L127_189 : ∀ (k189 : Nat) (k : Int) (b9 : Int) (R9 : Int × Int × Int × Int) (w127_189 : Hp_), TY w127_189 → FR [39, 41, 42] h w127_189 → (0 ≤ k ∧ k ≤ 15) → (0 ≤ b9 ∧ b9 ≤ 1) → ((w127_189 39 3) = h 39 3) → ((w127_189 39 2) = h 39 2) → (k ≤ 15) → (0 ≤ (w127_189 39 7) ∧ (w127_189 39 7) ≤ 1099511627776) → (RJ_ fxC (h 43) (h 39 3) (15 - k).toNat (w127_189 39 5) (w127_189 39 7) (w127_189 39 6) (w127_189 39 4) R9) → (rdS lwC fxC (h 43) (h 39 3) ((h 39 5), (h 39 7), (h 39 6), (h 39 4), (h 41), (h 42)) x = (b9, R9.1, R9.2.1, R9.2.2.1, R9.2.2.2, (w127_189 41), (w127_189 42))) → ((15 : Int) - k).toNat < k189 → TT K ly 0 0 127 [(0, vR 39), (1, vI x), (5, vI b9), (6, vI k)] [] w127_189 := by
        intro k189
        induction k189 with
        | zero => intro k b9 R9 w127_189 hT127_189 hF127_189 hk hb9 k3 k2 hk15 hcb hM hR hk189; exact absurd hk189 (Nat.not_lt_zero _)
        | succ k189 ih189 =>
          intro k b9 R9 w127_189 hT127_189 hF127_189 hk hb9 k3 k2 hk15 hcb hM hR hk189
          have hcr := hM.2.2
          obtain ⟨m1, m2, m3, m4, m5, m6⟩ := hcr
          refine TT_iload hK 3 rfl dX6_tellBit_127 ?_
          refine TT_bipush hK (by decide) dX6_tellBit_129 ?_
          refine TT_icmp_ge hK (tgt := 196) (irm (by omega) (by omega)) (by decide) dX6_tellBit_131 (by decide) (fun hb131_190 => ?_) (fun hb131_190 => ?_)
          · refine TT_iload hK 2 rfl dX6_tellBit_196 ?_
            refine TT_iret hK hQ ?_ dX6_tellBit_198
            have e191_39_4 : w127_189 39 4 = (w127_189 39) 4 := rfl
            have e192_39_5 : w127_189 39 5 = (w127_189 39) 5 := rfl
            have e193_39_6 : w127_189 39 6 = (w127_189 39) 6 := rfl
            have e194_39_7 : w127_189 39 7 = (w127_189 39) 7 := rfl
            have e195_39_2 : w127_189 39 2 = (w127_189 39) 2 := rfl
            have e196_39_3 : w127_189 39 3 = (w127_189 39) 3 := rfl
            exact ⟨⟨hT127_189, hF127_189⟩, b9, rfl, (by omega), (by rewrite [e191_39_4, e192_39_5, e193_39_6, e194_39_7]; first | (obtain ⟨u4, u5, u6, u7, u8, u9⟩ := hrq; exact ⟨rdS_1c (by omega) (by omega) (by omega) (by omega), ⟨by omega, by omega, by omega, by omega, by omega, by omega⟩, by omega, by omega⟩) | (have hd := RJ_done hM (by first | omega | (have h0 : (15 - k).toNat = 0 := (by omega); rw [h0] at hM; exact RJ_z hM)); exact ⟨by rw [hR, ← hd], hM.2.2, by omega, by first | omega | (have h0 : (15 - k).toNat = 0 := (by omega); rw [h0] at hM; exact RJ_z hM)⟩)), (by rewrite [e195_39_2, e196_39_3]; omega)⟩
          · refine TT_aload_n hK rfl 0 rfl dX6_tellBit_134 ?_
            refine gf_X6_60 hK (by decide) rfl (v := (w127_189 39) 5) rfl dX6_tellBit_135 ?_
            have r197 := ty_39_5 (v := (w127_189 39) 5) hT127_189 rfl
            refine TT_ldc hK lc_X6_59 dX6_tellBit_138 ?_
            refine TT_icmp_ge hK (tgt := 196) (irm (by omega) (by omega)) (by decide) dX6_tellBit_140 (by decide) (fun hb140_198 => ?_) (fun hb140_198 => ?_)
            · refine TT_iload hK 2 rfl dX6_tellBit_196 ?_
              refine TT_iret hK hQ ?_ dX6_tellBit_198
              have e199_39_4 : w127_189 39 4 = (w127_189 39) 4 := rfl
              have e200_39_5 : w127_189 39 5 = (w127_189 39) 5 := rfl
              have e201_39_6 : w127_189 39 6 = (w127_189 39) 6 := rfl
              have e202_39_7 : w127_189 39 7 = (w127_189 39) 7 := rfl
              have e203_39_2 : w127_189 39 2 = (w127_189 39) 2 := rfl
              have e204_39_3 : w127_189 39 3 = (w127_189 39) 3 := rfl
              exact ⟨⟨hT127_189, hF127_189⟩, b9, rfl, (by omega), (by rewrite [e199_39_4, e200_39_5, e201_39_6, e202_39_7]; first | (obtain ⟨u4, u5, u6, u7, u8, u9⟩ := hrq; exact ⟨rdS_1c (by omega) (by omega) (by omega) (by omega), ⟨by omega, by omega, by omega, by omega, by omega, by omega⟩, by omega, by omega⟩) | (have hd := RJ_done hM (by first | omega | (have h0 : (15 - k).toNat = 0 := (by omega); rw [h0] at hM; exact RJ_z hM)); exact ⟨by rw [hR, ← hd], hM.2.2, by omega, by first | omega | (have h0 : (15 - k).toNat = 0 := (by omega); rw [h0] at hM; exact RJ_z hM)⟩)), (by rewrite [e203_39_2, e204_39_3]; omega)⟩
            · refine TT_aload_n hK rfl 0 rfl dX6_tellBit_143 ?_
              refine gf_X6_56 hK (by decide) rfl (v := (w127_189 39) 6) rfl dX6_tellBit_144 ?_
              have r205 := ty_39_6 (v := (w127_189 39) 6) hT127_189 rfl
              refine TT_if_ne hK (tgt := 154) (irm (by omega) (by omega)) dX6_tellBit_147 (by decide) (fun hb147_206 => ?_) (fun hb147_206 => ?_)
              · 
                refine TT_aload_n hK rfl 0 rfl dX6_tellBit_154 ?_
                refine TT_dup hK rfl dX6_tellBit_155 ?_
                refine gf_X6_60 hK (by decide) rfl (v := (w127_189 39) 5) rfl dX6_tellBit_156 ?_
                refine TT_iconst hK dX6_tellBit_159 ?_
                refine TT_ishl hK (by omega) (by omega) dX6_tellBit_160 ?_
                refine TT_cgI (b := ((w127_189 39) 5) * 2) rfl ?_
                refine TT_cgI (b := 2 * ((w127_189 39) 5)) (by omega) ?_
                refine pf_X6_60 hK (by decide) rfl dX6_tellBit_161 ?_
                refine TT_hp (h' := setO w127_189 39 (fup (w127_189 39) 5 (2 * ((w127_189 39) 5)))) (up_can rfl rfl rfl) ?_
                have hT_207 : TY (setO w127_189 39 (fup (w127_189 39) 5 (2 * ((w127_189 39) 5)))) := tu_39_5 hT127_189 (show up w127_189 39 5 (2 * ((w127_189 39) 5)) = (setO w127_189 39 (fup (w127_189 39) 5 (2 * ((w127_189 39) 5)))) from up_can rfl rfl rfl) (by omega)
                have hF_207 : FR [39, 41, 42] h (setO w127_189 39 (fup (w127_189 39) 5 (2 * ((w127_189 39) 5)))) := FR_up (show up w127_189 39 5 (2 * ((w127_189 39) 5)) = (setO w127_189 39 (fup (w127_189 39) 5 (2 * ((w127_189 39) 5)))) from up_can rfl rfl rfl) hF127_189 (by decide)
                refine TT_aload_n hK rfl 0 rfl dX6_tellBit_164 ?_
                refine TT_aload_n hK rfl 0 rfl dX6_tellBit_165 ?_
                refine gf_X6_49 hK (by decide) rfl (v := (w127_189 39) 7) (rd_ (sOf_eq _ _ _) (fup_ne _ _ (by decide))) dX6_tellBit_166 ?_
                have r208 := ty_39_7 (v := (w127_189 39) 7) hT_207 (rd_ (sOf_eq _ _ _) (fup_ne _ _ (by decide)))
                refine TT_iconst hK dX6_tellBit_169 ?_
                refine TT_lshl hK (by decide) dX6_tellBit_170 ?_
                refine TT_cgJ (b := ((w127_189 39) 7) * 2) rfl ?_
                refine TT_cgJ (b := 2 * ((w127_189 39) 7)) (by omega) ?_
                refine TT_ldc2 hK lc_X6_75 dX6_tellBit_171 ?_
                refine TT_mminl hK (lrm (by omega) (by omega)) (by decide) iw_X6_77 (by decide) (Nat.le_of_ble_eq_true rfl) ⟨by decide, by decide⟩ dX6_tellBit_174 ?_
                have fx9 := fxC_r (c := 2 * ((w127_189 39) 7)) (by omega)
                refine TT_cgJ (b := fxC (2 * ((w127_189 39) 7))) (by rfl) ?_
                refine pf_X6_49 hK (by decide) rfl dX6_tellBit_177 ?_
                refine TT_hp (h' := setO w127_189 39 (fup (fup (w127_189 39) 5 (2 * ((w127_189 39) 5))) 7 (fxC (2 * ((w127_189 39) 7))))) (up_can (sOf_eq _ _ _) rfl (setO_same _ _ _ _)) ?_
                have hT_209 : TY (setO w127_189 39 (fup (fup (w127_189 39) 5 (2 * ((w127_189 39) 5))) 7 (fxC (2 * ((w127_189 39) 7))))) := tu_39_7 hT_207 (show up (setO w127_189 39 (fup (w127_189 39) 5 (2 * ((w127_189 39) 5)))) 39 7 (fxC (2 * ((w127_189 39) 7))) = (setO w127_189 39 (fup (fup (w127_189 39) 5 (2 * ((w127_189 39) 5))) 7 (fxC (2 * ((w127_189 39) 7))))) from up_can (sOf_eq _ _ _) rfl (setO_same _ _ _ _)) (by omega)
                have hF_209 : FR [39, 41, 42] h (setO w127_189 39 (fup (fup (w127_189 39) 5 (2 * ((w127_189 39) 5))) 7 (fxC (2 * ((w127_189 39) 7))))) := FR_up (show up (setO w127_189 39 (fup (w127_189 39) 5 (2 * ((w127_189 39) 5)))) 39 7 (fxC (2 * ((w127_189 39) 7))) = (setO w127_189 39 (fup (fup (w127_189 39) 5 (2 * ((w127_189 39) 5))) 7 (fxC (2 * ((w127_189 39) 7))))) from up_can (sOf_eq _ _ _) rfl (setO_same _ _ _ _)) hF_207 (by decide)
                refine TT_aload_n hK rfl 0 rfl dX6_tellBit_180 ?_
                refine TT_dup hK rfl dX6_tellBit_181 ?_
                refine gf_X6_56 hK (by decide) rfl (v := (w127_189 39) 6) (rd_ (sOf_eq _ _ _) ((fup_ne _ _ (by decide)).trans (fup_ne _ _ (by decide)))) dX6_tellBit_182 ?_
                refine TT_iconst hK dX6_tellBit_185 ?_
                refine TT_isub hK dX6_tellBit_186 ?_
                refine pf_X6_56 hK (by decide) rfl dX6_tellBit_187 ?_
                refine TT_hp (h' := setO w127_189 39 (fup (fup (fup (w127_189 39) 5 (2 * ((w127_189 39) 5))) 6 (((w127_189 39) 6) - 1)) 7 (fxC (2 * ((w127_189 39) 7))))) (up_can (sOf_eq _ _ _) (fup_comm _ _ _ (by decide)) (setO_same _ _ _ _)) ?_
                have hT_210 : TY (setO w127_189 39 (fup (fup (fup (w127_189 39) 5 (2 * ((w127_189 39) 5))) 6 (((w127_189 39) 6) - 1)) 7 (fxC (2 * ((w127_189 39) 7))))) := tu_39_6 hT_209 (show up (setO w127_189 39 (fup (fup (w127_189 39) 5 (2 * ((w127_189 39) 5))) 7 (fxC (2 * ((w127_189 39) 7))))) 39 6 (((w127_189 39) 6) - 1) = (setO w127_189 39 (fup (fup (fup (w127_189 39) 5 (2 * ((w127_189 39) 5))) 6 (((w127_189 39) 6) - 1)) 7 (fxC (2 * ((w127_189 39) 7))))) from up_can (sOf_eq _ _ _) (fup_comm _ _ _ (by decide)) (setO_same _ _ _ _)) (by omega)
                have hF_210 : FR [39, 41, 42] h (setO w127_189 39 (fup (fup (fup (w127_189 39) 5 (2 * ((w127_189 39) 5))) 6 (((w127_189 39) 6) - 1)) 7 (fxC (2 * ((w127_189 39) 7))))) := FR_up (show up (setO w127_189 39 (fup (fup (w127_189 39) 5 (2 * ((w127_189 39) 5))) 7 (fxC (2 * ((w127_189 39) 7))))) 39 6 (((w127_189 39) 6) - 1) = (setO w127_189 39 (fup (fup (fup (w127_189 39) 5 (2 * ((w127_189 39) 5))) 6 (((w127_189 39) 6) - 1)) 7 (fxC (2 * ((w127_189 39) 7))))) from up_can (sOf_eq _ _ _) (fup_comm _ _ _ (by decide)) (setO_same _ _ _ _)) hF_209 (by decide)
                refine TT_iinc hK (v := k + 1) (lv' := [(6, vI (k + 1)), (0, vR 39), (1, vI x), (5, vI b9)]) 3 rfl rfl (by decide) rfl dX6_tellBit_190 ?_
                refine TT_goto hK (tgt := 127) dX6_tellBit_193 (by decide) ?_
                refine TT_sub [1, 2, 3, 0] rfl ?_
                have e211_39_3 : (setO w127_189 39 (fup (fup (fup (w127_189 39) 5 (2 * ((w127_189 39) 5))) 6 (((w127_189 39) 6) - 1)) 7 (fxC (2 * ((w127_189 39) 7))))) 39 3 = (w127_189 39) 3 := rd_ (sOf_eq _ _ _) ((fup_ne _ _ (by decide)).trans ((fup_ne _ _ (by decide)).trans (fup_ne _ _ (by decide))))
                have e212_39_2 : (setO w127_189 39 (fup (fup (fup (w127_189 39) 5 (2 * ((w127_189 39) 5))) 6 (((w127_189 39) 6) - 1)) 7 (fxC (2 * ((w127_189 39) 7))))) 39 2 = (w127_189 39) 2 := rd_ (sOf_eq _ _ _) ((fup_ne _ _ (by decide)).trans ((fup_ne _ _ (by decide)).trans (fup_ne _ _ (by decide))))
                have e213_39_7 : (setO w127_189 39 (fup (fup (fup (w127_189 39) 5 (2 * ((w127_189 39) 5))) 6 (((w127_189 39) 6) - 1)) 7 (fxC (2 * ((w127_189 39) 7))))) 39 7 = fxC (2 * ((w127_189 39) 7)) := rd_ (sOf_eq _ _ _) (fup_eq _ _ _)
                have e214_39_4 : (setO w127_189 39 (fup (fup (fup (w127_189 39) 5 (2 * ((w127_189 39) 5))) 6 (((w127_189 39) 6) - 1)) 7 (fxC (2 * ((w127_189 39) 7))))) 39 4 = (w127_189 39) 4 := rd_ (sOf_eq _ _ _) ((fup_ne _ _ (by decide)).trans ((fup_ne _ _ (by decide)).trans (fup_ne _ _ (by decide))))
                have e215_39_5 : (setO w127_189 39 (fup (fup (fup (w127_189 39) 5 (2 * ((w127_189 39) 5))) 6 (((w127_189 39) 6) - 1)) 7 (fxC (2 * ((w127_189 39) 7))))) 39 5 = 2 * ((w127_189 39) 5) := rd_ (sOf_eq _ _ _) ((fup_ne _ _ (by decide)).trans ((fup_ne _ _ (by decide)).trans (fup_eq _ _ _)))
                have e216_39_6 : (setO w127_189 39 (fup (fup (fup (w127_189 39) 5 (2 * ((w127_189 39) 5))) 6 (((w127_189 39) 6) - 1)) 7 (fxC (2 * ((w127_189 39) 7))))) 39 6 = ((w127_189 39) 6) - 1 := rd_ (sOf_eq _ _ _) ((fup_ne _ _ (by decide)).trans (fup_eq _ _ _))
                have e217_39_7 : (setO w127_189 39 (fup (fup (fup (w127_189 39) 5 (2 * ((w127_189 39) 5))) 6 (((w127_189 39) 6) - 1)) 7 (fxC (2 * ((w127_189 39) 7))))) 39 7 = fxC (2 * ((w127_189 39) 7)) := rd_ (sOf_eq _ _ _) (fup_eq _ _ _)
                have e218_41 : (setO w127_189 39 (fup (fup (fup (w127_189 39) 5 (2 * ((w127_189 39) 5))) 6 (((w127_189 39) 6) - 1)) 7 (fxC (2 * ((w127_189 39) 7))))) 41 = w127_189 41 := sOf_ne _ _ (by decide)
                have e219_42 : (setO w127_189 39 (fup (fup (fup (w127_189 39) 5 (2 * ((w127_189 39) 5))) 6 (((w127_189 39) 6) - 1)) 7 (fxC (2 * ((w127_189 39) 7))))) 42 = w127_189 42 := sOf_ne _ _ (by decide)
                exact ih189 (k + 1) b9 R9 (setO w127_189 39 (fup (fup (fup (w127_189 39) 5 (2 * ((w127_189 39) 5))) 6 (((w127_189 39) 6) - 1)) 7 (fxC (2 * ((w127_189 39) 7))))) hT_210 hF_210 (by first | omega | (simp [up, setR] <;> omega)) (by first | omega | (simp [up, setR] <;> omega)) (by rewrite [e211_39_3]; first | omega | (simp [up, setR] <;> omega)) (by rewrite [e212_39_2]; first | omega | (simp [up, setR] <;> omega)) (by first | omega | (simp [up, setR] <;> omega)) (by rewrite [e213_39_7]; unfold fxC; omega) (by rewrite [e214_39_4, e215_39_5, e216_39_6, e217_39_7]; have h1 : (15 - k).toNat = (15 - (k + 1)).toNat + 1 := (by omega); rw [h1] at hM; first | exact RJ_next hM (by omega) (by omega) rfl) (by rewrite [e218_41, e219_42]; exact hR) (by first | omega | (simp [up, setR] <;> omega))
              · refine TT_aload_n hK rfl 0 rfl dX6_tellBit_150 ?_
                refine iv_X6_53 hK (s_comeIn_e w127_189 hT127_189 ) (by decide) rfl ⟨by decide, by decide⟩ (by decide) rfl rfl (Nat.le_of_ble_eq_true rfl) ⟨by decide, by decide⟩ dX6_tellBit_151 ?_
                intro r9 g151_220 hp9
                obtain ⟨⟨hT_220, hG_220⟩, hr9, p1_220, in_220, ck_220⟩ := hp9
                rw [hr9]
                have hF_220 : FR [39, 41, 42] h g151_220 := FR_tr hF127_189 hG_220 (by decide)
                rw [show w127_189 39 3 = (w127_189 39) 3 from rfl] at in_220
                rw [show w127_189 39 4 = (w127_189 39) 4 from rfl] at in_220
                rw [show w127_189 39 7 = (w127_189 39) 7 from rfl] at in_220
                rw [show w127_189 43 = h 43 from (hF127_189 43 (by decide))] at in_220
                rw [show w127_189 39 2 = (w127_189 39) 2 from rfl] at ck_220
                rw [show w127_189 39 3 = (w127_189 39) 3 from rfl] at ck_220
                rw [show w127_189 39 5 = (w127_189 39) 5 from rfl] at ck_220
                have in_at151 := in_220
                have ck_at151 := ck_220
                show TT K ly 0 0 154 [(0, vR 39), (1, vI x), (5, vI b9), (6, vI k)] [] g151_220
                have i9r := inS_rr (by rw [k3]; exact hsr) (by omega) (by omega) (in_at151 (by omega))
                refine TT_aload_n hK rfl 0 rfl dX6_tellBit_154 ?_
                refine TT_dup hK rfl dX6_tellBit_155 ?_
                refine gf_X6_60 hK (by decide) rfl (v := (g151_220 39) 5) rfl dX6_tellBit_156 ?_
                have r221 := ty_39_5 (v := (g151_220 39) 5) hT_220 rfl
                refine TT_iconst hK dX6_tellBit_159 ?_
                refine TT_ishl hK (by omega) (by omega) dX6_tellBit_160 ?_
                refine TT_cgI (b := ((g151_220 39) 5) * 2) rfl ?_
                refine TT_cgI (b := 2 * ((g151_220 39) 5)) (by omega) ?_
                refine pf_X6_60 hK (by decide) rfl dX6_tellBit_161 ?_
                refine TT_hp (h' := setO g151_220 39 (fup (g151_220 39) 5 (2 * ((g151_220 39) 5)))) (up_can rfl rfl rfl) ?_
                have hT_222 : TY (setO g151_220 39 (fup (g151_220 39) 5 (2 * ((g151_220 39) 5)))) := tu_39_5 hT_220 (show up g151_220 39 5 (2 * ((g151_220 39) 5)) = (setO g151_220 39 (fup (g151_220 39) 5 (2 * ((g151_220 39) 5)))) from up_can rfl rfl rfl) (by omega)
                have hF_222 : FR [39, 41, 42] h (setO g151_220 39 (fup (g151_220 39) 5 (2 * ((g151_220 39) 5)))) := FR_up (show up g151_220 39 5 (2 * ((g151_220 39) 5)) = (setO g151_220 39 (fup (g151_220 39) 5 (2 * ((g151_220 39) 5)))) from up_can rfl rfl rfl) hF_220 (by decide)
                refine TT_aload_n hK rfl 0 rfl dX6_tellBit_164 ?_
                refine TT_aload_n hK rfl 0 rfl dX6_tellBit_165 ?_
                refine gf_X6_49 hK (by decide) rfl (v := (g151_220 39) 7) (rd_ (sOf_eq _ _ _) (fup_ne _ _ (by decide))) dX6_tellBit_166 ?_
                have r223 := ty_39_7 (v := (g151_220 39) 7) hT_222 (rd_ (sOf_eq _ _ _) (fup_ne _ _ (by decide)))
                refine TT_iconst hK dX6_tellBit_169 ?_
                refine TT_lshl hK (by decide) dX6_tellBit_170 ?_
                refine TT_cgJ (b := ((g151_220 39) 7) * 2) rfl ?_
                refine TT_cgJ (b := 2 * ((g151_220 39) 7)) (by omega) ?_
                refine TT_ldc2 hK lc_X6_75 dX6_tellBit_171 ?_
                refine TT_mminl hK (lrm (by omega) (by omega)) (by decide) iw_X6_77 (by decide) (Nat.le_of_ble_eq_true rfl) ⟨by decide, by decide⟩ dX6_tellBit_174 ?_
                have fx9 := fxC_r (c := 2 * ((g151_220 39) 7)) (by omega)
                refine TT_cgJ (b := fxC (2 * ((g151_220 39) 7))) (by rfl) ?_
                refine pf_X6_49 hK (by decide) rfl dX6_tellBit_177 ?_
                refine TT_hp (h' := setO g151_220 39 (fup (fup (g151_220 39) 5 (2 * ((g151_220 39) 5))) 7 (fxC (2 * ((g151_220 39) 7))))) (up_can (sOf_eq _ _ _) rfl (setO_same _ _ _ _)) ?_
                have hT_224 : TY (setO g151_220 39 (fup (fup (g151_220 39) 5 (2 * ((g151_220 39) 5))) 7 (fxC (2 * ((g151_220 39) 7))))) := tu_39_7 hT_222 (show up (setO g151_220 39 (fup (g151_220 39) 5 (2 * ((g151_220 39) 5)))) 39 7 (fxC (2 * ((g151_220 39) 7))) = (setO g151_220 39 (fup (fup (g151_220 39) 5 (2 * ((g151_220 39) 5))) 7 (fxC (2 * ((g151_220 39) 7))))) from up_can (sOf_eq _ _ _) rfl (setO_same _ _ _ _)) (by omega)
                have hF_224 : FR [39, 41, 42] h (setO g151_220 39 (fup (fup (g151_220 39) 5 (2 * ((g151_220 39) 5))) 7 (fxC (2 * ((g151_220 39) 7))))) := FR_up (show up (setO g151_220 39 (fup (g151_220 39) 5 (2 * ((g151_220 39) 5)))) 39 7 (fxC (2 * ((g151_220 39) 7))) = (setO g151_220 39 (fup (fup (g151_220 39) 5 (2 * ((g151_220 39) 5))) 7 (fxC (2 * ((g151_220 39) 7))))) from up_can (sOf_eq _ _ _) rfl (setO_same _ _ _ _)) hF_222 (by decide)
                refine TT_aload_n hK rfl 0 rfl dX6_tellBit_180 ?_
                refine TT_dup hK rfl dX6_tellBit_181 ?_
                refine gf_X6_56 hK (by decide) rfl (v := (g151_220 39) 6) (rd_ (sOf_eq _ _ _) ((fup_ne _ _ (by decide)).trans (fup_ne _ _ (by decide)))) dX6_tellBit_182 ?_
                have r225 := ty_39_6 (v := (g151_220 39) 6) hT_224 (rd_ (sOf_eq _ _ _) ((fup_ne _ _ (by decide)).trans (fup_ne _ _ (by decide))))
                refine TT_iconst hK dX6_tellBit_185 ?_
                refine TT_isub hK dX6_tellBit_186 ?_
                refine pf_X6_56 hK (by decide) rfl dX6_tellBit_187 ?_
                refine TT_hp (h' := setO g151_220 39 (fup (fup (fup (g151_220 39) 5 (2 * ((g151_220 39) 5))) 6 (((g151_220 39) 6) - 1)) 7 (fxC (2 * ((g151_220 39) 7))))) (up_can (sOf_eq _ _ _) (fup_comm _ _ _ (by decide)) (setO_same _ _ _ _)) ?_
                have hT_226 : TY (setO g151_220 39 (fup (fup (fup (g151_220 39) 5 (2 * ((g151_220 39) 5))) 6 (((g151_220 39) 6) - 1)) 7 (fxC (2 * ((g151_220 39) 7))))) := tu_39_6 hT_224 (show up (setO g151_220 39 (fup (fup (g151_220 39) 5 (2 * ((g151_220 39) 5))) 7 (fxC (2 * ((g151_220 39) 7))))) 39 6 (((g151_220 39) 6) - 1) = (setO g151_220 39 (fup (fup (fup (g151_220 39) 5 (2 * ((g151_220 39) 5))) 6 (((g151_220 39) 6) - 1)) 7 (fxC (2 * ((g151_220 39) 7))))) from up_can (sOf_eq _ _ _) (fup_comm _ _ _ (by decide)) (setO_same _ _ _ _)) (by omega)
                have hF_226 : FR [39, 41, 42] h (setO g151_220 39 (fup (fup (fup (g151_220 39) 5 (2 * ((g151_220 39) 5))) 6 (((g151_220 39) 6) - 1)) 7 (fxC (2 * ((g151_220 39) 7))))) := FR_up (show up (setO g151_220 39 (fup (fup (g151_220 39) 5 (2 * ((g151_220 39) 5))) 7 (fxC (2 * ((g151_220 39) 7))))) 39 6 (((g151_220 39) 6) - 1) = (setO g151_220 39 (fup (fup (fup (g151_220 39) 5 (2 * ((g151_220 39) 5))) 6 (((g151_220 39) 6) - 1)) 7 (fxC (2 * ((g151_220 39) 7))))) from up_can (sOf_eq _ _ _) (fup_comm _ _ _ (by decide)) (setO_same _ _ _ _)) hF_224 (by decide)
                refine TT_iinc hK (v := k + 1) (lv' := [(6, vI (k + 1)), (0, vR 39), (1, vI x), (5, vI b9)]) 3 rfl rfl (by decide) rfl dX6_tellBit_190 ?_
                refine TT_goto hK (tgt := 127) dX6_tellBit_193 (by decide) ?_
                refine TT_sub [1, 2, 3, 0] rfl ?_
                have e227_39_3 : (setO g151_220 39 (fup (fup (fup (g151_220 39) 5 (2 * ((g151_220 39) 5))) 6 (((g151_220 39) 6) - 1)) 7 (fxC (2 * ((g151_220 39) 7))))) 39 3 = (g151_220 39) 3 := rd_ (sOf_eq _ _ _) ((fup_ne _ _ (by decide)).trans ((fup_ne _ _ (by decide)).trans (fup_ne _ _ (by decide))))
                have e228_39_2 : (setO g151_220 39 (fup (fup (fup (g151_220 39) 5 (2 * ((g151_220 39) 5))) 6 (((g151_220 39) 6) - 1)) 7 (fxC (2 * ((g151_220 39) 7))))) 39 2 = (g151_220 39) 2 := rd_ (sOf_eq _ _ _) ((fup_ne _ _ (by decide)).trans ((fup_ne _ _ (by decide)).trans (fup_ne _ _ (by decide))))
                have e229_39_7 : (setO g151_220 39 (fup (fup (fup (g151_220 39) 5 (2 * ((g151_220 39) 5))) 6 (((g151_220 39) 6) - 1)) 7 (fxC (2 * ((g151_220 39) 7))))) 39 7 = fxC (2 * ((g151_220 39) 7)) := rd_ (sOf_eq _ _ _) (fup_eq _ _ _)
                have e230_39_4 : (setO g151_220 39 (fup (fup (fup (g151_220 39) 5 (2 * ((g151_220 39) 5))) 6 (((g151_220 39) 6) - 1)) 7 (fxC (2 * ((g151_220 39) 7))))) 39 4 = (g151_220 39) 4 := rd_ (sOf_eq _ _ _) ((fup_ne _ _ (by decide)).trans ((fup_ne _ _ (by decide)).trans (fup_ne _ _ (by decide))))
                have e231_39_5 : (setO g151_220 39 (fup (fup (fup (g151_220 39) 5 (2 * ((g151_220 39) 5))) 6 (((g151_220 39) 6) - 1)) 7 (fxC (2 * ((g151_220 39) 7))))) 39 5 = 2 * ((g151_220 39) 5) := rd_ (sOf_eq _ _ _) ((fup_ne _ _ (by decide)).trans ((fup_ne _ _ (by decide)).trans (fup_eq _ _ _)))
                have e232_39_6 : (setO g151_220 39 (fup (fup (fup (g151_220 39) 5 (2 * ((g151_220 39) 5))) 6 (((g151_220 39) 6) - 1)) 7 (fxC (2 * ((g151_220 39) 7))))) 39 6 = ((g151_220 39) 6) - 1 := rd_ (sOf_eq _ _ _) ((fup_ne _ _ (by decide)).trans (fup_eq _ _ _))
                have e233_39_7 : (setO g151_220 39 (fup (fup (fup (g151_220 39) 5 (2 * ((g151_220 39) 5))) 6 (((g151_220 39) 6) - 1)) 7 (fxC (2 * ((g151_220 39) 7))))) 39 7 = fxC (2 * ((g151_220 39) 7)) := rd_ (sOf_eq _ _ _) (fup_eq _ _ _)
                have e234_41 : (setO g151_220 39 (fup (fup (fup (g151_220 39) 5 (2 * ((g151_220 39) 5))) 6 (((g151_220 39) 6) - 1)) 7 (fxC (2 * ((g151_220 39) 7))))) 41 = w127_189 41 := (sOf_ne _ _ (by decide)).trans (hG_220 41 (by decide))
                have e235_42 : (setO g151_220 39 (fup (fup (fup (g151_220 39) 5 (2 * ((g151_220 39) 5))) 6 (((g151_220 39) 6) - 1)) 7 (fxC (2 * ((g151_220 39) 7))))) 42 = w127_189 42 := (sOf_ne _ _ (by decide)).trans (hG_220 42 (by decide))
                exact ih189 (k + 1) b9 R9 (setO g151_220 39 (fup (fup (fup (g151_220 39) 5 (2 * ((g151_220 39) 5))) 6 (((g151_220 39) 6) - 1)) 7 (fxC (2 * ((g151_220 39) 7))))) hT_226 hF_226 (by first | omega | (simp [up, setR] <;> omega)) (by first | omega | (simp [up, setR] <;> omega)) (by rewrite [e227_39_3]; first | omega | (simp [up, setR] <;> omega)) (by rewrite [e228_39_2]; first | omega | (simp [up, setR] <;> omega)) (by first | omega | (simp [up, setR] <;> omega)) (by rewrite [e229_39_7]; unfold fxC; omega) (by rewrite [e230_39_4, e231_39_5, e232_39_6, e233_39_7]; have h1 : (15 - k).toNat = (15 - (k + 1)).toNat + 1 := (by omega); rw [h1] at hM; first | exact RJ_next hM (by omega) (by omega) rfl | (rw [ck_at151.2.2]; exact RJK_in hsr hM (by omega) (by omega) (by have i9 := in_at151 (by omega); rw [k3] at i9; exact i9) rfl)) (by rewrite [e234_41, e235_42]; exact hR) (by first | omega | (simp [up, setR] <;> omega))
      refine TT_sub [4, 5, 1, 0] rfl ?_
      have e236_39_3 : g121_188 39 3 = (h 39) 3 := rd_ (((hG_188 39 (by decide))).trans (sOf_eq _ _ _)) (fup_ne _ _ (by decide))
      have e237_39_2 : g121_188 39 2 = (h 39) 2 := rd_ (((hG_188 39 (by decide))).trans (sOf_eq _ _ _)) (fup_ne _ _ (by decide))
      have e238_39_7 : g121_188 39 7 = (h 39) 7 := rd_ (((hG_188 39 (by decide))).trans (sOf_eq _ _ _)) (fup_ne _ _ (by decide))
      have e239_39_4 : g121_188 39 4 = (h 39) 4 := rd_ (((hG_188 39 (by decide))).trans (sOf_eq _ _ _)) (fup_ne _ _ (by decide))
      have e240_39_5 : g121_188 39 5 = qS (h 41 x) := rd_ (((hG_188 39 (by decide))).trans (sOf_eq _ _ _)) (fup_eq _ _ _)
      have e241_39_6 : g121_188 39 6 = (h 39) 6 := rd_ (((hG_188 39 (by decide))).trans (sOf_eq _ _ _)) (fup_ne _ _ (by decide))
      have e242_39_7 : g121_188 39 7 = (h 39) 7 := rd_ (((hG_188 39 (by decide))).trans (sOf_eq _ _ _)) (fup_ne _ _ (by decide))
      exact L127_189 ((((15 : Int) - 0).toNat) + 1) 0 (h 42 x) (rmS fxC (h 43) (h 39 3) 15 (qS (h 41 x)) ((h 39) 7) ((h 39) 6) ((h 39) 4)) g121_188 hT_188 hF_188 (by first | omega | (simp [up, setR] <;> omega)) (by first | omega | (simp [up, setR] <;> omega)) (by rewrite [e236_39_3]; first | omega | (simp [up, setR] <;> omega)) (by rewrite [e237_39_2]; first | omega | (simp [up, setR] <;> omega)) (by first | omega | (simp [up, setR] <;> omega)) (by rewrite [e238_39_7]; omega) (by rewrite [e239_39_4, e240_39_5, e241_39_6, e242_39_7]; exact RJ_0 (RQ_rd (x := x) (st := h 41) (P := lwC (h 39 7) < qS (h 41 x)) hrq ha5 hs (by first | exact (if_pos (by omega)).symm | exact (if_neg (by omega)).symm))) (by rw [l1_at121, l2_at121]; exact rdS_m (by omega) (by first | exact (if_pos (by omega)).symm | exact (if_neg (by omega)).symm) (by first | exact (if_pos (by omega)).symm | (rw [if_neg (by omega)]; omega)) (by omega) (by split <;> omega)) (Nat.lt_succ_self _)
set_option maxRecDepth 20000 in
theorem s_passesRight_e (T : List (Int × Int)) (D0 : DS_) (h : Hp_) (hT : TY h) (htp : TPE (h 24 3) (h 25) (h 26) T) (htl : (T.length : Int) ≤ 1024) (hen : ∀ k : Int, 0 ≤ k → k < (h 24 4) → 0 ≤ (h 27) k ∧ (h 27) k ≤ (T.length : Int)) (hd0 : D0 = ((h 39 5), (h 39 7), (h 39 6), (h 39 4), (h 41), (h 42))) (hc7 : 0 ≤ (h 39 7) ∧ (h 39 7) ≤ 1099511627776) (hrq : RQ_ (h 39 3) (h 39 5) (h 39 6) (h 39 4)) (ha5 : 32768 ≤ (h 39 5)) : Ctr yX7_passesReadRight cX7_passesReadRight 4 (some .int) (rmd 2) ly ly 0 0 [vR 24, vR 39] h (fun r h' => (TY h' ∧ FR [39, 41, 42] h h') ∧ ∃ z : Int, r = some (vI z) ∧ (0 ≤ z ∧ z ≤ 34) ∧ ((0 ≤ z ∧ z ≤ (h 24 4)) ∧ (∀ k : Int, 0 ≤ k → k < z → RTC (h 43) (h 39 3) T D0 ((h 27) k)) ∧ (z < (h 24 4) → ¬ RTC (h 43) (h 39 3) T D0 ((h 27) z))) ∧ ((h' 39 2) = (h 39 2))) := by
  refine Ctr_of (by decide) (Nat.le_of_ble_eq_true rfl) ⟨Nat.le_refl _, Nat.le_refl _⟩ (fun K hK hQ _ => ?_)
  show TT K ly 0 0 0 [(0, vR 24), (1, vR 39)] [] h
  have hF : FR [39, 41, 42] h h := FR_rf _ _
  refine TT_iconst hK dX7_passesReadRight_0 ?_
  refine TT_istore_n hK rfl (lv' := [(2, vI 0), (0, vR 24), (1, vR 39)]) (by decide) rfl dX7_passesReadRight_1 ?_
  refine TT_iconst hK dX7_passesReadRight_2 ?_
  refine TT_istore_n hK rfl (lv' := [(3, vI 0), (2, vI 0), (0, vR 24), (1, vR 39)]) (by decide) rfl dX7_passesReadRight_3 ?_
  have L4_1 : ∀ (k1 : Nat) (i : Int) (k : Int) (w4_1 : Hp_), TY w4_1 → FR [39, 41, 42] h w4_1 → (0 ≤ i ∧ i ≤ 1024) → (0 ≤ k ∧ k ≤ 34) → (∀ j : Int, 0 ≤ j → j < k → h 27 j ≤ i) → (RTC (h 43) (h 39 3) T D0 i) → ((rdFC (h 43) (h 39 3) (T.take i.toNat) (0, D0)).2 = ((w4_1 39 5), (w4_1 39 7), (w4_1 39 6), (w4_1 39 4), (w4_1 41), (w4_1 42))) → ((0 ≤ (w4_1 39 7) ∧ (w4_1 39 7) ≤ 1099511627776) ∧ RQ_ (h 39 3) (w4_1 39 5) (w4_1 39 6) (w4_1 39 4) ∧ 32768 ≤ (w4_1 39 5)) → ((w4_1 39 3) = h 39 3) → ((w4_1 39 2) = h 39 2) → ((34 : Int) - k).toNat < k1 → TT K ly 0 0 4 [(0, vR 24), (1, vR 39), (2, vI i), (3, vI k)] [] w4_1 := by
    intro k1
    induction k1 with
    | zero => intro i k w4_1 hT4_1 hF4_1 hi hk hpre hRT hst hcb k3 k2 hk1; exact absurd hk1 (Nat.not_lt_zero _)
    | succ k1 ih1 =>
      intro i k w4_1 hT4_1 hF4_1 hi hk hpre hRT hst hcb k3 k2 hk1
      refine TT_iload_n hK rfl 3 rfl dX7_passesReadRight_4 ?_
      refine TT_aload_n hK rfl 0 rfl dX7_passesReadRight_5 ?_
      refine gf_X7_25 hK (by decide) rfl (v := (h 24) 4) (rd_ (hF4_1 24 (by decide)) rfl) dX7_passesReadRight_6 ?_
      have r2 := ty_24_4 (v := (h 24) 4) hT4_1 (rd_ (hF4_1 24 (by decide)) rfl)
      refine TT_icmp_ge hK (tgt := 56) (irm (by omega) (by omega)) (irm (by omega) (by omega)) dX7_passesReadRight_9 (by decide) (fun hb9_3 => ?_) (fun hb9_3 => ?_)
      · refine TT_aload_n hK rfl 0 rfl dX7_passesReadRight_56 ?_
        refine gf_X7_25 hK (by decide) rfl (v := (h 24) 4) (rd_ (hF4_1 24 (by decide)) rfl) dX7_passesReadRight_57 ?_
        refine TT_iret hK hQ ?_ dX7_passesReadRight_60
        have e4_39_2 : w4_1 39 2 = (w4_1 39) 2 := rfl
        exact ⟨⟨hT4_1, hF4_1⟩, ((h 24) 4), rfl, (by omega), (by first | exact ⟨by omega, fun k9 g1 g2 => RTC_le hRT (hpre k9 g1 (by omega)), fun q => by omega⟩), (by rewrite [e4_39_2]; omega)⟩
      · have L12_5 : ∀ (k5 : Nat) (i2 : Int) (w12_5 : Hp_), TY w12_5 → FR [39, 41, 42] h w12_5 → (0 ≤ i2 ∧ i2 ≤ 1024) → (k < (w12_5 24 4)) → (∀ j : Int, 0 ≤ j → j < k → h 27 j ≤ i2) → (RTC (h 43) (h 39 3) T D0 i2) → ((rdFC (h 43) (h 39 3) (T.take i2.toNat) (0, D0)).2 = ((w12_5 39 5), (w12_5 39 7), (w12_5 39 6), (w12_5 39 4), (w12_5 41), (w12_5 42))) → ((0 ≤ (w12_5 39 7) ∧ (w12_5 39 7) ≤ 1099511627776) ∧ RQ_ (h 39 3) (w12_5 39 5) (w12_5 39 6) (w12_5 39 4) ∧ 32768 ≤ (w12_5 39 5)) → ((w12_5 39 3) = h 39 3) → ((w12_5 39 2) = h 39 2) → ((1024 : Int) - i2).toNat < k5 → TT K ly 0 0 12 [(0, vR 24), (1, vR 39), (2, vI i2), (3, vI k)] [] w12_5 := by
          intro k5
          induction k5 with
          | zero => intro i2 w12_5 hT12_5 hF12_5 hi2 hk2 hpre hRT hst hcb k3 k2 hk5; exact absurd hk5 (Nat.not_lt_zero _)
          | succ k5 ih5 =>
            intro i2 w12_5 hT12_5 hF12_5 hi2 hk2 hpre hRT hst hcb k3 k2 hk5
            refine TT_iload_n hK rfl 2 rfl dX7_passesReadRight_12 ?_
            refine TT_aload_n hK rfl 0 rfl dX7_passesReadRight_13 ?_
            refine gf_X7_18 hK (by decide) rfl (q := 27) rfl rfl dX7_passesReadRight_14 ?_
            refine TT_iload_n hK rfl 3 rfl dX7_passesReadRight_17 ?_
            refine TT_iald hK (o := 27) (n := 34) (by decide) rfl (by first | omega | (simp [up, setR] <;> omega)) (by first | omega | (simp [up, setR] <;> omega)) (v := (h 27) k) (rd_ (hF12_5 27 (by decide)) rfl) dX7_passesReadRight_18 ?_
            have r6 := ty_27 (i := k) (v := (h 27) k) hT12_5 (rd_ (hF12_5 27 (by decide)) rfl) (by omega) (by omega)
            refine TT_icmp_ge hK (tgt := 50) (irm (by omega) (by omega)) (irm (by omega) (by omega)) dX7_passesReadRight_19 (by decide) (fun hb19_7 => ?_) (fun hb19_7 => ?_)
            · refine TT_iinc hK (v := k + 1) (lv' := [(3, vI (k + 1)), (0, vR 24), (1, vR 39), (2, vI i2)]) 3 rfl rfl (by decide) rfl dX7_passesReadRight_50 ?_
              refine TT_goto hK (tgt := 4) dX7_passesReadRight_53 (by decide) ?_
              refine TT_sub [1, 2, 3, 0] rfl ?_
              have e8_39_4 : w12_5 39 4 = (w12_5 39) 4 := rfl
              have e9_39_5 : w12_5 39 5 = (w12_5 39) 5 := rfl
              have e10_39_6 : w12_5 39 6 = (w12_5 39) 6 := rfl
              have e11_39_7 : w12_5 39 7 = (w12_5 39) 7 := rfl
              have e12_39_4 : w12_5 39 4 = (w12_5 39) 4 := rfl
              have e13_39_5 : w12_5 39 5 = (w12_5 39) 5 := rfl
              have e14_39_6 : w12_5 39 6 = (w12_5 39) 6 := rfl
              have e15_39_7 : w12_5 39 7 = (w12_5 39) 7 := rfl
              have e16_39_3 : w12_5 39 3 = (w12_5 39) 3 := rfl
              have e17_39_2 : w12_5 39 2 = (w12_5 39) 2 := rfl
              exact ih1 i2 (k + 1) w12_5 hT12_5 hF12_5 (by first | omega | (simp [up, setR] <;> omega)) (by first | omega | (simp [up, setR] <;> omega)) (by intro j g1 g2; by_cases e : j = k; (rw [e]; omega); exact hpre j g1 (by omega)) (by exact hRT) (by rewrite [e8_39_4, e9_39_5, e10_39_6, e11_39_7]; exact hst) (by rewrite [e12_39_4, e13_39_5, e14_39_6, e15_39_7]; exact hcb) (by rewrite [e16_39_3]; first | omega | (simp [up, setR] <;> omega)) (by rewrite [e17_39_2]; first | omega | (simp [up, setR] <;> omega)) (by first | omega | (simp [up, setR] <;> omega))
            · have htn := htp.1
              have e27 := hen k (by omega) (by omega)
              have htk := htp.2 i2.toNat (by omega)
              rw [show ((i2.toNat : Nat) : Int) = i2 by omega] at htk
              have hcb1 := hcb.1
              have hcb3 := hcb.2.2
              refine TT_aload_n hK rfl 1 rfl dX7_passesReadRight_22 ?_
              refine TT_aload_n hK rfl 0 rfl dX7_passesReadRight_23 ?_
              refine gf_X7_9 hK (by decide) rfl (q := 25) rfl rfl dX7_passesReadRight_24 ?_
              refine TT_iload_n hK rfl 2 rfl dX7_passesReadRight_27 ?_
              refine TT_iald hK (o := 25) (n := 1024) (by decide) rfl (by first | omega | (simp [up, setR] <;> omega)) (by first | omega | (simp [up, setR] <;> omega)) (v := (h 25) i2) (rd_ (hF12_5 25 (by decide)) rfl) dX7_passesReadRight_28 ?_
              have r18 := ty_25 (i := i2) (v := (h 25) i2) hT12_5 (rd_ (hF12_5 25 (by decide)) rfl) (by omega) (by omega)
              refine TT_iconst hK dX7_passesReadRight_29 ?_
              have e19_39_7 : w12_5 39 7 = (w12_5 39) 7 := rfl
              have e20_39_3 : w12_5 39 3 = (w12_5 39) 3 := rfl
              have e21_39_4 : w12_5 39 4 = (w12_5 39) 4 := rfl
              have e22_39_5 : w12_5 39 5 = (w12_5 39) 5 := rfl
              have e23_39_6 : w12_5 39 6 = (w12_5 39) 6 := rfl
              have e24_39_5 : w12_5 39 5 = (w12_5 39) 5 := rfl
              refine iv_X7_34 hK (s_rtellBit_e ((h 25) i2) 0 w12_5 hT12_5 (by first | omega | (simp [up, setR] <;> omega)) (by first | omega | (simp [up, setR] <;> omega)) (by rewrite [e19_39_7]; omega) (by rewrite [e20_39_3, e21_39_4, e22_39_5, e23_39_6]; rw [k3]; exact hcb.2.1) (by rewrite [e24_39_5]; omega)) (by decide) rfl ⟨by decide, by decide⟩ (by decide) rfl rfl (Nat.le_of_ble_eq_true rfl) ⟨by decide, by decide⟩ dX7_passesReadRight_30 ?_
              intro r9 g30_25 hp9
              obtain ⟨⟨hT_25, hG_25⟩, z30_25, hr9, hz_25, rd_25, tk_25⟩ := hp9
              rw [hr9]
              have hF_25 : FR [39, 41, 42] h g30_25 := FR_tr hF12_5 hG_25 (by decide)
              rw [show w12_5 39 3 = (w12_5 39) 3 from rfl] at rd_25
              rw [show w12_5 39 4 = (w12_5 39) 4 from rfl] at rd_25
              rw [show w12_5 39 5 = (w12_5 39) 5 from rfl] at rd_25
              rw [show w12_5 39 6 = (w12_5 39) 6 from rfl] at rd_25
              rw [show w12_5 39 7 = (w12_5 39) 7 from rfl] at rd_25
              rw [show w12_5 43 = h 43 from (hF12_5 43 (by decide))] at rd_25
              rw [show w12_5 39 2 = (w12_5 39) 2 from rfl] at tk_25
              rw [show w12_5 39 3 = (w12_5 39) 3 from rfl] at tk_25
              have rd_at30 := rd_25
              have tk_at30 := tk_25
              show TT K ly 0 0 33 [(0, vR 24), (1, vR 39), (2, vI i2), (3, vI k)] [vI z30_25] g30_25
              have rd9 := rd_at30
              rw [k3] at rd9
              refine TT_aload_n hK rfl 0 rfl dX7_passesReadRight_33 ?_
              refine gf_X7_15 hK (by decide) rfl (q := 26) rfl rfl dX7_passesReadRight_34 ?_
              refine TT_iload_n hK rfl 2 rfl dX7_passesReadRight_37 ?_
              refine TT_iald hK (o := 26) (n := 1024) (by decide) rfl (by first | omega | (simp [up, setR] <;> omega)) (by first | omega | (simp [up, setR] <;> omega)) (v := (h 26) i2) (rd_ (((hG_25 26 (by decide))).trans (hF12_5 26 (by decide))) rfl) dX7_passesReadRight_38 ?_
              have r26 := ty_26 (i := i2) (v := (h 26) i2) hT_25 (rd_ (((hG_25 26 (by decide))).trans (hF12_5 26 (by decide))) rfl) (by omega) (by omega)
              refine TT_icmp_eq hK (tgt := 44) (irm (by omega) (by omega)) (irm (by omega) (by omega)) dX7_passesReadRight_39 (by decide) (fun hb39_27 => ?_) (fun hb39_27 => ?_)
              · refine TT_iinc hK (v := i2 + 1) (lv' := [(2, vI (i2 + 1)), (0, vR 24), (1, vR 39), (3, vI k)]) 2 rfl rfl (by decide) rfl dX7_passesReadRight_44 ?_
                refine TT_goto hK (tgt := 12) dX7_passesReadRight_47 (by decide) ?_
                refine TT_sub [1, 2, 0, 3] rfl ?_
                have e28_24_4 : g30_25 24 4 = (h 24) 4 := rd_ (((hG_25 24 (by decide))).trans (hF12_5 24 (by decide))) rfl
                have e29_39_4 : g30_25 39 4 = (g30_25 39) 4 := rfl
                have e30_39_5 : g30_25 39 5 = (g30_25 39) 5 := rfl
                have e31_39_6 : g30_25 39 6 = (g30_25 39) 6 := rfl
                have e32_39_7 : g30_25 39 7 = (g30_25 39) 7 := rfl
                have e33_39_4 : g30_25 39 4 = (g30_25 39) 4 := rfl
                have e34_39_5 : g30_25 39 5 = (g30_25 39) 5 := rfl
                have e35_39_6 : g30_25 39 6 = (g30_25 39) 6 := rfl
                have e36_39_7 : g30_25 39 7 = (g30_25 39) 7 := rfl
                have e37_39_3 : g30_25 39 3 = (g30_25 39) 3 := rfl
                have e38_39_2 : g30_25 39 2 = (g30_25 39) 2 := rfl
                exact ih5 (i2 + 1) g30_25 hT_25 hF_25 (by first | omega | (simp [up, setR] <;> omega)) (by rewrite [e28_24_4]; first | omega | (simp [up, setR] <;> omega)) (by intro j g1 g2; have := hpre j g1 g2; omega) (by exact RTC_n hRT hst htk rd9.1 (by omega) hi2.1) (by rewrite [e29_39_4, e30_39_5, e31_39_6, e32_39_7]; exact RTC_t hst htk rd9.1 hi2.1) (by rewrite [e33_39_4, e34_39_5, e35_39_6, e36_39_7]; exact ⟨rd9.2.2.1, rd9.2.1, rd9.2.2.2⟩) (by rewrite [e37_39_3]; first | omega | (simp [up, setR] <;> omega)) (by rewrite [e38_39_2]; first | omega | (simp [up, setR] <;> omega)) (by first | omega | (simp [up, setR] <;> omega))
              · refine TT_iload_n hK rfl 3 rfl dX7_passesReadRight_42 ?_
                refine TT_iret hK hQ ?_ dX7_passesReadRight_43
                have e39_39_2 : g30_25 39 2 = (g30_25 39) 2 := rfl
                exact ⟨⟨hT_25, hF_25⟩, k, rfl, (by omega), (by first | exact ⟨by omega, fun k9 g1 g2 => RTC_le hRT (hpre k9 g1 (by omega)), fun q => by omega⟩ | exact ⟨by omega, fun k9 g1 g2 => RTC_le hRT (hpre k9 g1 g2), fun _ q => RTC_x hst htk rd9.1 (by omega) hi2.1 (RTC_le q (show i2 + 1 ≤ h 27 k by omega))⟩), (by rewrite [e39_39_2]; omega)⟩
        have e40_24_4 : w4_1 24 4 = (h 24) 4 := rd_ (hF4_1 24 (by decide)) rfl
        have e41_39_4 : w4_1 39 4 = (w4_1 39) 4 := rfl
        have e42_39_5 : w4_1 39 5 = (w4_1 39) 5 := rfl
        have e43_39_6 : w4_1 39 6 = (w4_1 39) 6 := rfl
        have e44_39_7 : w4_1 39 7 = (w4_1 39) 7 := rfl
        have e45_39_4 : w4_1 39 4 = (w4_1 39) 4 := rfl
        have e46_39_5 : w4_1 39 5 = (w4_1 39) 5 := rfl
        have e47_39_6 : w4_1 39 6 = (w4_1 39) 6 := rfl
        have e48_39_7 : w4_1 39 7 = (w4_1 39) 7 := rfl
        have e49_39_3 : w4_1 39 3 = (w4_1 39) 3 := rfl
        have e50_39_2 : w4_1 39 2 = (w4_1 39) 2 := rfl
        exact L12_5 ((((1024 : Int) - i).toNat) + 1) i w4_1 hT4_1 hF4_1 (by first | omega | (simp [up, setR] <;> omega)) (by rewrite [e40_24_4]; first | omega | (simp [up, setR] <;> omega)) (by exact hpre) (by exact hRT) (by rewrite [e41_39_4, e42_39_5, e43_39_6, e44_39_7]; exact hst) (by rewrite [e45_39_4, e46_39_5, e47_39_6, e48_39_7]; exact hcb) (by rewrite [e49_39_3]; first | omega | (simp [up, setR] <;> omega)) (by rewrite [e50_39_2]; first | omega | (simp [up, setR] <;> omega)) (Nat.lt_succ_self _)
  refine TT_sub [2, 3, 1, 0] rfl ?_
  have e51_39_4 : h 39 4 = (h 39) 4 := rfl
  have e52_39_5 : h 39 5 = (h 39) 5 := rfl
  have e53_39_6 : h 39 6 = (h 39) 6 := rfl
  have e54_39_7 : h 39 7 = (h 39) 7 := rfl
  have e55_39_4 : h 39 4 = (h 39) 4 := rfl
  have e56_39_5 : h 39 5 = (h 39) 5 := rfl
  have e57_39_6 : h 39 6 = (h 39) 6 := rfl
  have e58_39_7 : h 39 7 = (h 39) 7 := rfl
  have e59_39_3 : h 39 3 = (h 39) 3 := rfl
  have e60_39_2 : h 39 2 = (h 39) 2 := rfl
  exact L4_1 ((((34 : Int) - 0).toNat) + 1) 0 0 h hT hF (by first | omega | (simp [up, setR] <;> omega)) (by first | omega | (simp [up, setR] <;> omega)) (by intro j g1 g2; exfalso; omega) (by rfl) (by rewrite [e51_39_4, e52_39_5, e53_39_6, e54_39_7]; rw [hd0]; rfl) (by rewrite [e55_39_4, e56_39_5, e57_39_6, e58_39_7]; exact ⟨hc7, hrq, ha5⟩) (by rewrite [e59_39_3]; first | omega | (simp [up, setR] <;> omega)) (by rewrite [e60_39_2]; first | omega | (simp [up, setR] <;> omega)) (Nat.lt_succ_self _)

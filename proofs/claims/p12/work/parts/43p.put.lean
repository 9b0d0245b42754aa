theorem shQ {s q : Int} (h0 : 0 ≤ s) (h1 : s ≤ 19) (hq : q = 1 * 2 ^ s.toNat) : 1 ≤ q ∧ q ≤ 524288 ∧ (13 ≤ s → 8192 ≤ q) := by
  have key : ∀ n : Fin 20, (1 : Int) ≤ 2 ^ n.val ∧ (2 : Int) ^ n.val ≤ 524288 ∧ (13 ≤ n.val → (8192 : Int) ≤ 2 ^ n.val) := by decide
  have k := key ⟨s.toNat, by omega⟩
  rw [Int.one_mul] at hq
  rw [hq]
  exact ⟨k.1, k.2.1, fun e => k.2.2 (by show 13 ≤ s.toNat; omega)⟩
def FS (r : Int) : Int := if r = 0 then 0 else 3 * r - 2
theorem FS_r {r : Int} (hr : 0 ≤ r ∧ r ≤ 3) : 0 ≤ FS r ∧ FS r ≤ 3 * r ∧ 3 * r ≤ FS r + 2 := by
  unfold FS
  split <;> omega
def IS (f : Int → Int) (n : Int) : Int := SumR (fun k => f (k : Int)) n.toNat
theorem IS_s {f : Int → Int} {b : Int} (hb : 0 ≤ b) : IS f (b + 1) = IS f b + f b := by
  obtain ⟨n, rfl⟩ := Int.eq_ofNat_of_zero_le hb
  unfold IS
  rw [show ((n : Int) + 1).toNat = n + 1 by omega, show ((n : Int)).toNat = n by omega]
  rfl
theorem IS_eq {f g : Int → Int} {c : Int} (h : ∀ k : Int, 0 ≤ k → k < c → f k = g k) : IS f c = IS g c := by
  unfold IS
  refine SumR_cg _ (fun k hk => h k (by omega) (by omega))
theorem IS_ag {f g : Int → Int} {a c : Int} (ha : 0 ≤ a) (hac : a ≤ c) (h : ∀ k : Int, a ≤ k → k < c → f k = g k) : IS f c - IS g c = IS f a - IS g a := by
  obtain ⟨m, rfl⟩ : ∃ m : Nat, c = a + (m : Int) := ⟨(c - a).toNat, by omega⟩
  clear hac
  induction m with
  | zero => rw [show a + ((0 : Nat) : Int) = a by omega]
  | succ m ih =>
    have i1 := ih (fun k h1 h2 => h k h1 (by omega))
    rw [show a + ((m + 1 : Nat) : Int) = (a + (m : Int)) + 1 by omega, IS_s (by omega), IS_s (by omega), h _ (by omega) (by omega)]
    omega
theorem ISM {g0 g1 ws : Int → Int} {b c : Int} (hbc : b ≤ c) (h0 : ∀ k : Int, 0 ≤ k → k < c → g0 k ≤ ws k) (h1 : ∀ k : Int, 0 ≤ k → k < b → g1 k ≤ ws k) : IS g1 b - IS g0 b ≤ IS ws c - IS g0 c := by
  have a1 : ∀ n : Nat, (n : Int) ≤ b → IS g1 (n : Int) ≤ IS ws (n : Int) := by
    intro n
    induction n with
    | zero => intro _; exact Int.le_refl _
    | succ n ih =>
      intro hn
      have i1 := ih (by omega)
      have i2 := h1 (n : Int) (by omega) (by omega)
      rw [show ((n + 1 : Nat) : Int) = (n : Int) + 1 by omega, IS_s (by omega), IS_s (by omega)]
      omega
  have a2 : ∀ m : Nat, b.toNat + m ≤ c.toNat → IS ws ((b.toNat : Nat) : Int) - IS g0 ((b.toNat : Nat) : Int) ≤ IS ws ((b.toNat + m : Nat) : Int) - IS g0 ((b.toNat + m : Nat) : Int) := by
    intro m
    induction m with
    | zero => intro _; exact Int.le_refl _
    | succ m ih =>
      intro hm
      have i1 := ih (by omega)
      have i2 := h0 ((b.toNat + m : Nat) : Int) (by omega) (by omega)
      rw [show ((b.toNat + (m + 1) : Nat) : Int) = ((b.toNat + m : Nat) : Int) + 1 by omega, IS_s (by omega), IS_s (by omega)]
      omega
  have e1 : ∀ f : Int → Int, IS f b = IS f ((b.toNat : Nat) : Int) := fun f => by unfold IS; rfl
  have e2 : ∀ f : Int → Int, IS f c = IS f ((c.toNat : Nat) : Int) := fun f => by unfold IS; rfl
  rw [e1 g1, e1 g0, e2 ws, e2 g0]
  by_cases hb : 0 ≤ b
  · have i1 := a1 b.toNat (by omega)
    have i2 := a2 (c.toNat - b.toNat) (by omega)
    rw [show b.toNat + (c.toNat - b.toNat) = c.toNat by omega] at i2
    omega
  · have i2 := a2 c.toNat (by omega)
    rw [show b.toNat = 0 by omega, Nat.zero_add] at i2
    rw [show b.toNat = 0 by omega]
    exact i2
def GT (ll tk : Int → Int) : Int → Int := fun k => ll (35 * k + tk k)
def TKQ (tk pl : Int → Int) (i n c : Int) : Prop := ∀ b : Int, 0 ≤ b → b < c → tk b ≤ pas (pl b) * i / n ∧ tk b ≤ pas (pl b)
theorem GTw {w : Hp_} {pl ws ll : Int → Int} {i n c : Int} (hT : TY w) (hlq : LQ pl ws ll c) (hq : TKQ (w 86) pl i n c) (hc : c ≤ 10) : ∀ j : Int, 0 ≤ j → j < c → GT ll (w 86) j ≤ ws j := by
  intro j h0 h1
  have r := ty_86 (i := j) (v := w 86 j) hT rfl h0 (by omega)
  exact (hlq j h0 h1 (w 86 j) (w 86 j) (by omega) (Int.le_refl _) (by omega) (hq j h0 h1).2).2
theorem pas_r {x : Int} (h : 0 ≤ x) : 0 ≤ pas x := by
  unfold pas
  split <;> omega
theorem tkm {x i n : Int} (hx : 0 ≤ x) (hi : 1 ≤ i ∧ i ≤ n) (hn : n ≤ 3) : x * i / n ≤ x ∧ 0 ≤ x * i / n ∧ x * (i - 1) / n ≤ x * i / n := by
  rcases (show i = 1 ∨ i = 2 ∨ i = 3 by omega) with rfl | rfl | rfl <;> rcases (show n = 1 ∨ n = 2 ∨ n = 3 by omega) with rfl | rfl | rfl <;> omega
theorem TKQ_n {tk t1 pl : Int → Int} {i n c : Int} (a b : Int) (hi : 1 ≤ i ∧ i ≤ n) (hn : n ≤ 3) (h0 : TKQ tk pl i n c) (hp : ∀ j : Int, 0 ≤ j → j < c → 0 ≤ pl j) {hd : Int → Int} (h1 : ∀ j : Int, a ≤ j → j < b → hd j = tk j ∧ t1 j = pas (pl j) * i / n) (h2 : ∀ j : Int, j < a ∨ b ≤ j → t1 j = tk j) : TKQ t1 pl i n c := by
  intro j h3 h4
  by_cases e : a ≤ j ∧ j < b
  · rw [(h1 j e.1 e.2).2]
    have := tkm (pas_r (hp j h3 h4)) hi hn
    exact ⟨Int.le_refl _, this.1⟩
  · rw [h2 j (by omega)]
    exact h0 j h3 h4
set_option maxRecDepth 20000 in
theorem s_X12_putBits_73 (v n : Int) (h : Hp_) (hT : TY h) (hv : -2147483648 ≤ v ∧ v ≤ 2147483647) (hn : 0 ≤ n ∧ n ≤ 30) (hb : 8 * (h 73 42) + (h 73 43) + n ≤ 35192) : Ctr yX12_putBits cX12_putBits 4 none (rmd 1) ly ly 0 0 [vR 73, vI v, vI n] h (fun r h' => (TY h' ∧ FRM [73, 100] [42, 43] h h') ∧ r = none ∧ (8 * (h' 73 42) + (h' 73 43) = 8 * (h 73 42) + (h 73 43) + n)) := by
  refine Ctr_of (by decide) (Nat.le_of_ble_eq_true rfl) ⟨Nat.le_refl _, Nat.le_refl _⟩ (fun K hK hQ _ => ?_)
  show TT K ly 0 0 0 [(0, vR 73), (1, vI v), (2, vI n)] [] h
  have hF : FRM [73, 100] [42, 43] h h := FRM_rf _ _ _
  refine TT_iload_n hK rfl 2 rfl dX12_putBits_0 ?_
  refine TT_iconst hK dX12_putBits_1 ?_
  refine TT_isub hK dX12_putBits_2 ?_
  refine TT_istore_n hK rfl (lv' := [(3, vI (n - 1)), (0, vR 73), (1, vI v), (2, vI n)]) (by decide) rfl dX12_putBits_3 ?_
  have L4_1 : ∀ (k1 : Nat) (k : Int) (w4_1 : Hp_), TY w4_1 → FRM [73, 100] [42, 43] h w4_1 → (-1 ≤ k ∧ k ≤ n - 1) → (8 * (w4_1 73 42) + (w4_1 73 43) = 8 * (h 73 42) + (h 73 43) + (n - 1 - k)) → (k + 1).toNat < k1 → TT K ly 0 0 4 [(0, vR 73), (1, vI v), (2, vI n), (3, vI k)] [] w4_1 := by
    intro k1
    induction k1 with
    | zero => intro k w4_1 hT4_1 hF4_1 hk hu hk1; exact absurd hk1 (Nat.not_lt_zero _)
    | succ k1 ih1 =>
      intro k w4_1 hT4_1 hF4_1 hk hu hk1
      refine TT_iload_n hK rfl 3 rfl dX12_putBits_4 ?_
      refine TT_if_lt hK (tgt := 79) (irm (by omega) (by omega)) dX12_putBits_5 (by decide) (fun hb5_2 => ?_) (fun hb5_2 => ?_)
      · refine TT_vret hK hQ ?_ dX12_putBits_79
        have e3_73_42 : w4_1 73 42 = (w4_1 73) 42 := rfl
        have e4_73_43 : w4_1 73 43 = (w4_1 73) 43 := rfl
        exact ⟨⟨hT4_1, hF4_1⟩, rfl, (by rewrite [e3_73_42, e4_73_43]; omega)⟩
      · refine TT_aload_n hK rfl 0 rfl dX12_putBits_8 ?_
        refine gf_X12_96 hK (by decide) rfl (q := 100) rfl rfl dX12_putBits_9 ?_
        refine TT_aload_n hK rfl 0 rfl dX12_putBits_12 ?_
        refine gf_X12_311 hK (by decide) rfl (v := (w4_1 73) 42) rfl dX12_putBits_13 ?_
        have r5 := ty_73_42 (v := (w4_1 73) 42) hT4_1 rfl
        refine TT_aload_n hK rfl 0 rfl dX12_putBits_16 ?_
        refine gf_X12_314 hK (by decide) rfl (v := (w4_1 73) 43) rfl dX12_putBits_17 ?_
        have r6 := ty_73_43 (v := (w4_1 73) 43) hT4_1 rfl
        refine TT_if_ne hK (tgt := 27) (irm (by omega) (by omega)) dX12_putBits_20 (by decide) (fun hb20_7 => ?_) (fun hb20_7 => ?_)
        · refine TT_aload_n hK rfl 0 rfl dX12_putBits_27 ?_
          refine gf_X12_96 hK (by decide) rfl (q := 100) rfl rfl dX12_putBits_28 ?_
          refine TT_aload_n hK rfl 0 rfl dX12_putBits_31 ?_
          refine gf_X12_311 hK (by decide) rfl (v := (w4_1 73) 42) rfl dX12_putBits_32 ?_
          refine TT_iald hK (o := 100) (n := 4700) (by decide) rfl (by first | omega | (simp [up, setR] <;> omega)) (by first | omega | (simp [up, setR] <;> omega)) (v := (w4_1 100) ((w4_1 73) 42)) rfl dX12_putBits_35 ?_
          have r8 := ty_100 (i := (w4_1 73) 42) (v := (w4_1 100) ((w4_1 73) 42)) hT4_1 rfl (by omega) (by omega)
          refine TT_iast hK (o := 100) (n := 4700) (by decide) rfl (by omega) (by omega) dX12_putBits_36 ?_
          refine TT_hp (h' := setO w4_1 100 (fup (w4_1 100) ((w4_1 73) 42) ((w4_1 100) ((w4_1 73) 42)))) (up_can rfl rfl rfl) ?_
          have hT_9 : TY (setO w4_1 100 (fup (w4_1 100) ((w4_1 73) 42) ((w4_1 100) ((w4_1 73) 42)))) := tu_100 hT4_1 (show up w4_1 100 ((w4_1 73) 42) ((w4_1 100) ((w4_1 73) 42)) = (setO w4_1 100 (fup (w4_1 100) ((w4_1 73) 42) ((w4_1 100) ((w4_1 73) 42)))) from up_can rfl rfl rfl) (by omega)
          have hF_9 : FRM [73, 100] [42, 43] h (setO w4_1 100 (fup (w4_1 100) ((w4_1 73) 42) ((w4_1 100) ((w4_1 73) 42)))) := FRM_up (show up w4_1 100 ((w4_1 73) 42) ((w4_1 100) ((w4_1 73) 42)) = (setO w4_1 100 (fup (w4_1 100) ((w4_1 73) 42) ((w4_1 100) ((w4_1 73) 42)))) from up_can rfl rfl rfl) hF4_1 (by decide) (by decide)
          refine TT_aload_n hK rfl 0 rfl dX12_putBits_37 ?_
          refine gf_X12_96 hK (by decide) rfl (q := 100) rfl rfl dX12_putBits_38 ?_
          refine TT_aload_n hK rfl 0 rfl dX12_putBits_41 ?_
          refine gf_X12_311 hK (by decide) rfl (v := (w4_1 73) 42) (rd_ (sOf_ne _ _ (by decide)) rfl) dX12_putBits_42 ?_
          refine TT_aload_n hK rfl 0 rfl dX12_putBits_45 ?_
          refine gf_X12_96 hK (by decide) rfl (q := 100) rfl rfl dX12_putBits_46 ?_
          refine TT_aload_n hK rfl 0 rfl dX12_putBits_49 ?_
          refine gf_X12_311 hK (by decide) rfl (v := (w4_1 73) 42) (rd_ (sOf_ne _ _ (by decide)) rfl) dX12_putBits_50 ?_
          refine TT_iald hK (o := 100) (n := 4700) (by decide) rfl (by first | omega | (simp [up, setR] <;> omega)) (by first | omega | (simp [up, setR] <;> omega)) (v := (w4_1 100) ((w4_1 73) 42)) (rd_ (sOf_eq _ _ _) (fup_eq _ _ _)) dX12_putBits_53 ?_
          refine TT_iload_n hK rfl 1 rfl dX12_putBits_54 ?_
          refine TT_iload_n hK rfl 3 rfl dX12_putBits_55 ?_
          refine TT_ishr_a hK dX12_putBits_56 (fun x56_10 hx10 => ?_)
          refine TT_iconst hK dX12_putBits_57 ?_
          refine TT_iand hK dX12_putBits_58 ?_
          refine TT_cgI (iand_m x56_10 1 (by decide)) ?_
          show TT K ly 0 0 59 [(0, vR 73), (1, vI v), (2, vI n), (3, vI k)] (vI (x56_10 % 2) :: [vI ((w4_1 100) ((w4_1 73) 42)), vI ((w4_1 73) 42), vR 100]) (setO w4_1 100 (fup (w4_1 100) ((w4_1 73) 42) ((w4_1 100) ((w4_1 73) 42))))
          refine TT_bipush hK (by decide) dX12_putBits_59 ?_
          refine TT_aload_n hK rfl 0 rfl dX12_putBits_61 ?_
          refine gf_X12_314 hK (by decide) rfl (v := (w4_1 73) 43) (rd_ (sOf_ne _ _ (by decide)) rfl) dX12_putBits_62 ?_
          refine TT_isub hK dX12_putBits_65 ?_
          refine TT_ishl_a hK dX12_putBits_66 (fun x66_11 hx11 => ?_)
          refine TT_iadd hK dX12_putBits_67 ?_
          refine TT_w32 (fun x68_12 hx12 => ?_)
          refine TT_iast hK (o := 100) (n := 4700) (by decide) rfl (by omega) (by omega) dX12_putBits_68 ?_
          refine TT_hp (h' := setO w4_1 100 (fup (w4_1 100) ((w4_1 73) 42) x68_12)) (up_can (sOf_eq _ _ _) (fup_same _ _ _ _) (setO_same _ _ _ _)) ?_
          have hT_13 : TY (setO w4_1 100 (fup (w4_1 100) ((w4_1 73) 42) x68_12)) := tu_100 hT_9 (show up (setO w4_1 100 (fup (w4_1 100) ((w4_1 73) 42) ((w4_1 100) ((w4_1 73) 42)))) 100 ((w4_1 73) 42) x68_12 = (setO w4_1 100 (fup (w4_1 100) ((w4_1 73) 42) x68_12)) from up_can (sOf_eq _ _ _) (fup_same _ _ _ _) (setO_same _ _ _ _)) (by omega)
          have hF_13 : FRM [73, 100] [42, 43] h (setO w4_1 100 (fup (w4_1 100) ((w4_1 73) 42) x68_12)) := FRM_up (show up (setO w4_1 100 (fup (w4_1 100) ((w4_1 73) 42) ((w4_1 100) ((w4_1 73) 42)))) 100 ((w4_1 73) 42) x68_12 = (setO w4_1 100 (fup (w4_1 100) ((w4_1 73) 42) x68_12)) from up_can (sOf_eq _ _ _) (fup_same _ _ _ _) (setO_same _ _ _ _)) hF_9 (by decide) (by decide)
          refine TT_aload_n hK rfl 0 rfl dX12_putBits_69 ?_
          have e14_73_42 : (setO w4_1 100 (fup (w4_1 100) ((w4_1 73) 42) x68_12)) 73 42 = (w4_1 73) 42 := rd_ (sOf_ne _ _ (by decide)) rfl
          refine iv_X12_317 hK (s_X12_stepBit_73 (setO w4_1 100 (fup (w4_1 100) ((w4_1 73) 42) x68_12)) hT_13 (by rewrite [e14_73_42]; first | omega | (simp [up, setR] <;> omega))) (by decide) rfl ⟨by decide, by decide⟩ (by decide) rfl rfl (Nat.le_of_ble_eq_true rfl) ⟨by decide, by decide⟩ dX12_putBits_70 ?_
          intro r9 g70_15 hp9
          obtain ⟨⟨hT_15, hG_15⟩, hr9, p1_15⟩ := hp9
          rw [hr9]
          have hF_15 : FRM [73, 100] [42, 43] h g70_15 := FRM_tr hF_13 hG_15 (by decide) (by decide)
          rw [show (setO w4_1 100 (fup (w4_1 100) ((w4_1 73) 42) x68_12)) 73 42 = (w4_1 73) 42 from rd_ (sOf_ne _ _ (by decide)) rfl] at p1_15
          rw [show (setO w4_1 100 (fup (w4_1 100) ((w4_1 73) 42) x68_12)) 73 43 = (w4_1 73) 43 from rd_ (sOf_ne _ _ (by decide)) rfl] at p1_15
          show TT K ly 0 0 73 [(0, vR 73), (1, vI v), (2, vI n), (3, vI k)] [] g70_15
          refine TT_iinc hK (v := k - 1) (lv' := [(3, vI (k - 1)), (0, vR 73), (1, vI v), (2, vI n)]) 3 rfl (by omega) (by decide) rfl dX12_putBits_73 ?_
          refine TT_goto hK (tgt := 4) dX12_putBits_76 (by decide) ?_
          refine TT_sub [1, 2, 3, 0] rfl ?_
          have e16_73_42 : g70_15 73 42 = (g70_15 73) 42 := rfl
          have e17_73_43 : g70_15 73 43 = (g70_15 73) 43 := rfl
          exact ih1 (k - 1) g70_15 hT_15 hF_15 (by first | omega | (simp [up, setR] <;> omega)) (by rewrite [e16_73_42, e17_73_43]; first | omega | (simp [up, setR] <;> omega)) (by first | omega | (simp [up, setR] <;> omega))
        · refine TT_iconst hK dX12_putBits_23 ?_
          refine TT_goto hK (tgt := 36) dX12_putBits_24 (by decide) ?_
          refine TT_iast hK (o := 100) (n := 4700) (by decide) rfl (by omega) (by omega) dX12_putBits_36 ?_
          refine TT_hp (h' := setO w4_1 100 (fup (w4_1 100) ((w4_1 73) 42) 0)) (up_can rfl rfl rfl) ?_
          have hT_18 : TY (setO w4_1 100 (fup (w4_1 100) ((w4_1 73) 42) 0)) := tu_100 hT4_1 (show up w4_1 100 ((w4_1 73) 42) 0 = (setO w4_1 100 (fup (w4_1 100) ((w4_1 73) 42) 0)) from up_can rfl rfl rfl) (by omega)
          have hF_18 : FRM [73, 100] [42, 43] h (setO w4_1 100 (fup (w4_1 100) ((w4_1 73) 42) 0)) := FRM_up (show up w4_1 100 ((w4_1 73) 42) 0 = (setO w4_1 100 (fup (w4_1 100) ((w4_1 73) 42) 0)) from up_can rfl rfl rfl) hF4_1 (by decide) (by decide)
          refine TT_aload_n hK rfl 0 rfl dX12_putBits_37 ?_
          refine gf_X12_96 hK (by decide) rfl (q := 100) rfl rfl dX12_putBits_38 ?_
          refine TT_aload_n hK rfl 0 rfl dX12_putBits_41 ?_
          refine gf_X12_311 hK (by decide) rfl (v := (w4_1 73) 42) (rd_ (sOf_ne _ _ (by decide)) rfl) dX12_putBits_42 ?_
          refine TT_aload_n hK rfl 0 rfl dX12_putBits_45 ?_
          refine gf_X12_96 hK (by decide) rfl (q := 100) rfl rfl dX12_putBits_46 ?_
          refine TT_aload_n hK rfl 0 rfl dX12_putBits_49 ?_
          refine gf_X12_311 hK (by decide) rfl (v := (w4_1 73) 42) (rd_ (sOf_ne _ _ (by decide)) rfl) dX12_putBits_50 ?_
          refine TT_iald hK (o := 100) (n := 4700) (by decide) rfl (by first | omega | (simp [up, setR] <;> omega)) (by first | omega | (simp [up, setR] <;> omega)) (v := 0) (rd_ (sOf_eq _ _ _) (fup_eq _ _ _)) dX12_putBits_53 ?_
          refine TT_iload_n hK rfl 1 rfl dX12_putBits_54 ?_
          refine TT_iload_n hK rfl 3 rfl dX12_putBits_55 ?_
          refine TT_ishr_a hK dX12_putBits_56 (fun x56_19 hx19 => ?_)
          refine TT_iconst hK dX12_putBits_57 ?_
          refine TT_iand hK dX12_putBits_58 ?_
          refine TT_cgI (iand_m x56_19 1 (by decide)) ?_
          show TT K ly 0 0 59 [(0, vR 73), (1, vI v), (2, vI n), (3, vI k)] (vI (x56_19 % 2) :: [vI 0, vI ((w4_1 73) 42), vR 100]) (setO w4_1 100 (fup (w4_1 100) ((w4_1 73) 42) 0))
          refine TT_bipush hK (by decide) dX12_putBits_59 ?_
          refine TT_aload_n hK rfl 0 rfl dX12_putBits_61 ?_
          refine gf_X12_314 hK (by decide) rfl (v := (w4_1 73) 43) (rd_ (sOf_ne _ _ (by decide)) rfl) dX12_putBits_62 ?_
          refine TT_isub hK dX12_putBits_65 ?_
          refine TT_ishl_a hK dX12_putBits_66 (fun x66_20 hx20 => ?_)
          refine TT_iadd hK dX12_putBits_67 ?_
          refine TT_w32 (fun x68_21 hx21 => ?_)
          refine TT_iast hK (o := 100) (n := 4700) (by decide) rfl (by omega) (by omega) dX12_putBits_68 ?_
          refine TT_hp (h' := setO w4_1 100 (fup (w4_1 100) ((w4_1 73) 42) x68_21)) (up_can (sOf_eq _ _ _) (fup_same _ _ _ _) (setO_same _ _ _ _)) ?_
          have hT_22 : TY (setO w4_1 100 (fup (w4_1 100) ((w4_1 73) 42) x68_21)) := tu_100 hT_18 (show up (setO w4_1 100 (fup (w4_1 100) ((w4_1 73) 42) 0)) 100 ((w4_1 73) 42) x68_21 = (setO w4_1 100 (fup (w4_1 100) ((w4_1 73) 42) x68_21)) from up_can (sOf_eq _ _ _) (fup_same _ _ _ _) (setO_same _ _ _ _)) (by omega)
          have hF_22 : FRM [73, 100] [42, 43] h (setO w4_1 100 (fup (w4_1 100) ((w4_1 73) 42) x68_21)) := FRM_up (show up (setO w4_1 100 (fup (w4_1 100) ((w4_1 73) 42) 0)) 100 ((w4_1 73) 42) x68_21 = (setO w4_1 100 (fup (w4_1 100) ((w4_1 73) 42) x68_21)) from up_can (sOf_eq _ _ _) (fup_same _ _ _ _) (setO_same _ _ _ _)) hF_18 (by decide) (by decide)
          refine TT_aload_n hK rfl 0 rfl dX12_putBits_69 ?_
          have e23_73_42 : (setO w4_1 100 (fup (w4_1 100) ((w4_1 73) 42) x68_21)) 73 42 = (w4_1 73) 42 := rd_ (sOf_ne _ _ (by decide)) rfl
          refine iv_X12_317 hK (s_X12_stepBit_73 (setO w4_1 100 (fup (w4_1 100) ((w4_1 73) 42) x68_21)) hT_22 (by rewrite [e23_73_42]; first | omega | (simp [up, setR] <;> omega))) (by decide) rfl ⟨by decide, by decide⟩ (by decide) rfl rfl (Nat.le_of_ble_eq_true rfl) ⟨by decide, by decide⟩ dX12_putBits_70 ?_
          intro r9 g70_24 hp9
          obtain ⟨⟨hT_24, hG_24⟩, hr9, p1_24⟩ := hp9
          rw [hr9]
          have hF_24 : FRM [73, 100] [42, 43] h g70_24 := FRM_tr hF_22 hG_24 (by decide) (by decide)
          rw [show (setO w4_1 100 (fup (w4_1 100) ((w4_1 73) 42) x68_21)) 73 42 = (w4_1 73) 42 from rd_ (sOf_ne _ _ (by decide)) rfl] at p1_24
          rw [show (setO w4_1 100 (fup (w4_1 100) ((w4_1 73) 42) x68_21)) 73 43 = (w4_1 73) 43 from rd_ (sOf_ne _ _ (by decide)) rfl] at p1_24
          show TT K ly 0 0 73 [(0, vR 73), (1, vI v), (2, vI n), (3, vI k)] [] g70_24
          refine TT_iinc hK (v := k - 1) (lv' := [(3, vI (k - 1)), (0, vR 73), (1, vI v), (2, vI n)]) 3 rfl (by omega) (by decide) rfl dX12_putBits_73 ?_
          refine TT_goto hK (tgt := 4) dX12_putBits_76 (by decide) ?_
          refine TT_sub [1, 2, 3, 0] rfl ?_
          have e25_73_42 : g70_24 73 42 = (g70_24 73) 42 := rfl
          have e26_73_43 : g70_24 73 43 = (g70_24 73) 43 := rfl
          exact ih1 (k - 1) g70_24 hT_24 hF_24 (by first | omega | (simp [up, setR] <;> omega)) (by rewrite [e25_73_42, e26_73_43]; first | omega | (simp [up, setR] <;> omega)) (by first | omega | (simp [up, setR] <;> omega))
  refine TT_sub [1, 2, 3, 0] rfl ?_
  have e27_73_42 : h 73 42 = (h 73) 42 := rfl
  have e28_73_43 : h 73 43 = (h 73) 43 := rfl
  exact L4_1 ((((n - 1) + 1).toNat) + 1) (n - 1) h hT hF (by first | omega | (simp [up, setR] <;> omega)) (by rewrite [e27_73_42, e28_73_43]; first | omega | (simp [up, setR] <;> omega)) (Nat.lt_succ_self _)
set_option maxRecDepth 20000 in
theorem s_X12_putHead_73 (b : Int) (h : Hp_) (hT : TY h) (hb : 0 ≤ b ∧ b ≤ 9) (h1 : (h 87) b ≤ (h 86) b) (hb1 : 8 * (h 73 42) + (h 73 43) + 47 ≤ 35192) : Ctr yX12_putHead cX12_putHead 4 none (rmd 2) ly ly 0 0 [vR 73, vI b] h (fun r h' => (TY h' ∧ FRM [73, 88, 100] [42, 43] h h') ∧ r = none ∧ (8 * (h' 73 42) + (h' 73 43) ≤ 8 * (h 73 42) + (h 73 43) + 47)) := by
  refine Ctr_of (by decide) (Nat.le_of_ble_eq_true rfl) ⟨Nat.le_refl _, Nat.le_refl _⟩ (fun K hK hQ _ => ?_)
  show TT K ly 0 0 0 [(0, vR 73), (1, vI b)] [] h
  have hF : FRM [73, 88, 100] [42, 43] h h := FRM_rf _ _ _
  refine TT_aload_n hK rfl 0 rfl dX12_putHead_0 ?_
  refine gf_X12_54 hK (by decide) rfl (q := 86) rfl rfl dX12_putHead_1 ?_
  refine TT_iload_n hK rfl 1 rfl dX12_putHead_4 ?_
  refine TT_iald hK (o := 86) (n := 20) (by decide) rfl (by first | omega | (simp [up, setR] <;> omega)) (by first | omega | (simp [up, setR] <;> omega)) (v := (h 86) b) rfl dX12_putHead_5 ?_
  have r1 := ty_86 (i := b) (v := (h 86) b) hT rfl (by omega) (by omega)
  refine TT_aload_n hK rfl 0 rfl dX12_putHead_6 ?_
  refine gf_X12_57 hK (by decide) rfl (q := 87) rfl rfl dX12_putHead_7 ?_
  refine TT_iload_n hK rfl 1 rfl dX12_putHead_10 ?_
  refine TT_iald hK (o := 87) (n := 20) (by decide) rfl (by first | omega | (simp [up, setR] <;> omega)) (by first | omega | (simp [up, setR] <;> omega)) (v := (h 87) b) rfl dX12_putHead_11 ?_
  have r2 := ty_87 (i := b) (v := (h 87) b) hT rfl (by omega) (by omega)
  refine TT_isub hK dX12_putHead_12 ?_
  refine TT_nmI (fun n hn => ?_)
  refine TT_istore_n hK rfl (lv' := [(2, vI n), (0, vR 73), (1, vI b)]) (by decide) rfl dX12_putHead_13 ?_
  have J28_3 : ∀ (w28_3 : Hp_), TY w28_3 → FRM [73, 88, 100] [42, 43] h w28_3 → (8 * (w28_3 73 42) + (w28_3 73 43) ≤ 8 * (h 73 42) + (h 73 43) + 1) → TT K ly 0 0 28 [(0, vR 73), (1, vI b), (2, vI n)] [] w28_3 := by
    intro w28_3 hT28_3 hF28_3 hc0
    refine TT_iload_n hK rfl 2 rfl dX12_putHead_28 ?_
    refine TT_if_ne hK (tgt := 33) (irm (by omega) (by omega)) dX12_putHead_29 (by decide) (fun hb29_4 => ?_) (fun hb29_4 => ?_)
    · have J115_5 : ∀ (w115_5 : Hp_), TY w115_5 → FRM [73, 88, 100] [42, 43] h w115_5 → (8 * (w115_5 73 42) + (w115_5 73 43) ≤ 8 * (h 73 42) + (h 73 43) + 14) → TT K ly 0 0 115 [(0, vR 73), (1, vI b), (2, vI n)] [] w115_5 := by
        intro w115_5 hT115_5 hF115_5 hc2
        refine TT_aload_n hK rfl 0 rfl dX12_putHead_115 ?_
        refine gf_X12_72 hK (by decide) rfl (q := 92) rfl rfl dX12_putHead_116 ?_
        refine TT_bipush hK (by decide) dX12_putHead_119 ?_
        refine TT_iload_n hK rfl 1 rfl dX12_putHead_121 ?_
        refine TT_imul hK dX12_putHead_122 ?_
        refine TT_aload_n hK rfl 0 rfl dX12_putHead_123 ?_
        refine gf_X12_54 hK (by decide) rfl (q := 86) rfl rfl dX12_putHead_124 ?_
        refine TT_iload_n hK rfl 1 rfl dX12_putHead_127 ?_
        refine TT_iald hK (o := 86) (n := 20) (by decide) rfl (by first | omega | (simp [up, setR] <;> omega)) (by first | omega | (simp [up, setR] <;> omega)) (v := (h 86) b) (rd_ (hF115_5.1 86 (by decide)) rfl) dX12_putHead_128 ?_
        have r6 := ty_86 (i := b) (v := (h 86) b) hT115_5 (rd_ (hF115_5.1 86 (by decide)) rfl) (by omega) (by omega)
        refine TT_iadd hK dX12_putHead_129 ?_
        refine TT_iald hK (o := 92) (n := 350) (by decide) rfl (by first | omega | (simp [up, setR] <;> omega)) (by first | omega | (simp [up, setR] <;> omega)) (v := (h 92) ((35 * b) + ((h 86) b))) (rd_ (hF115_5.1 92 (by decide)) rfl) dX12_putHead_130 ?_
        have r7 := ty_92 (i := (35 * b) + ((h 86) b)) (v := (h 92) ((35 * b) + ((h 86) b))) hT115_5 (rd_ (hF115_5.1 92 (by decide)) rfl) (by omega) (by omega)
        refine TT_aload_n hK rfl 0 rfl dX12_putHead_131 ?_
        refine gf_X12_72 hK (by decide) rfl (q := 92) rfl rfl dX12_putHead_132 ?_
        refine TT_bipush hK (by decide) dX12_putHead_135 ?_
        refine TT_iload_n hK rfl 1 rfl dX12_putHead_137 ?_
        refine TT_imul hK dX12_putHead_138 ?_
        refine TT_aload_n hK rfl 0 rfl dX12_putHead_139 ?_
        refine gf_X12_57 hK (by decide) rfl (q := 87) rfl rfl dX12_putHead_140 ?_
        refine TT_iload_n hK rfl 1 rfl dX12_putHead_143 ?_
        refine TT_iald hK (o := 87) (n := 20) (by decide) rfl (by first | omega | (simp [up, setR] <;> omega)) (by first | omega | (simp [up, setR] <;> omega)) (v := (h 87) b) (rd_ (hF115_5.1 87 (by decide)) rfl) dX12_putHead_144 ?_
        have r8 := ty_87 (i := b) (v := (h 87) b) hT115_5 (rd_ (hF115_5.1 87 (by decide)) rfl) (by omega) (by omega)
        refine TT_iadd hK dX12_putHead_145 ?_
        refine TT_iald hK (o := 92) (n := 350) (by decide) rfl (by first | omega | (simp [up, setR] <;> omega)) (by first | omega | (simp [up, setR] <;> omega)) (v := (h 92) ((35 * b) + ((h 87) b))) (rd_ (hF115_5.1 92 (by decide)) rfl) dX12_putHead_146 ?_
        have r9 := ty_92 (i := (35 * b) + ((h 87) b)) (v := (h 92) ((35 * b) + ((h 87) b))) hT115_5 (rd_ (hF115_5.1 92 (by decide)) rfl) (by omega) (by omega)
        refine TT_isub hK dX12_putHead_147 ?_
        refine TT_nmI (fun sz hsz => ?_)
        refine TT_istore_n hK rfl (lv' := [(3, vI sz), (0, vR 73), (1, vI b), (2, vI n)]) (by decide) rfl dX12_putHead_148 ?_
        have L149_10 : ∀ (k10 : Nat) (lw : Int) (w149_10 : Hp_), TY w149_10 → FRM [73, 88, 100] [42, 43] h w149_10 → ((w149_10 88) b = lw) → (0 ≤ lw ∧ lw ≤ 13) → (8 * (w149_10 73 42) + (w149_10 73 43) ≤ 8 * (h 73 42) + (h 73 43) + 14 + lw) → ((14 : Int) - lw).toNat < k10 → TT K ly 0 0 149 [(0, vR 73), (1, vI b), (2, vI n), (3, vI sz)] [] w149_10 := by
          intro k10
          induction k10 with
          | zero => intro lw w149_10 hT149_10 hF149_10 hlw hl2 hc3 hk10; exact absurd hk10 (Nat.not_lt_zero _)
          | succ k10 ih10 =>
            intro lw w149_10 hT149_10 hF149_10 hlw hl2 hc3 hk10
            refine TT_iload_n hK rfl 3 rfl dX12_putHead_149 ?_
            refine TT_iconst hK dX12_putHead_150 ?_
            refine TT_aload_n hK rfl 0 rfl dX12_putHead_151 ?_
            refine gf_X12_60 hK (by decide) rfl (q := 88) rfl rfl dX12_putHead_152 ?_
            refine TT_iload_n hK rfl 1 rfl dX12_putHead_155 ?_
            refine TT_iald hK (o := 88) (n := 20) (by decide) rfl (by first | omega | (simp [up, setR] <;> omega)) (by first | omega | (simp [up, setR] <;> omega)) (v := (w149_10 88) b) rfl dX12_putHead_156 ?_
            have r11 := ty_88 (i := b) (v := (w149_10 88) b) hT149_10 rfl (by omega) (by omega)
            refine TT_cgI (b := lw) (by first | exact hlw | rfl) ?_
            refine TT_iload_n hK rfl 2 rfl dX12_putHead_157 ?_
            refine iv_X12_323 hK (s_X12_log n w149_10 hT149_10 (by first | omega | (simp [up, setR] <;> omega))) ⟨by decide, by decide⟩ (by decide) rfl rfl (Nat.le_of_ble_eq_true rfl) ⟨by decide, by decide⟩ dX12_putHead_158 ?_
            intro r9 g158_12 hp9
            obtain ⟨⟨hT_12, hG_12⟩, z158_12, hr9, hz_12⟩ := hp9
            rw [hr9]
            have hF_12 : FRM [73, 88, 100] [42, 43] h g158_12 := FRM_tr hF149_10 hG_12 (by decide) (by decide)
            show TT K ly 0 0 161 [(0, vR 73), (1, vI b), (2, vI n), (3, vI sz)] [vI z158_12, vI lw, vI 1, vI sz] g158_12
            refine TT_iadd hK dX12_putHead_161 ?_
            refine TT_ishl hK (by omega) (by omega) dX12_putHead_162 ?_
            refine TT_nmI (fun q9 hq9 => ?_)
            refine TT_icmp_lt hK (tgt := 185) (irm (by have k9 := shQ (by omega) (by omega) hq9; omega) (by have k9 := shQ (by omega) (by omega) hq9; omega)) (irm (by have k9 := shQ (by omega) (by omega) hq9; omega) (by have k9 := shQ (by omega) (by omega) hq9; omega)) dX12_putHead_163 (by decide) (fun hb163_13 => ?_) (fun hb163_13 => ?_)
            · refine TT_aload_n hK rfl 0 rfl dX12_putHead_185 ?_
              refine TT_iconst hK dX12_putHead_186 ?_
              refine TT_iconst hK dX12_putHead_187 ?_
              have e14_73_42 : g158_12 73 42 = (w149_10 73) 42 := congrFun (hG_12.1 73 (by decide)) 42
              have e15_73_43 : g158_12 73 43 = (w149_10 73) 43 := congrFun (hG_12.1 73 (by decide)) 43
              refine iv_X12_320 hK (s_X12_putBits_73 0 1 g158_12 hT_12 (by first | omega | (simp [up, setR] <;> omega)) (by first | omega | (simp [up, setR] <;> omega)) (by rewrite [e14_73_42, e15_73_43]; first | omega | (simp [up, setR] <;> omega))) (by decide) rfl ⟨by decide, by decide⟩ (by decide) rfl rfl (Nat.le_of_ble_eq_true rfl) ⟨by decide, by decide⟩ dX12_putHead_188 ?_
              intro r9 g188_16 hp9
              obtain ⟨⟨hT_16, hG_16⟩, hr9, p1_16⟩ := hp9
              rw [hr9]
              have hF_16 : FRM [73, 88, 100] [42, 43] h g188_16 := FRM_tr hF_12 hG_16 (by decide) (by decide)
              rw [show g158_12 73 42 = (w149_10 73) 42 from congrFun (hG_12.1 73 (by decide)) 42] at p1_16
              rw [show g158_12 73 43 = (w149_10 73) 43 from congrFun (hG_12.1 73 (by decide)) 43] at p1_16
              show TT K ly 0 0 191 [(0, vR 73), (1, vI b), (2, vI n), (3, vI sz)] [] g188_16
              refine TT_aload_n hK rfl 0 rfl dX12_putHead_191 ?_
              refine TT_iload_n hK rfl 3 rfl dX12_putHead_192 ?_
              refine TT_aload_n hK rfl 0 rfl dX12_putHead_193 ?_
              refine gf_X12_60 hK (by decide) rfl (q := 88) rfl rfl dX12_putHead_194 ?_
              refine TT_iload_n hK rfl 1 rfl dX12_putHead_197 ?_
              refine TT_iald hK (o := 88) (n := 20) (by decide) rfl (by first | omega | (simp [up, setR] <;> omega)) (by first | omega | (simp [up, setR] <;> omega)) (v := (w149_10 88) b) (rd_ (((hG_16.1 88 (by decide))).trans (hG_12.1 88 (by decide))) rfl) dX12_putHead_198 ?_
              refine TT_cgI (b := lw) (by first | exact hlw | rfl) ?_
              refine TT_iload_n hK rfl 2 rfl dX12_putHead_199 ?_
              refine iv_X12_323 hK (s_X12_log n g188_16 hT_16 (by first | omega | (simp [up, setR] <;> omega))) ⟨by decide, by decide⟩ (by decide) rfl rfl (Nat.le_of_ble_eq_true rfl) ⟨by decide, by decide⟩ dX12_putHead_200 ?_
              intro r9 g200_17 hp9
              obtain ⟨⟨hT_17, hG_17⟩, z200_17, hr9, hz_17⟩ := hp9
              rw [hr9]
              have hF_17 : FRM [73, 88, 100] [42, 43] h g200_17 := FRM_tr hF_16 hG_17 (by decide) (by decide)
              show TT K ly 0 0 203 [(0, vR 73), (1, vI b), (2, vI n), (3, vI sz)] [vI z200_17, vI lw, vI sz, vR 73] g200_17
              refine TT_iadd hK dX12_putHead_203 ?_
              have e18_73_42 : g200_17 73 42 = (g188_16 73) 42 := congrFun (hG_17.1 73 (by decide)) 42
              have e19_73_43 : g200_17 73 43 = (g188_16 73) 43 := congrFun (hG_17.1 73 (by decide)) 43
              refine iv_X12_320 hK (s_X12_putBits_73 sz (lw + z200_17) g200_17 hT_17 (by first | omega | (simp [up, setR] <;> omega)) (by first | omega | (simp [up, setR] <;> omega)) (by rewrite [e18_73_42, e19_73_43]; first | omega | (simp [up, setR] <;> omega))) (by decide) rfl ⟨by decide, by decide⟩ (by decide) rfl rfl (Nat.le_of_ble_eq_true rfl) ⟨by decide, by decide⟩ dX12_putHead_204 ?_
              intro r9 g204_20 hp9
              obtain ⟨⟨hT_20, hG_20⟩, hr9, p1_20⟩ := hp9
              rw [hr9]
              have hF_20 : FRM [73, 88, 100] [42, 43] h g204_20 := FRM_tr hF_17 hG_20 (by decide) (by decide)
              rw [show g200_17 73 42 = (g188_16 73) 42 from congrFun (hG_17.1 73 (by decide)) 42] at p1_20
              rw [show g200_17 73 43 = (g188_16 73) 43 from congrFun (hG_17.1 73 (by decide)) 43] at p1_20
              show TT K ly 0 0 207 [(0, vR 73), (1, vI b), (2, vI n), (3, vI sz)] [] g204_20
              refine TT_vret hK hQ ?_ dX12_putHead_207
              have e21_73_42 : g204_20 73 42 = (g204_20 73) 42 := rfl
              have e22_73_43 : g204_20 73 43 = (g204_20 73) 43 := rfl
              exact ⟨⟨hT_20, hF_20⟩, rfl, (by rewrite [e21_73_42, e22_73_43]; omega)⟩
            · have k9 := shQ (by omega) (by omega) hq9
              refine TT_aload_n hK rfl 0 rfl dX12_putHead_166 ?_
              refine TT_iconst hK dX12_putHead_167 ?_
              refine TT_iconst hK dX12_putHead_168 ?_
              have e23_73_42 : g158_12 73 42 = (w149_10 73) 42 := congrFun (hG_12.1 73 (by decide)) 42
              have e24_73_43 : g158_12 73 43 = (w149_10 73) 43 := congrFun (hG_12.1 73 (by decide)) 43
              refine iv_X12_320 hK (s_X12_putBits_73 1 1 g158_12 hT_12 (by first | omega | (simp [up, setR] <;> omega)) (by first | omega | (simp [up, setR] <;> omega)) (by rewrite [e23_73_42, e24_73_43]; first | omega | (simp [up, setR] <;> omega))) (by decide) rfl ⟨by decide, by decide⟩ (by decide) rfl rfl (Nat.le_of_ble_eq_true rfl) ⟨by decide, by decide⟩ dX12_putHead_169 ?_
              intro r9 g169_25 hp9
              obtain ⟨⟨hT_25, hG_25⟩, hr9, p1_25⟩ := hp9
              rw [hr9]
              have hF_25 : FRM [73, 88, 100] [42, 43] h g169_25 := FRM_tr hF_12 hG_25 (by decide) (by decide)
              rw [show g158_12 73 42 = (w149_10 73) 42 from congrFun (hG_12.1 73 (by decide)) 42] at p1_25
              rw [show g158_12 73 43 = (w149_10 73) 43 from congrFun (hG_12.1 73 (by decide)) 43] at p1_25
              show TT K ly 0 0 172 [(0, vR 73), (1, vI b), (2, vI n), (3, vI sz)] [] g169_25
              refine TT_aload_n hK rfl 0 rfl dX12_putHead_172 ?_
              refine gf_X12_60 hK (by decide) rfl (q := 88) rfl rfl dX12_putHead_173 ?_
              refine TT_iload_n hK rfl 1 rfl dX12_putHead_176 ?_
              refine TT_dup2 hK rfl rfl dX12_putHead_177 ?_
              refine TT_iald hK (o := 88) (n := 20) (by decide) rfl (by first | omega | (simp [up, setR] <;> omega)) (by first | omega | (simp [up, setR] <;> omega)) (v := (w149_10 88) b) (rd_ (((hG_25.1 88 (by decide))).trans (hG_12.1 88 (by decide))) rfl) dX12_putHead_178 ?_
              refine TT_cgI (b := lw) (by first | exact hlw | rfl) ?_
              refine TT_iconst hK dX12_putHead_179 ?_
              refine TT_iadd hK dX12_putHead_180 ?_
              refine TT_iast hK (o := 88) (n := 20) (by decide) rfl (by omega) (by omega) dX12_putHead_181 ?_
              refine TT_hp (h' := setO g169_25 88 (fup (w149_10 88) b (lw + 1))) (up_can (((hG_25.1 88 (by decide))).trans (hG_12.1 88 (by decide))) rfl rfl) ?_
              have hT_26 : TY (setO g169_25 88 (fup (w149_10 88) b (lw + 1))) := tu_88 hT_25 (show up g169_25 88 b (lw + 1) = (setO g169_25 88 (fup (w149_10 88) b (lw + 1))) from up_can (((hG_25.1 88 (by decide))).trans (hG_12.1 88 (by decide))) rfl rfl) (by omega)
              have hF_26 : FRM [73, 88, 100] [42, 43] h (setO g169_25 88 (fup (w149_10 88) b (lw + 1))) := FRM_up (show up g169_25 88 b (lw + 1) = (setO g169_25 88 (fup (w149_10 88) b (lw + 1))) from up_can (((hG_25.1 88 (by decide))).trans (hG_12.1 88 (by decide))) rfl rfl) hF_25 (by decide) (by decide)
              refine TT_goto hK (tgt := 149) dX12_putHead_182 (by decide) ?_
              have e27_88 : (setO g169_25 88 (fup (w149_10 88) b (lw + 1))) 88 = fup (w149_10 88) b (lw + 1) := sOf_eq _ _ _
              have e28_73_42 : (setO g169_25 88 (fup (w149_10 88) b (lw + 1))) 73 42 = (g169_25 73) 42 := rd_ (sOf_ne _ _ (by decide)) rfl
              have e29_73_43 : (setO g169_25 88 (fup (w149_10 88) b (lw + 1))) 73 43 = (g169_25 73) 43 := rd_ (sOf_ne _ _ (by decide)) rfl
              exact ih10 (lw + 1) (setO g169_25 88 (fup (w149_10 88) b (lw + 1))) hT_26 hF_26 (by rewrite [e27_88]; exact fup_eq _ _ _) (by first | omega | (simp [up, setR] <;> omega)) (by rewrite [e28_73_42, e29_73_43]; first | omega | (simp [up, setR] <;> omega)) (by first | omega | (simp [up, setR] <;> omega))
        refine TT_sub [1, 2, 3, 0] rfl ?_
        have e30_73_42 : w115_5 73 42 = (w115_5 73) 42 := rfl
        have e31_73_43 : w115_5 73 43 = (w115_5 73) 43 := rfl
        have r9 := ty_88 (i := b) (v := (w115_5 88) b) hT115_5 rfl (by omega) (by omega)
        exact L149_10 ((((14 : Int) - ((w115_5 88) b)).toNat) + 1) ((w115_5 88) b) w115_5 hT115_5 hF115_5 (by rfl) (by first | omega | (simp [up, setR] <;> omega)) (by rewrite [e30_73_42, e31_73_43]; first | omega | (simp [up, setR] <;> omega)) (Nat.lt_succ_self _)
      have J53_32 : ∀ (w53_32 : Hp_), TY w53_32 → FRM [73, 88, 100] [42, 43] h w53_32 → (8 * (w53_32 73 42) + (w53_32 73 43) ≤ 8 * (h 73 42) + (h 73 43) + 5) → TT K ly 0 0 53 [(0, vR 73), (1, vI b), (2, vI n)] [] w53_32 := by
        intro w53_32 hT53_32 hF53_32 hc1
        refine TT_iload_n hK rfl 2 rfl dX12_putHead_53 ?_
        refine TT_iconst hK dX12_putHead_54 ?_
        refine TT_icmp_ge hK (tgt := 76) (irm (by omega) (by omega)) (by decide) dX12_putHead_55 (by decide) (fun hb55_33 => ?_) (fun hb55_33 => ?_)
        · refine TT_iload_n hK rfl 2 rfl dX12_putHead_76 ?_
          refine TT_bipush hK (by decide) dX12_putHead_77 ?_
          refine TT_icmp_ge hK (tgt := 99) (irm (by omega) (by omega)) (by decide) dX12_putHead_79 (by decide) (fun hb79_34 => ?_) (fun hb79_34 => ?_)
          · refine TT_aload_n hK rfl 0 rfl dX12_putHead_99 ?_
            refine TT_bipush hK (by decide) dX12_putHead_100 ?_
            refine TT_iconst hK dX12_putHead_102 ?_
            have e35_73_42 : w53_32 73 42 = (w53_32 73) 42 := rfl
            have e36_73_43 : w53_32 73 43 = (w53_32 73) 43 := rfl
            refine iv_X12_320 hK (s_X12_putBits_73 15 4 w53_32 hT53_32 (by first | omega | (simp [up, setR] <;> omega)) (by first | omega | (simp [up, setR] <;> omega)) (by rewrite [e35_73_42, e36_73_43]; first | omega | (simp [up, setR] <;> omega))) (by decide) rfl ⟨by decide, by decide⟩ (by decide) rfl rfl (Nat.le_of_ble_eq_true rfl) ⟨by decide, by decide⟩ dX12_putHead_103 ?_
            intro r9 g103_37 hp9
            obtain ⟨⟨hT_37, hG_37⟩, hr9, p1_37⟩ := hp9
            rw [hr9]
            have hF_37 : FRM [73, 88, 100] [42, 43] h g103_37 := FRM_tr hF53_32 hG_37 (by decide) (by decide)
            rw [show w53_32 73 42 = (w53_32 73) 42 from rfl] at p1_37
            rw [show w53_32 73 43 = (w53_32 73) 43 from rfl] at p1_37
            show TT K ly 0 0 106 [(0, vR 73), (1, vI b), (2, vI n)] [] g103_37
            refine TT_aload_n hK rfl 0 rfl dX12_putHead_106 ?_
            refine TT_iload_n hK rfl 2 rfl dX12_putHead_107 ?_
            refine TT_bipush hK (by decide) dX12_putHead_108 ?_
            refine TT_isub hK dX12_putHead_110 ?_
            refine TT_iconst hK dX12_putHead_111 ?_
            have e38_73_42 : g103_37 73 42 = (g103_37 73) 42 := rfl
            have e39_73_43 : g103_37 73 43 = (g103_37 73) 43 := rfl
            refine iv_X12_320 hK (s_X12_putBits_73 (n - 6) 5 g103_37 hT_37 (by first | omega | (simp [up, setR] <;> omega)) (by first | omega | (simp [up, setR] <;> omega)) (by rewrite [e38_73_42, e39_73_43]; first | omega | (simp [up, setR] <;> omega))) (by decide) rfl ⟨by decide, by decide⟩ (by decide) rfl rfl (Nat.le_of_ble_eq_true rfl) ⟨by decide, by decide⟩ dX12_putHead_112 ?_
            intro r9 g112_40 hp9
            obtain ⟨⟨hT_40, hG_40⟩, hr9, p1_40⟩ := hp9
            rw [hr9]
            have hF_40 : FRM [73, 88, 100] [42, 43] h g112_40 := FRM_tr hF_37 hG_40 (by decide) (by decide)
            rw [show g103_37 73 42 = (g103_37 73) 42 from rfl] at p1_40
            rw [show g103_37 73 43 = (g103_37 73) 43 from rfl] at p1_40
            show TT K ly 0 0 115 [(0, vR 73), (1, vI b), (2, vI n)] [] g112_40
            have e41_73_42 : g112_40 73 42 = (g112_40 73) 42 := rfl
            have e42_73_43 : g112_40 73 43 = (g112_40 73) 43 := rfl
            exact J115_5 g112_40 hT_40 hF_40 (by rewrite [e41_73_42, e42_73_43]; first | omega | (simp [up, setR] <;> omega))
          · refine TT_aload_n hK rfl 0 rfl dX12_putHead_82 ?_
            refine TT_iconst hK dX12_putHead_83 ?_
            refine TT_iconst hK dX12_putHead_84 ?_
            have e43_73_42 : w53_32 73 42 = (w53_32 73) 42 := rfl
            have e44_73_43 : w53_32 73 43 = (w53_32 73) 43 := rfl
            refine iv_X12_320 hK (s_X12_putBits_73 3 2 w53_32 hT53_32 (by first | omega | (simp [up, setR] <;> omega)) (by first | omega | (simp [up, setR] <;> omega)) (by rewrite [e43_73_42, e44_73_43]; first | omega | (simp [up, setR] <;> omega))) (by decide) rfl ⟨by decide, by decide⟩ (by decide) rfl rfl (Nat.le_of_ble_eq_true rfl) ⟨by decide, by decide⟩ dX12_putHead_85 ?_
            intro r9 g85_45 hp9
            obtain ⟨⟨hT_45, hG_45⟩, hr9, p1_45⟩ := hp9
            rw [hr9]
            have hF_45 : FRM [73, 88, 100] [42, 43] h g85_45 := FRM_tr hF53_32 hG_45 (by decide) (by decide)
            rw [show w53_32 73 42 = (w53_32 73) 42 from rfl] at p1_45
            rw [show w53_32 73 43 = (w53_32 73) 43 from rfl] at p1_45
            show TT K ly 0 0 88 [(0, vR 73), (1, vI b), (2, vI n)] [] g85_45
            refine TT_aload_n hK rfl 0 rfl dX12_putHead_88 ?_
            refine TT_iload_n hK rfl 2 rfl dX12_putHead_89 ?_
            refine TT_iconst hK dX12_putHead_90 ?_
            refine TT_isub hK dX12_putHead_91 ?_
            refine TT_iconst hK dX12_putHead_92 ?_
            have e46_73_42 : g85_45 73 42 = (g85_45 73) 42 := rfl
            have e47_73_43 : g85_45 73 43 = (g85_45 73) 43 := rfl
            refine iv_X12_320 hK (s_X12_putBits_73 (n - 3) 2 g85_45 hT_45 (by first | omega | (simp [up, setR] <;> omega)) (by first | omega | (simp [up, setR] <;> omega)) (by rewrite [e46_73_42, e47_73_43]; first | omega | (simp [up, setR] <;> omega))) (by decide) rfl ⟨by decide, by decide⟩ (by decide) rfl rfl (Nat.le_of_ble_eq_true rfl) ⟨by decide, by decide⟩ dX12_putHead_93 ?_
            intro r9 g93_48 hp9
            obtain ⟨⟨hT_48, hG_48⟩, hr9, p1_48⟩ := hp9
            rw [hr9]
            have hF_48 : FRM [73, 88, 100] [42, 43] h g93_48 := FRM_tr hF_45 hG_48 (by decide) (by decide)
            rw [show g85_45 73 42 = (g85_45 73) 42 from rfl] at p1_48
            rw [show g85_45 73 43 = (g85_45 73) 43 from rfl] at p1_48
            show TT K ly 0 0 96 [(0, vR 73), (1, vI b), (2, vI n)] [] g93_48
            refine TT_goto hK (tgt := 115) dX12_putHead_96 (by decide) ?_
            have e49_73_42 : g93_48 73 42 = (g93_48 73) 42 := rfl
            have e50_73_43 : g93_48 73 43 = (g93_48 73) 43 := rfl
            exact J115_5 g93_48 hT_48 hF_48 (by rewrite [e49_73_42, e50_73_43]; first | omega | (simp [up, setR] <;> omega))
        · refine TT_aload_n hK rfl 0 rfl dX12_putHead_58 ?_
          refine TT_iload_n hK rfl 2 rfl dX12_putHead_59 ?_
          refine TT_iconst hK dX12_putHead_60 ?_
          refine TT_icmp_ne hK (tgt := 68) (irm (by omega) (by omega)) (by decide) dX12_putHead_61 (by decide) (fun hb61_51 => ?_) (fun hb61_51 => ?_)
          · refine TT_iconst hK dX12_putHead_68 ?_
            refine TT_iload_n hK rfl 2 rfl dX12_putHead_69 ?_
            have e52_73_42 : w53_32 73 42 = (w53_32 73) 42 := rfl
            have e53_73_43 : w53_32 73 43 = (w53_32 73) 43 := rfl
            refine iv_X12_320 hK (s_X12_putBits_73 2 n w53_32 hT53_32 (by first | omega | (simp [up, setR] <;> omega)) (by first | omega | (simp [up, setR] <;> omega)) (by rewrite [e52_73_42, e53_73_43]; first | omega | (simp [up, setR] <;> omega))) (by decide) rfl ⟨by decide, by decide⟩ (by decide) rfl rfl (Nat.le_of_ble_eq_true rfl) ⟨by decide, by decide⟩ dX12_putHead_70 ?_
            intro r9 g70_54 hp9
            obtain ⟨⟨hT_54, hG_54⟩, hr9, p1_54⟩ := hp9
            rw [hr9]
            have hF_54 : FRM [73, 88, 100] [42, 43] h g70_54 := FRM_tr hF53_32 hG_54 (by decide) (by decide)
            rw [show w53_32 73 42 = (w53_32 73) 42 from rfl] at p1_54
            rw [show w53_32 73 43 = (w53_32 73) 43 from rfl] at p1_54
            show TT K ly 0 0 73 [(0, vR 73), (1, vI b), (2, vI n)] [] g70_54
            refine TT_goto hK (tgt := 115) dX12_putHead_73 (by decide) ?_
            have e55_73_42 : g70_54 73 42 = (g70_54 73) 42 := rfl
            have e56_73_43 : g70_54 73 43 = (g70_54 73) 43 := rfl
            exact J115_5 g70_54 hT_54 hF_54 (by rewrite [e55_73_42, e56_73_43]; first | omega | (simp [up, setR] <;> omega))
          · refine TT_iconst hK dX12_putHead_64 ?_
            refine TT_goto hK (tgt := 69) dX12_putHead_65 (by decide) ?_
            refine TT_iload_n hK rfl 2 rfl dX12_putHead_69 ?_
            have e57_73_42 : w53_32 73 42 = (w53_32 73) 42 := rfl
            have e58_73_43 : w53_32 73 43 = (w53_32 73) 43 := rfl
            refine iv_X12_320 hK (s_X12_putBits_73 0 n w53_32 hT53_32 (by first | omega | (simp [up, setR] <;> omega)) (by first | omega | (simp [up, setR] <;> omega)) (by rewrite [e57_73_42, e58_73_43]; first | omega | (simp [up, setR] <;> omega))) (by decide) rfl ⟨by decide, by decide⟩ (by decide) rfl rfl (Nat.le_of_ble_eq_true rfl) ⟨by decide, by decide⟩ dX12_putHead_70 ?_
            intro r9 g70_59 hp9
            obtain ⟨⟨hT_59, hG_59⟩, hr9, p1_59⟩ := hp9
            rw [hr9]
            have hF_59 : FRM [73, 88, 100] [42, 43] h g70_59 := FRM_tr hF53_32 hG_59 (by decide) (by decide)
            rw [show w53_32 73 42 = (w53_32 73) 42 from rfl] at p1_59
            rw [show w53_32 73 43 = (w53_32 73) 43 from rfl] at p1_59
            show TT K ly 0 0 73 [(0, vR 73), (1, vI b), (2, vI n)] [] g70_59
            refine TT_goto hK (tgt := 115) dX12_putHead_73 (by decide) ?_
            have e60_73_42 : g70_59 73 42 = (g70_59 73) 42 := rfl
            have e61_73_43 : g70_59 73 43 = (g70_59 73) 43 := rfl
            exact J115_5 g70_59 hT_59 hF_59 (by rewrite [e60_73_42, e61_73_43]; first | omega | (simp [up, setR] <;> omega))
      refine TT_aload_n hK rfl 0 rfl dX12_putHead_33 ?_
      refine gf_X12_57 hK (by decide) rfl (q := 87) rfl rfl dX12_putHead_34 ?_
      refine TT_iload_n hK rfl 1 rfl dX12_putHead_37 ?_
      refine TT_iald hK (o := 87) (n := 20) (by decide) rfl (by first | omega | (simp [up, setR] <;> omega)) (by first | omega | (simp [up, setR] <;> omega)) (v := (h 87) b) (rd_ (hF28_3.1 87 (by decide)) rfl) dX12_putHead_38 ?_
      have r62 := ty_87 (i := b) (v := (h 87) b) hT28_3 (rd_ (hF28_3.1 87 (by decide)) rfl) (by omega) (by omega)
      refine TT_if_ne hK (tgt := 53) (irm (by omega) (by omega)) dX12_putHead_39 (by decide) (fun hb39_63 => ?_) (fun hb39_63 => ?_)
      · have e64_73_42 : w28_3 73 42 = (w28_3 73) 42 := rfl
        have e65_73_43 : w28_3 73 43 = (w28_3 73) 43 := rfl
        exact J53_32 w28_3 hT28_3 hF28_3 (by rewrite [e64_73_42, e65_73_43]; first | omega | (simp [up, setR] <;> omega))
      · refine TT_aload_n hK rfl 0 rfl dX12_putHead_42 ?_
        refine TT_aload_n hK rfl 0 rfl dX12_putHead_43 ?_
        refine gf_X12_44 hK (by decide) rfl (q := 83) rfl rfl dX12_putHead_44 ?_
        refine TT_iload_n hK rfl 1 rfl dX12_putHead_47 ?_
        refine TT_iald hK (o := 83) (n := 20) (by decide) rfl (by first | omega | (simp [up, setR] <;> omega)) (by first | omega | (simp [up, setR] <;> omega)) (v := (h 83) b) (rd_ (hF28_3.1 83 (by decide)) rfl) dX12_putHead_48 ?_
        have r66 := ty_83 (i := b) (v := (h 83) b) hT28_3 (rd_ (hF28_3.1 83 (by decide)) rfl) (by omega) (by omega)
        refine TT_iconst hK dX12_putHead_49 ?_
        have e67_73_42 : w28_3 73 42 = (w28_3 73) 42 := rfl
        have e68_73_43 : w28_3 73 43 = (w28_3 73) 43 := rfl
        refine iv_X12_320 hK (s_X12_putBits_73 ((h 83) b) 4 w28_3 hT28_3 (by first | omega | (simp [up, setR] <;> omega)) (by first | omega | (simp [up, setR] <;> omega)) (by rewrite [e67_73_42, e68_73_43]; first | omega | (simp [up, setR] <;> omega))) (by decide) rfl ⟨by decide, by decide⟩ (by decide) rfl rfl (Nat.le_of_ble_eq_true rfl) ⟨by decide, by decide⟩ dX12_putHead_50 ?_
        intro r9 g50_69 hp9
        obtain ⟨⟨hT_69, hG_69⟩, hr9, p1_69⟩ := hp9
        rw [hr9]
        have hF_69 : FRM [73, 88, 100] [42, 43] h g50_69 := FRM_tr hF28_3 hG_69 (by decide) (by decide)
        rw [show w28_3 73 42 = (w28_3 73) 42 from rfl] at p1_69
        rw [show w28_3 73 43 = (w28_3 73) 43 from rfl] at p1_69
        show TT K ly 0 0 53 [(0, vR 73), (1, vI b), (2, vI n)] [] g50_69
        have e70_73_42 : g50_69 73 42 = (g50_69 73) 42 := rfl
        have e71_73_43 : g50_69 73 43 = (g50_69 73) 43 := rfl
        exact J53_32 g50_69 hT_69 hF_69 (by rewrite [e70_73_42, e71_73_43]; first | omega | (simp [up, setR] <;> omega))
    · refine TT_vret hK hQ ?_ dX12_putHead_32
      have e72_73_42 : w28_3 73 42 = (w28_3 73) 42 := rfl
      have e73_73_43 : w28_3 73 43 = (w28_3 73) 43 := rfl
      exact ⟨⟨hT28_3, hF28_3⟩, rfl, (by rewrite [e72_73_42, e73_73_43]; omega)⟩
  refine TT_aload_n hK rfl 1 rfl dX12_putHead_14 ?_
  refine TT_iload_n hK rfl 0 rfl dX12_putHead_15 ?_
  refine TT_if_le hK (tgt := 23) (irm (by omega) (by omega)) dX12_putHead_16 (by decide) (fun hb16_74 => ?_) (fun hb16_74 => ?_)
  · refine TT_iconst hK dX12_putHead_23 ?_
    refine TT_iconst hK dX12_putHead_24 ?_
    have e75_73_42 : h 73 42 = (h 73) 42 := rfl
    have e76_73_43 : h 73 43 = (h 73) 43 := rfl
    refine iv_X12_320 hK (s_X12_putBits_73 0 1 h hT (by first | omega | (simp [up, setR] <;> omega)) (by first | omega | (simp [up, setR] <;> omega)) (by rewrite [e75_73_42, e76_73_43]; first | omega | (simp [up, setR] <;> omega))) (by decide) rfl ⟨by decide, by decide⟩ (by decide) rfl rfl (Nat.le_of_ble_eq_true rfl) ⟨by decide, by decide⟩ dX12_putHead_25 ?_
    intro r9 g25_77 hp9
    obtain ⟨⟨hT_77, hG_77⟩, hr9, p1_77⟩ := hp9
    rw [hr9]
    have hF_77 : FRM [73, 88, 100] [42, 43] h g25_77 := FRM_tr hF hG_77 (by decide) (by decide)
    rw [show h 73 42 = (h 73) 42 from rfl] at p1_77
    rw [show h 73 43 = (h 73) 43 from rfl] at p1_77
    show TT K ly 0 0 28 [(2, vI n), (0, vR 73), (1, vI b)] [] g25_77
    refine TT_sub [1, 2, 0] rfl ?_
    have e78_73_42 : g25_77 73 42 = (g25_77 73) 42 := rfl
    have e79_73_43 : g25_77 73 43 = (g25_77 73) 43 := rfl
    exact J28_3 g25_77 hT_77 hF_77 (by rewrite [e78_73_42, e79_73_43]; first | omega | (simp [up, setR] <;> omega))
  · refine TT_iconst hK dX12_putHead_19 ?_
    refine TT_goto hK (tgt := 24) dX12_putHead_20 (by decide) ?_
    refine TT_iconst hK dX12_putHead_24 ?_
    have e80_73_42 : h 73 42 = (h 73) 42 := rfl
    have e81_73_43 : h 73 43 = (h 73) 43 := rfl
    refine iv_X12_320 hK (s_X12_putBits_73 1 1 h hT (by first | omega | (simp [up, setR] <;> omega)) (by first | omega | (simp [up, setR] <;> omega)) (by rewrite [e80_73_42, e81_73_43]; first | omega | (simp [up, setR] <;> omega))) (by decide) rfl ⟨by decide, by decide⟩ (by decide) rfl rfl (Nat.le_of_ble_eq_true rfl) ⟨by decide, by decide⟩ dX12_putHead_25 ?_
    intro r9 g25_82 hp9
    obtain ⟨⟨hT_82, hG_82⟩, hr9, p1_82⟩ := hp9
    rw [hr9]
    have hF_82 : FRM [73, 88, 100] [42, 43] h g25_82 := FRM_tr hF hG_82 (by decide) (by decide)
    rw [show h 73 42 = (h 73) 42 from rfl] at p1_82
    rw [show h 73 43 = (h 73) 43 from rfl] at p1_82
    show TT K ly 0 0 28 [(2, vI n), (0, vR 73), (1, vI b)] [] g25_82
    refine TT_sub [1, 2, 0] rfl ?_
    have e83_73_42 : g25_82 73 42 = (g25_82 73) 42 := rfl
    have e84_73_43 : g25_82 73 43 = (g25_82 73) 43 := rfl
    exact J28_3 g25_82 hT_82 hF_82 (by rewrite [e83_73_42, e84_73_43]; first | omega | (simp [up, setR] <;> omega))
set_option maxRecDepth 20000 in
theorem s_X12_firstOf (q : Int) (h : Hp_) (hT : TY h) (hq : 0 ≤ q ∧ q ≤ 3) : Ctr yX12_firstOf cX12_firstOf 1 (some .int) (rmd 0) ly ly 0 0 [vI q] h (fun r h' => (TY h' ∧ FRM [] [] h h') ∧ ∃ z : Int, r = some (vI z) ∧ (0 ≤ z ∧ z ≤ 7) ∧ (z = FS q)) := by
  refine Ctr_of (by decide) (Nat.le_of_ble_eq_true rfl) ⟨Nat.le_refl _, Nat.le_refl _⟩ (fun K hK hQ _ => ?_)
  show TT K ly 0 0 0 [(0, vI q)] [] h
  have hF : FRM [] [] h h := FRM_rf _ _ _
  refine TT_iload_n hK rfl 0 rfl dX12_firstOf_0 ?_
  refine TT_if_ne hK (tgt := 8) (irm (by omega) (by omega)) dX12_firstOf_1 (by decide) (fun hb1_1 => ?_) (fun hb1_1 => ?_)
  · refine TT_iconst hK dX12_firstOf_8 ?_
    refine TT_iload_n hK rfl 0 rfl dX12_firstOf_9 ?_
    refine TT_imul hK dX12_firstOf_10 ?_
    refine TT_iconst hK dX12_firstOf_11 ?_
    refine TT_isub hK dX12_firstOf_12 ?_
    refine TT_iret hK hQ ?_ dX12_firstOf_13
    exact ⟨⟨hT, hF⟩, ((3 * q) - 2), rfl, (by omega), (by unfold FS; first | rw [if_pos (by omega)] | (rw [if_neg (by omega)]))⟩
  · refine TT_iconst hK dX12_firstOf_4 ?_
    refine TT_goto hK (tgt := 13) dX12_firstOf_5 (by decide) ?_
    refine TT_iret hK hQ ?_ dX12_firstOf_13
    exact ⟨⟨hT, hF⟩, 0, rfl, (by omega), (by unfold FS; first | rw [if_pos (by omega)] | (rw [if_neg (by omega)]))⟩

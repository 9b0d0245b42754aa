/-! putting bits: (at, used, bytes) -/
abbrev PBS_ := Int × Int × (Int → Int)
def bitS (s : PBS_) (v : Int) : PBS_ := (if s.2.1 = 7 then s.1 + 1 else s.1, if s.2.1 = 7 then 0 else s.2.1 + 1, fup s.2.2 s.1 ((if s.2.1 = 0 then 0 else s.2.2 s.1) + v * 2 ^ (7 - s.2.1).toNat))
def putS (v : Int) : Nat → PBS_ → PBS_
  | 0, s => s
  | k + 1, s => putS v k (bitS s (v / 2 ^ k % 2))
theorem ior_all : ∀ (f : Fin 8) (x : Fin 256) (y : Fin 2), (x.val : Int) % 2 ^ (f.val + 1) = 0 → ior_ (x.val : Int) ((y.val : Int) * 2 ^ f.val) = (x.val : Int) + (y.val : Int) * 2 ^ f.val := by decide +kernel
theorem ior_add {f x y : Int} (hf : 0 ≤ f ∧ f ≤ 7) (hx : 0 ≤ x ∧ x ≤ 255) (hy : 0 ≤ y ∧ y ≤ 1) (hm : x % 2 ^ (f.toNat + 1) = 0) : ior_ x (y * 2 ^ f.toNat) = x + y * 2 ^ f.toNat := by
  have k := ior_all ⟨f.toNat, by omega⟩ ⟨x.toNat, by omega⟩ ⟨y.toNat, by omega⟩
  dsimp only at k
  rw [show ((x.toNat : Nat) : Int) = x by omega, show ((y.toNat : Nat) : Int) = y by omega] at k
  exact k hm
/-- a state of putting: the byte at hand has zeros behind its used bits -/
def PBQ (s : PBS_) : Prop := 0 ≤ s.1 ∧ (0 ≤ s.2.1 ∧ s.2.1 ≤ 7) ∧ (0 < s.2.1 → (0 ≤ s.2.2 s.1 ∧ s.2.2 s.1 ≤ 255) ∧ s.2.2 s.1 % 2 ^ (8 - s.2.1).toNat = 0)
theorem pb_tab : ∀ (u : Fin 8) (x : Fin 256) (v : Fin 2), (u.val = 0 → x.val = 0) → (x.val : Int) % 2 ^ (8 - u.val) = 0 → (0 ≤ (x.val : Int) + (v.val : Int) * 2 ^ (7 - u.val) ∧ (x.val : Int) + (v.val : Int) * 2 ^ (7 - u.val) ≤ 255) ∧ ((x.val : Int) + (v.val : Int) * 2 ^ (7 - u.val)) % 2 ^ (7 - u.val) = 0 := by decide +kernel
theorem bitS_q {s : PBS_} {v : Int} (h : PBQ s) (hv : 0 ≤ v ∧ v ≤ 1) : PBQ (bitS s v) ∧ (0 ≤ (bitS s v).2.2 s.1 ∧ (bitS s v).2.2 s.1 ≤ 255) := by
  obtain ⟨a, u, o⟩ := s
  obtain ⟨h1, h2, h3⟩ := h
  dsimp only at h1 h2 h3
  have key : ∃ x : Int, (if u = 0 then 0 else o a) = x ∧ (0 ≤ x ∧ x ≤ 255) ∧ (u = 0 → x = 0) ∧ x % 2 ^ (8 - u).toNat = 0 := by
    by_cases z : u = 0
    · exact ⟨0, if_pos z, by omega, fun _ => rfl, Int.zero_emod _⟩
    · exact ⟨o a, if_neg z, (h3 (by omega)).1, fun q => absurd q z, (h3 (by omega)).2⟩
  obtain ⟨x, e, hx, hz, hm⟩ := key
  have k := pb_tab ⟨u.toNat, by omega⟩ ⟨x.toNat, by omega⟩ ⟨v.toNat, by omega⟩ (fun q => by have := hz (by have q2 : u.toNat = 0 := q; omega); show x.toNat = 0; omega)
  dsimp only at k
  rw [show ((x.toNat : Nat) : Int) = x by omega, show ((v.toNat : Nat) : Int) = v by omega, show 8 - u.toNat = (8 - u).toNat by omega, show 7 - u.toNat = (7 - u).toNat by omega] at k
  have k2 := k hm
  have eb : (bitS (a, u, o) v).2.2 a = x + v * 2 ^ (7 - u).toNat := by
    show fup o a _ a = _
    rw [fup_eq]
    show (if u = 0 then 0 else o a) + _ = _
    rw [e]
  refine ⟨?_, by rw [eb]; exact k2.1⟩
  by_cases c : u = 7
  · refine ⟨?_, ?_, fun q => ?_⟩
    · show 0 ≤ if u = 7 then a + 1 else a
      rw [if_pos c]; omega
    · show 0 ≤ (if u = 7 then 0 else u + 1) ∧ (if u = 7 then 0 else u + 1) ≤ 7
      rw [if_pos c]; omega
    · exfalso
      have q2 : 0 < if u = 7 then 0 else u + 1 := q
      rw [if_pos c] at q2
      omega
  · have e1 : (bitS (a, u, o) v).1 = a := if_neg c
    have e2 : (bitS (a, u, o) v).2.1 = u + 1 := if_neg c
    refine ⟨by rw [e1]; exact h1, by rw [e2]; omega, fun _ => ?_⟩
    rw [e1, e2, eb, show (8 - (u + 1)).toNat = (7 - u).toNat by omega]
    exact k2
/-- the class's row of bytes, while bits are put -/
def CBR (n f : Int) (o : Int → Int) (s : PBS_) : Prop := n = s.1 + (if 0 < s.2.1 then 1 else 0) ∧ f = (if 0 < s.2.1 then 8 - s.2.1 else 0) ∧ ∀ j : Int, 0 ≤ j → j < n → o j = s.2.2 j
theorem CBR_b {n f n1 f1 v : Int} {o o1 : Int → Int} {s : PBS_} (h : CBR n f o s) (hs : PBQ s) (hv : 0 ≤ v ∧ v ≤ 1) (h1 : (f = 0 ∧ n1 = n + 1 ∧ o1 = fup o n 0 ∧ f1 = 7) ∨ (f ≠ 0 ∧ n1 = n ∧ o1 = o ∧ f1 = f - 1)) : CBR n1 f1 (fup o1 (n1 - 1) (ior_ (o1 (n1 - 1)) (v * 2 ^ f1.toNat))) (bitS s v) := by
  obtain ⟨a, u, b⟩ := s
  obtain ⟨q1, q2, q3⟩ := h
  obtain ⟨p1, p2, p3⟩ := hs
  dsimp only at q1 q2 q3 p1 p2 p3
  have hn : n1 = a + 1 := by
    rcases h1 with ⟨z, e, -, -⟩ | ⟨z, e, -, -⟩ <;> split at q1 <;> split at q2 <;> omega
  have hf : f1 = 7 - u := by
    rcases h1 with ⟨z, -, -, e⟩ | ⟨z, -, -, e⟩ <;> split at q2 <;> omega
  have hx : ∃ x : Int, o1 a = x ∧ (if u = 0 then 0 else b a) = x ∧ (0 ≤ x ∧ x ≤ 255) ∧ x % 2 ^ (f1.toNat + 1) = 0 := by
    rcases h1 with ⟨z, e, e2, e3⟩ | ⟨z, e, e2, e3⟩
    · have u0 : u = 0 := by split at q2 <;> omega
      refine ⟨0, ?_, if_pos u0, by omega, Int.zero_emod _⟩
      rw [e2, show n = a by omega, fup_eq]
    · have u0 : 0 < u := by
        split at q2
        · assumption
        · omega
      rw [if_pos u0] at q1
      refine ⟨b a, ?_, if_neg (by omega), (p3 u0).1, ?_⟩
      · rw [e2]
        exact q3 a p1 (by omega)
      · rw [hf, show (7 - u).toNat + 1 = (8 - u).toNat by omega]
        exact (p3 u0).2
  obtain ⟨x, x1, x2, x3, x4⟩ := hx
  have hi : ior_ (o1 (n1 - 1)) (v * 2 ^ f1.toNat) = x + v * 2 ^ f1.toNat := by
    rw [show n1 - 1 = a by omega, x1]
    exact ior_add (by omega) x3 hv x4
  rw [hi, show n1 - 1 = a by omega]
  refine ⟨?_, ?_, fun j j0 j1 => ?_⟩
  · show n1 = (if u = 7 then a + 1 else a) + if 0 < (if u = 7 then 0 else u + 1) then 1 else 0
    by_cases c : u = 7
    · rw [if_pos c, if_pos c, if_neg (by omega)]; omega
    · rw [if_neg c, if_neg c, if_pos (by omega)]; omega
  · show f1 = if 0 < (if u = 7 then 0 else u + 1) then 8 - (if u = 7 then 0 else u + 1) else 0
    by_cases c : u = 7
    · rw [if_pos c, if_neg (by omega)]; omega
    · rw [if_neg c, if_pos (by omega)]; omega
  · show fup o1 a _ j = fup b a ((if u = 0 then 0 else b a) + v * 2 ^ (7 - u).toNat) j
    by_cases e : j = a
    · rw [e, fup_eq, fup_eq, x2, hf]
    · rw [fup_ne _ _ e, fup_ne _ _ e]
      rcases h1 with ⟨z, e1, e2, e3⟩ | ⟨z, e1, e2, e3⟩
      · rw [e2, fup_ne _ _ (by omega)]
        exact q3 j j0 (by omega)
      · rw [e2]
        exact q3 j j0 (by omega)
/-- behind the bits: a new byte is begun -/
def endB (s : PBS_) : PBS_ := (if 0 < s.2.1 then s.1 + 1 else s.1, 0, s.2.2)
theorem CBR_e {n f : Int} {o : Int → Int} {s : PBS_} (h : CBR n f o s) : CBR n 0 o (endB s) := by
  obtain ⟨q1, q2, q3⟩ := h
  refine ⟨?_, (show (0 : Int) = if (0 : Int) < 0 then 8 - 0 else 0 from (if_neg (by decide)).symm), q3⟩
  show n = (if 0 < s.2.1 then s.1 + 1 else s.1) + if (0 : Int) < 0 then 1 else 0
  rw [if_neg (show ¬ (0 : Int) < 0 by decide)]
  split at q1 <;> split <;> omega
theorem v01 (v : Int) (k : Nat) : 0 ≤ v / 2 ^ k % 2 ∧ v / 2 ^ k % 2 ≤ 1 := by omega
theorem bitS_n {s : PBS_} (h : PBQ s) (v : Int) : 8 * (bitS s v).1 + (bitS s v).2.1 = 8 * s.1 + s.2.1 + 1 := by
  obtain ⟨a, u, o⟩ := s
  have h2 := h.2.1
  dsimp only at h2
  by_cases c : u = 7
  · rw [show (bitS (a, u, o) v).1 = a + 1 from if_pos c, show (bitS (a, u, o) v).2.1 = 0 from if_pos c]
    show 8 * (a + 1) + 0 = 8 * a + u + 1
    omega
  · rw [show (bitS (a, u, o) v).1 = a from if_neg c, show (bitS (a, u, o) v).2.1 = u + 1 from if_neg c]
    show 8 * a + (u + 1) = 8 * a + u + 1
    omega
theorem CBR_r {n f : Int} {o : Int → Int} {s : PBS_} (h : CBR n f o s) (hs : PBQ s) : (f = 0 → s.2.1 = 0 ∧ n = s.1) ∧ (f ≠ 0 → 0 < s.2.1 ∧ n = s.1 + 1 ∧ f = 8 - s.2.1) ∧ 0 ≤ n ∧ 0 ≤ s.1 := by
  obtain ⟨q1, q2, -⟩ := h
  obtain ⟨p1, p2, -⟩ := hs
  by_cases c : 0 < s.2.1
  · rw [if_pos c] at q1 q2
    omega
  · rw [if_neg c] at q1 q2
    omega
set_option maxRecDepth 20000 in
theorem s_has5_e (i : Int) (h : Hp_) (hT : TY h) (hi : -2147483648 ≤ i ∧ i ≤ 2147483647) : Ctr yX1_has cX1_has 2 (some .boolean) (rmd 0) ly ly 0 0 [vR 5, vI i] h (fun r h' => (TY h' ∧ FR [] h h') ∧ ∃ z : Int, r = some (vI z) ∧ (0 ≤ z ∧ z ≤ 1) ∧ (z = 1 → 0 ≤ i ∧ i < 1024) ∧ ((z = 1 → 0 ≤ i ∧ i < (h 5 1)) ∧ (0 ≤ i ∧ i < (h 5 1) → z = 1))) := by
  refine Ctr_of (by decide) (Nat.le_of_ble_eq_true rfl) ⟨Nat.le_refl _, Nat.le_refl _⟩ (fun K hK hQ _ => ?_)
  show TT K ly 0 0 0 [(0, vR 5), (1, vI i)] [] h
  have hF : FR [] h h := FR_rf _ _
  refine TT_iload_n hK rfl 1 rfl dX1_has_0 ?_
  refine TT_if_lt hK (tgt := 16) (irm (by omega) (by omega)) dX1_has_1 (by decide) (fun hb1_1 => ?_) (fun hb1_1 => ?_)
  · refine TT_iconst hK dX1_has_16 ?_
    refine TT_zret hK hQ (by decide) ?_ dX1_has_17
    exact ⟨⟨hT, hF⟩, 0, rfl, (by omega), (by omega), (by exact ⟨fun q => by omega, fun q => by omega⟩)⟩
  · refine TT_iload_n hK rfl 1 rfl dX1_has_4 ?_
    refine TT_aload_n hK rfl 0 rfl dX1_has_5 ?_
    refine gf_X1_15 hK (by decide) rfl (v := (h 5) 1) rfl dX1_has_6 ?_
    have r2 := ty_5_1 (v := (h 5) 1) hT rfl
    refine TT_icmp_ge hK (tgt := 16) (irm (by omega) (by omega)) (irm (by omega) (by omega)) dX1_has_9 (by decide) (fun hb9_3 => ?_) (fun hb9_3 => ?_)
    · refine TT_iconst hK dX1_has_16 ?_
      refine TT_zret hK hQ (by decide) ?_ dX1_has_17
      exact ⟨⟨hT, hF⟩, 0, rfl, (by omega), (by omega), (by exact ⟨fun q => by omega, fun q => by omega⟩)⟩
    · refine TT_iconst hK dX1_has_12 ?_
      refine TT_goto hK (tgt := 17) dX1_has_13 (by decide) ?_
      refine TT_zret hK hQ (by decide) ?_ dX1_has_17
      exact ⟨⟨hT, hF⟩, 1, rfl, (by omega), (by omega), (by exact ⟨fun q => by omega, fun q => by omega⟩)⟩
set_option maxRecDepth 20000 in
theorem s_set5_e (i v : Int) (h : Hp_) (hT : TY h) (hi : -2147483648 ≤ i ∧ i ≤ 2147483647) (hv : 0 ≤ v ∧ v ≤ 255) : Ctr yX1_set cX1_set 3 none (rmd 1) ly ly 0 0 [vR 5, vI i, vI v] h (fun r h' => (TY h' ∧ FR [6] h h') ∧ r = none ∧ (0 ≤ i ∧ i < (h 5 1) → (h' 6) = fup (h 6) i v)) := by
  refine Ctr_of (by decide) (Nat.le_of_ble_eq_true rfl) ⟨Nat.le_refl _, Nat.le_refl _⟩ (fun K hK hQ _ => ?_)
  show TT K ly 0 0 0 [(0, vR 5), (1, vI i), (2, vI v)] [] h
  have hF : FR [6] h h := FR_rf _ _
  refine TT_aload_n hK rfl 0 rfl dX1_set_0 ?_
  refine TT_iload_n hK rfl 1 rfl dX1_set_1 ?_
  refine iv_X1_22 hK (s_has5_e i h hT (by first | omega | (simp [up, setR] <;> omega))) (by decide) rfl ⟨by decide, by decide⟩ (by decide) rfl rfl (Nat.le_of_ble_eq_true rfl) ⟨by decide, by decide⟩ dX1_set_2 ?_
  intro r9 g2_1 hp9
  obtain ⟨⟨hT_1, hG_1⟩, z2_1, hr9, hz_1, p1_1, e_1⟩ := hp9
  rw [hr9]
  have hF_1 : FR [6] h g2_1 := FR_tr hF hG_1 (by decide)
  rw [show h 5 1 = (h 5) 1 from rfl] at e_1
  have e_at2 := e_1
  show TT K ly 0 0 5 [(0, vR 5), (1, vI i), (2, vI v)] [vI z2_1] g2_1
  refine TT_if_eq hK (tgt := 15) (irm (by omega) (by omega)) dX1_set_5 (by decide) (fun hb5_2 => ?_) (fun hb5_2 => ?_)
  · refine TT_vret hK hQ ?_ dX1_set_15
    have e3_6 : g2_1 6 = h 6 := (hG_1 6 (by decide))
    exact ⟨⟨hT_1, hF_1⟩, rfl, (by rewrite [e3_6]; first | (intro q; rfl) | (intro q; exfalso; have e9 := e_at2.2 q; omega))⟩
  · refine TT_aload_n hK rfl 0 rfl dX1_set_8 ?_
    refine gf_X1_9 hK (by decide) rfl (q := 6) rfl rfl dX1_set_9 ?_
    refine TT_iload_n hK rfl 1 rfl dX1_set_12 ?_
    refine TT_iload_n hK rfl 2 rfl dX1_set_13 ?_
    refine TT_iast hK (o := 6) (n := 1024) (by decide) rfl (by omega) (by omega) dX1_set_14 ?_
    refine TT_hp (h' := setO g2_1 6 (fup (h 6) i v)) (up_can (hG_1 6 (by decide)) rfl rfl) ?_
    have hT_4 : TY (setO g2_1 6 (fup (h 6) i v)) := tu_6 hT_1 (show up g2_1 6 i v = (setO g2_1 6 (fup (h 6) i v)) from up_can (hG_1 6 (by decide)) rfl rfl) (by omega)
    have hF_4 : FR [6] h (setO g2_1 6 (fup (h 6) i v)) := FR_up (show up g2_1 6 i v = (setO g2_1 6 (fup (h 6) i v)) from up_can (hG_1 6 (by decide)) rfl rfl) hF_1 (by decide)
    refine TT_vret hK hQ ?_ dX1_set_15
    have e5_6 : (setO g2_1 6 (fup (h 6) i v)) 6 = fup (h 6) i v := sOf_eq _ _ _
    exact ⟨⟨hT_4, hF_4⟩, rfl, (by rewrite [e5_6]; first | (intro q; rfl) | (intro q; exfalso; have e9 := e_at2.2 q; omega))⟩
set_option maxRecDepth 20000 in
theorem s_add5_e (v : Int) (h : Hp_) (hT : TY h) (hv : 0 ≤ v ∧ v ≤ 255) : Ctr yX1_add cX1_add 2 none (rmd 0) ly ly 0 0 [vR 5, vI v] h (fun r h' => (TY h' ∧ FR [5, 6] h h') ∧ r = none ∧ ((h 5 1) < 1024 → (h' 5 1) = (h 5 1) + 1 ∧ (h' 6) = fup (h 6) (h 5 1) v) ∧ ((h' 5 2) = 0)) := by
  refine Ctr_of (by decide) (Nat.le_of_ble_eq_true rfl) ⟨Nat.le_refl _, Nat.le_refl _⟩ (fun K hK hQ _ => ?_)
  show TT K ly 0 0 0 [(0, vR 5), (1, vI v)] [] h
  have hF : FR [5, 6] h h := FR_rf _ _
  refine TT_aload_n hK rfl 0 rfl dX1_add_0 ?_
  refine gf_X1_15 hK (by decide) rfl (v := (h 5) 1) rfl dX1_add_1 ?_
  have r1 := ty_5_1 (v := (h 5) 1) hT rfl
  refine TT_aload_n hK rfl 0 rfl dX1_add_4 ?_
  refine gf_X1_9 hK (by decide) rfl (q := 6) rfl rfl dX1_add_5 ?_
  refine TT_alen hK (o := 6) (t := 12) (n := 1024) (v := 1024) (by decide) rfl (by decide) rfl dX1_add_8 ?_
  refine TT_icmp_ge hK (tgt := 32) (irm (by omega) (by omega)) (by decide) dX1_add_9 (by decide) (fun hb9_2 => ?_) (fun hb9_2 => ?_)
  · refine TT_aload_n hK rfl 0 rfl dX1_add_32 ?_
    refine TT_iconst hK dX1_add_33 ?_
    refine pf_X1_19 hK (by decide) rfl dX1_add_34 ?_
    refine TT_hp (h' := setO h 5 (fup (h 5) 2 0)) (up_can rfl rfl rfl) ?_
    have hT_3 : TY (setO h 5 (fup (h 5) 2 0)) := tu_5_2 hT (show up h 5 2 0 = (setO h 5 (fup (h 5) 2 0)) from up_can rfl rfl rfl) (by omega)
    have hF_3 : FR [5, 6] h (setO h 5 (fup (h 5) 2 0)) := FR_up (show up h 5 2 0 = (setO h 5 (fup (h 5) 2 0)) from up_can rfl rfl rfl) hF (by decide)
    refine TT_vret hK hQ ?_ dX1_add_37
    have e4_5_1 : (setO h 5 (fup (h 5) 2 0)) 5 1 = (h 5) 1 := rd_ (sOf_eq _ _ _) (fup_ne _ _ (by decide))
    have e5_6 : (setO h 5 (fup (h 5) 2 0)) 6 = h 6 := sOf_ne _ _ (by decide)
    have e6_5_2 : (setO h 5 (fup (h 5) 2 0)) 5 2 = 0 := rd_ (sOf_eq _ _ _) (fup_eq _ _ _)
    exact ⟨⟨hT_3, hF_3⟩, rfl, (by rewrite [e4_5_1, e5_6]; first | (intro q; exact ⟨rfl, rfl⟩) | (intro q; exfalso; omega)), (by rewrite [e6_5_2]; omega)⟩
  · refine TT_aload_n hK rfl 0 rfl dX1_add_12 ?_
    refine gf_X1_9 hK (by decide) rfl (q := 6) rfl rfl dX1_add_13 ?_
    refine TT_aload_n hK rfl 0 rfl dX1_add_16 ?_
    refine gf_X1_15 hK (by decide) rfl (v := (h 5) 1) rfl dX1_add_17 ?_
    refine TT_iload_n hK rfl 1 rfl dX1_add_20 ?_
    refine TT_iast hK (o := 6) (n := 1024) (by decide) rfl (by omega) (by omega) dX1_add_21 ?_
    refine TT_hp (h' := setO h 6 (fup (h 6) ((h 5) 1) v)) (up_can rfl rfl rfl) ?_
    have hT_7 : TY (setO h 6 (fup (h 6) ((h 5) 1) v)) := tu_6 hT (show up h 6 ((h 5) 1) v = (setO h 6 (fup (h 6) ((h 5) 1) v)) from up_can rfl rfl rfl) (by omega)
    have hF_7 : FR [5, 6] h (setO h 6 (fup (h 6) ((h 5) 1) v)) := FR_up (show up h 6 ((h 5) 1) v = (setO h 6 (fup (h 6) ((h 5) 1) v)) from up_can rfl rfl rfl) hF (by decide)
    refine TT_aload_n hK rfl 0 rfl dX1_add_22 ?_
    refine TT_dup hK rfl dX1_add_23 ?_
    refine gf_X1_15 hK (by decide) rfl (v := (h 5) 1) (rd_ (sOf_ne _ _ (by decide)) rfl) dX1_add_24 ?_
    refine TT_iconst hK dX1_add_27 ?_
    refine TT_iadd hK dX1_add_28 ?_
    refine pf_X1_15 hK (by decide) rfl dX1_add_29 ?_
    refine TT_hp (h' := setO (setO h 5 (fup (h 5) 1 (((h 5) 1) + 1))) 6 (fup (h 6) ((h 5) 1) v)) (up_can (sOf_ne _ _ (by decide)) rfl ((setO_comm _ _ _ (by decide)).trans (setO_cg rfl rfl))) ?_
    have hT_8 : TY (setO (setO h 5 (fup (h 5) 1 (((h 5) 1) + 1))) 6 (fup (h 6) ((h 5) 1) v)) := tu_5_1 hT_7 (show up (setO h 6 (fup (h 6) ((h 5) 1) v)) 5 1 (((h 5) 1) + 1) = (setO (setO h 5 (fup (h 5) 1 (((h 5) 1) + 1))) 6 (fup (h 6) ((h 5) 1) v)) from up_can (sOf_ne _ _ (by decide)) rfl ((setO_comm _ _ _ (by decide)).trans (setO_cg rfl rfl))) (by omega)
    have hF_8 : FR [5, 6] h (setO (setO h 5 (fup (h 5) 1 (((h 5) 1) + 1))) 6 (fup (h 6) ((h 5) 1) v)) := FR_up (show up (setO h 6 (fup (h 6) ((h 5) 1) v)) 5 1 (((h 5) 1) + 1) = (setO (setO h 5 (fup (h 5) 1 (((h 5) 1) + 1))) 6 (fup (h 6) ((h 5) 1) v)) from up_can (sOf_ne _ _ (by decide)) rfl ((setO_comm _ _ _ (by decide)).trans (setO_cg rfl rfl))) hF_7 (by decide)
    refine TT_aload_n hK rfl 0 rfl dX1_add_32 ?_
    refine TT_iconst hK dX1_add_33 ?_
    refine pf_X1_19 hK (by decide) rfl dX1_add_34 ?_
    refine TT_hp (h' := setO (setO h 5 (fup (fup (h 5) 1 (((h 5) 1) + 1)) 2 0)) 6 (fup (h 6) ((h 5) 1) v)) (up_can ((sOf_ne _ _ (by decide)).trans (sOf_eq _ _ _)) rfl ((setO_comm _ _ _ (by decide)).trans (setO_cg (setO_same _ _ _ _) rfl))) ?_
    have hT_9 : TY (setO (setO h 5 (fup (fup (h 5) 1 (((h 5) 1) + 1)) 2 0)) 6 (fup (h 6) ((h 5) 1) v)) := tu_5_2 hT_8 (show up (setO (setO h 5 (fup (h 5) 1 (((h 5) 1) + 1))) 6 (fup (h 6) ((h 5) 1) v)) 5 2 0 = (setO (setO h 5 (fup (fup (h 5) 1 (((h 5) 1) + 1)) 2 0)) 6 (fup (h 6) ((h 5) 1) v)) from up_can ((sOf_ne _ _ (by decide)).trans (sOf_eq _ _ _)) rfl ((setO_comm _ _ _ (by decide)).trans (setO_cg (setO_same _ _ _ _) rfl))) (by omega)
    have hF_9 : FR [5, 6] h (setO (setO h 5 (fup (fup (h 5) 1 (((h 5) 1) + 1)) 2 0)) 6 (fup (h 6) ((h 5) 1) v)) := FR_up (show up (setO (setO h 5 (fup (h 5) 1 (((h 5) 1) + 1))) 6 (fup (h 6) ((h 5) 1) v)) 5 2 0 = (setO (setO h 5 (fup (fup (h 5) 1 (((h 5) 1) + 1)) 2 0)) 6 (fup (h 6) ((h 5) 1) v)) from up_can ((sOf_ne _ _ (by decide)).trans (sOf_eq _ _ _)) rfl ((setO_comm _ _ _ (by decide)).trans (setO_cg (setO_same _ _ _ _) rfl))) hF_8 (by decide)
    refine TT_vret hK hQ ?_ dX1_add_37
    have e10_5_1 : (setO (setO h 5 (fup (fup (h 5) 1 (((h 5) 1) + 1)) 2 0)) 6 (fup (h 6) ((h 5) 1) v)) 5 1 = ((h 5) 1) + 1 := rd_ ((sOf_ne _ _ (by decide)).trans (sOf_eq _ _ _)) ((fup_ne _ _ (by decide)).trans (fup_eq _ _ _))
    have e11_6 : (setO (setO h 5 (fup (fup (h 5) 1 (((h 5) 1) + 1)) 2 0)) 6 (fup (h 6) ((h 5) 1) v)) 6 = fup (h 6) ((h 5) 1) v := sOf_eq _ _ _
    have e12_5_2 : (setO (setO h 5 (fup (fup (h 5) 1 (((h 5) 1) + 1)) 2 0)) 6 (fup (h 6) ((h 5) 1) v)) 5 2 = 0 := rd_ ((sOf_ne _ _ (by decide)).trans (sOf_eq _ _ _)) (fup_eq _ _ _)
    exact ⟨⟨hT_9, hF_9⟩, rfl, (by rewrite [e10_5_1, e11_6]; first | (intro q; exact ⟨rfl, rfl⟩) | (intro q; exfalso; omega)), (by rewrite [e12_5_2]; omega)⟩
set_option maxRecDepth 20000 in
theorem s_endBits5_e (h : Hp_) (hT : TY h)  : Ctr yX1_endBits cX1_endBits 1 none (rmd 0) ly ly 0 0 [vR 5] h (fun r h' => (TY h' ∧ FR [5] h h') ∧ r = none ∧ ((h' 5 2) = 0 ∧ (h' 5 1) = (h 5 1))) := by
  refine Ctr_of (by decide) (Nat.le_of_ble_eq_true rfl) ⟨Nat.le_refl _, Nat.le_refl _⟩ (fun K hK hQ _ => ?_)
  show TT K ly 0 0 0 [(0, vR 5)] [] h
  have hF : FR [5] h h := FR_rf _ _
  refine TT_aload_n hK rfl 0 rfl dX1_endBits_0 ?_
  refine TT_iconst hK dX1_endBits_1 ?_
  refine pf_X1_19 hK (by decide) rfl dX1_endBits_2 ?_
  refine TT_hp (h' := setO h 5 (fup (h 5) 2 0)) (up_can rfl rfl rfl) ?_
  have hT_1 : TY (setO h 5 (fup (h 5) 2 0)) := tu_5_2 hT (show up h 5 2 0 = (setO h 5 (fup (h 5) 2 0)) from up_can rfl rfl rfl) (by omega)
  have hF_1 : FR [5] h (setO h 5 (fup (h 5) 2 0)) := FR_up (show up h 5 2 0 = (setO h 5 (fup (h 5) 2 0)) from up_can rfl rfl rfl) hF (by decide)
  refine TT_vret hK hQ ?_ dX1_endBits_5
  have e2_5_1 : (setO h 5 (fup (h 5) 2 0)) 5 1 = (h 5) 1 := rd_ (sOf_eq _ _ _) (fup_ne _ _ (by decide))
  have e3_5_2 : (setO h 5 (fup (h 5) 2 0)) 5 2 = 0 := rd_ (sOf_eq _ _ _) (fup_eq _ _ _)
  exact ⟨⟨hT_1, hF_1⟩, rfl, (by rewrite [e2_5_1, e3_5_2]; exact ⟨rfl, rfl⟩)⟩
set_option maxRecDepth 20000 in
theorem s_putBits5_e (s : PBS_) (v n : Int) (h : Hp_) (hT : TY h) (hv : -2147483648 ≤ v ∧ v ≤ 2147483647) (hn : -2147483648 ≤ n ∧ n ≤ 2147483647) (hcb : CBR (h 5 1) (h 5 2) (h 6) s) (hpq : PBQ s) (hrm : 8 * s.1 + s.2.1 + n ≤ 8192) (hnv : 0 ≤ v ∧ (0 ≤ n ∧ n ≤ 31)) : Ctr yX1_putBits cX1_putBits 4 none (rmd 2) ly ly 0 0 [vR 5, vI v, vI n] h (fun r h' => (TY h' ∧ FR [5, 6] h h') ∧ r = none ∧ (CBR (h' 5 1) (h' 5 2) (h' 6) (putS v n.toNat s) ∧ PBQ (putS v n.toNat s))) := by
  refine Ctr_of (by decide) (Nat.le_of_ble_eq_true rfl) ⟨Nat.le_refl _, Nat.le_refl _⟩ (fun K hK hQ _ => ?_)
  show TT K ly 0 0 0 [(0, vR 5), (1, vI v), (2, vI n)] [] h
  have hF : FR [5, 6] h h := FR_rf _ _
  refine TT_iload_n hK rfl 2 rfl dX1_putBits_0 ?_
  refine TT_iconst hK dX1_putBits_1 ?_
  refine TT_isub hK dX1_putBits_2 ?_
  refine TT_istore_n hK rfl (lv' := [(3, vI (n - 1)), (0, vR 5), (1, vI v), (2, vI n)]) (by decide) rfl dX1_putBits_3 ?_
  have L4_1 : ∀ (k1 : Nat) (k : Int) (S : PBS_) (w4_1 : Hp_), TY w4_1 → FR [5, 6] h w4_1 → (-2147483648 ≤ k ∧ k ≤ 2147483647) → (-1 ≤ k ∧ k ≤ 30) → (CBR (w4_1 5 1) (w4_1 5 2) (w4_1 6) S) → (PBQ S) → (8 * S.1 + S.2.1 + (k + 1) ≤ 8192) → (putS v (k + 1).toNat S = putS v n.toNat s) → (k + 1).toNat < k1 → TT K ly 0 0 4 [(0, vR 5), (1, vI v), (2, vI n), (3, vI k)] [] w4_1 := by
    intro k1
    induction k1 with
    | zero => intro k S w4_1 hT4_1 hF4_1 hk hk1 hC hP hR hS hk1; exact absurd hk1 (Nat.not_lt_zero _)
    | succ k1 ih1 =>
      intro k S w4_1 hT4_1 hF4_1 hk hk1 hC hP hR hS hk1
      refine TT_iload_n hK rfl 3 rfl dX1_putBits_4 ?_
      refine TT_if_lt hK (tgt := 73) (irm (by omega) (by omega)) dX1_putBits_5 (by decide) (fun hb5_2 => ?_) (fun hb5_2 => ?_)
      · refine TT_vret hK hQ ?_ dX1_putBits_73
        have e3_5_1 : w4_1 5 1 = (w4_1 5) 1 := rfl
        have e4_5_2 : w4_1 5 2 = (w4_1 5) 2 := rfl
        exact ⟨⟨hT4_1, hF4_1⟩, rfl, (by rewrite [e3_5_1, e4_5_2]; rw [← hS, show (k + 1).toNat = 0 by omega]; exact ⟨hC, hP⟩)⟩
      · have cr9 := CBR_r hC hP
        refine TT_aload_n hK rfl 0 rfl dX1_putBits_8 ?_
        refine gf_X1_19 hK (by decide) rfl (v := (w4_1 5) 2) rfl dX1_putBits_9 ?_
        have r5 := ty_5_2 (v := (w4_1 5) 2) hT4_1 rfl
        refine TT_if_ne hK (tgt := 26) (irm (by omega) (by omega)) dX1_putBits_12 (by decide) (fun hb12_6 => ?_) (fun hb12_6 => ?_)
        · refine TT_aload_n hK rfl 0 rfl dX1_putBits_26 ?_
          refine TT_dup hK rfl dX1_putBits_27 ?_
          refine gf_X1_19 hK (by decide) rfl (v := (w4_1 5) 2) rfl dX1_putBits_28 ?_
          refine TT_iconst hK dX1_putBits_31 ?_
          refine TT_isub hK dX1_putBits_32 ?_
          refine pf_X1_19 hK (by decide) rfl dX1_putBits_33 ?_
          refine TT_hp (h' := setO w4_1 5 (fup (w4_1 5) 2 (((w4_1 5) 2) - 1))) (up_can rfl rfl rfl) ?_
          have hT_7 : TY (setO w4_1 5 (fup (w4_1 5) 2 (((w4_1 5) 2) - 1))) := tu_5_2 hT4_1 (show up w4_1 5 2 (((w4_1 5) 2) - 1) = (setO w4_1 5 (fup (w4_1 5) 2 (((w4_1 5) 2) - 1))) from up_can rfl rfl rfl) (by omega)
          have hF_7 : FR [5, 6] h (setO w4_1 5 (fup (w4_1 5) 2 (((w4_1 5) 2) - 1))) := FR_up (show up w4_1 5 2 (((w4_1 5) 2) - 1) = (setO w4_1 5 (fup (w4_1 5) 2 (((w4_1 5) 2) - 1))) from up_can rfl rfl rfl) hF4_1 (by decide)
          refine TT_aload_n hK rfl 0 rfl dX1_putBits_36 ?_
          refine TT_aload_n hK rfl 0 rfl dX1_putBits_37 ?_
          refine gf_X1_15 hK (by decide) rfl (v := (w4_1 5) 1) (rd_ (sOf_eq _ _ _) (fup_ne _ _ (by decide))) dX1_putBits_38 ?_
          have r8 := ty_5_1 (v := (w4_1 5) 1) hT_7 (rd_ (sOf_eq _ _ _) (fup_ne _ _ (by decide)))
          refine TT_iconst hK dX1_putBits_41 ?_
          refine TT_isub hK dX1_putBits_42 ?_
          refine TT_aload_n hK rfl 0 rfl dX1_putBits_43 ?_
          refine TT_aload_n hK rfl 0 rfl dX1_putBits_44 ?_
          refine gf_X1_15 hK (by decide) rfl (v := (w4_1 5) 1) (rd_ (sOf_eq _ _ _) (fup_ne _ _ (by decide))) dX1_putBits_45 ?_
          refine TT_iconst hK dX1_putBits_48 ?_
          refine TT_isub hK dX1_putBits_49 ?_
          refine iv_X1_26 hK (s_X1_at_5 (((w4_1 5) 1) - 1) (setO w4_1 5 (fup (w4_1 5) 2 (((w4_1 5) 2) - 1))) hT_7 (by first | omega | (simp [up, setR] <;> omega))) (by decide) rfl ⟨by decide, by decide⟩ (by decide) rfl rfl (Nat.le_of_ble_eq_true rfl) ⟨by decide, by decide⟩ dX1_putBits_50 ?_
          intro r9 g50_9 hp9
          obtain ⟨⟨hT_9, hG_9⟩, z50_9, hr9, hz_9, p1_9⟩ := hp9
          rw [hr9]
          have hF_9 : FR [5, 6] h g50_9 := FR_tr hF_7 hG_9 (by decide)
          rw [show (setO w4_1 5 (fup (w4_1 5) 2 (((w4_1 5) 2) - 1))) 5 1 = (w4_1 5) 1 from rd_ (sOf_eq _ _ _) (fup_ne _ _ (by decide))] at p1_9
          rw [show (setO w4_1 5 (fup (w4_1 5) 2 (((w4_1 5) 2) - 1))) 6 = w4_1 6 from sOf_ne _ _ (by decide)] at p1_9
          have p1_at50 := p1_9
          show TT K ly 0 0 53 [(0, vR 5), (1, vI v), (2, vI n), (3, vI k)] [vI z50_9, vI (((w4_1 5) 1) - 1), vR 5] g50_9
          refine TT_iload_n hK rfl 1 rfl dX1_putBits_53 ?_
          refine TT_iload_n hK rfl 3 rfl dX1_putBits_54 ?_
          refine TT_ishr hK (irm (by omega) (by omega)) (by omega) (by omega) dX1_putBits_55 ?_
          refine TT_iconst hK dX1_putBits_56 ?_
          refine TT_iand hK dX1_putBits_57 ?_
          refine TT_cgI (iand_m (v / 2 ^ k.toNat) 1 (by decide)) ?_
          show TT K ly 0 0 58 [(0, vR 5), (1, vI v), (2, vI n), (3, vI k)] (vI ((v / 2 ^ k.toNat) % 2) :: [vI z50_9, vI (((w4_1 5) 1) - 1), vR 5]) g50_9
          refine TT_aload_n hK rfl 0 rfl dX1_putBits_58 ?_
          refine gf_X1_19 hK (by decide) rfl (v := ((w4_1 5) 2) - 1) (rd_ (((hG_9 5 (by decide))).trans (sOf_eq _ _ _)) (fup_eq _ _ _)) dX1_putBits_59 ?_
          have r10 := ty_5_2 (v := ((w4_1 5) 2) - 1) hT_9 (rd_ (((hG_9 5 (by decide))).trans (sOf_eq _ _ _)) (fup_eq _ _ _))
          refine TT_ishl hK (by omega) (by omega) dX1_putBits_62 ?_
          refine TT_nmI (fun y9 hy9 => ?_)
          refine TT_ior hK dX1_putBits_63 ?_
          have hy9b : 0 ≤ y9 ∧ y9 ≤ 128 := by rw [hy9]; exact sh7 (by omega) (by omega)
          refine iv_X1_34 hK (s_set5_e (((w4_1 5) 1) - 1) (ior_ z50_9 y9) g50_9 hT_9 (by first | omega | (simp [up, setR] <;> omega)) (by exact ior_255 (by omega) (by omega))) (by decide) rfl ⟨by decide, by decide⟩ (by decide) rfl rfl (Nat.le_of_ble_eq_true rfl) ⟨by decide, by decide⟩ dX1_putBits_64 ?_
          intro r9 g64_11 hp9
          obtain ⟨⟨hT_11, hG_11⟩, hr9, e6_11⟩ := hp9
          rw [hr9]
          have hF_11 : FR [5, 6] h g64_11 := FR_tr hF_9 hG_11 (by decide)
          rw [show g50_9 5 1 = (w4_1 5) 1 from rd_ (((hG_9 5 (by decide))).trans (sOf_eq _ _ _)) (fup_ne _ _ (by decide))] at e6_11
          rw [show g50_9 6 = w4_1 6 from ((hG_9 6 (by decide))).trans (sOf_ne _ _ (by decide))] at e6_11
          have e6_at64 := e6_11
          show TT K ly 0 0 67 [(0, vR 5), (1, vI v), (2, vI n), (3, vI k)] [] g64_11
          
          refine TT_iinc hK (v := k - 1) (lv' := [(3, vI (k - 1)), (0, vR 5), (1, vI v), (2, vI n)]) 3 rfl (by omega) (by decide) rfl dX1_putBits_67 ?_
          refine TT_goto hK (tgt := 4) dX1_putBits_70 (by decide) ?_
          refine TT_sub [1, 2, 3, 0] rfl ?_
          have e12_5_1 : g64_11 5 1 = (w4_1 5) 1 := rd_ (((hG_11 5 (by decide))).trans (((hG_9 5 (by decide))).trans (sOf_eq _ _ _))) (fup_ne _ _ (by decide))
          have e13_5_2 : g64_11 5 2 = ((w4_1 5) 2) - 1 := rd_ (((hG_11 5 (by decide))).trans (((hG_9 5 (by decide))).trans (sOf_eq _ _ _))) (fup_eq _ _ _)
          exact ih1 (k - 1) (bitS S (v / 2 ^ k.toNat % 2)) g64_11 hT_11 hF_11 (by first | omega | (simp [up, setR] <;> omega)) (by first | omega | (simp [up, setR] <;> omega)) (by rewrite [e12_5_1, e13_5_2]; have c6 := e6_at64 (by omega); rw [c6, hy9, p1_at50.1 (by omega)]; exact CBR_b hC hP (v01 v k.toNat) (by first | exact Or.inr ⟨by omega, rfl, rfl, rfl⟩)) (by exact (bitS_q hP (v01 v k.toNat)).1) (by have b9 := bitS_n hP (v / 2 ^ k.toNat % 2); omega) (by rw [← hS, show (k + 1).toNat = (k - 1 + 1).toNat + 1 by omega]; show _ = putS v (k - 1 + 1).toNat (bitS S (v / 2 ^ (k - 1 + 1).toNat % 2)); rw [show (k - 1 + 1).toNat = k.toNat by omega]) (by first | omega | (simp [up, setR] <;> omega))
        · refine TT_aload_n hK rfl 0 rfl dX1_putBits_15 ?_
          refine TT_iconst hK dX1_putBits_16 ?_
          refine iv_X1_30 hK (s_add5_e 0 w4_1 hT4_1 (by first | omega | (simp [up, setR] <;> omega))) (by decide) rfl ⟨by decide, by decide⟩ (by decide) rfl rfl (Nat.le_of_ble_eq_true rfl) ⟨by decide, by decide⟩ dX1_putBits_17 ?_
          intro r9 g17_14 hp9
          obtain ⟨⟨hT_14, hG_14⟩, hr9, ea_14, e2_14⟩ := hp9
          rw [hr9]
          have hF_14 : FR [5, 6] h g17_14 := FR_tr hF4_1 hG_14 (by decide)
          rw [show w4_1 5 1 = (w4_1 5) 1 from rfl] at ea_14
          have ea_at17 := ea_14
          have e2_at17 := e2_14
          show TT K ly 0 0 20 [(0, vR 5), (1, vI v), (2, vI n), (3, vI k)] [] g17_14
          refine TT_aload_n hK rfl 0 rfl dX1_putBits_20 ?_
          refine TT_bipush hK (by decide) dX1_putBits_21 ?_
          refine pf_X1_19 hK (by decide) rfl dX1_putBits_23 ?_
          refine TT_hp (h' := setO g17_14 5 (fup (g17_14 5) 2 8)) (up_can rfl rfl rfl) ?_
          have hT_15 : TY (setO g17_14 5 (fup (g17_14 5) 2 8)) := tu_5_2 hT_14 (show up g17_14 5 2 8 = (setO g17_14 5 (fup (g17_14 5) 2 8)) from up_can rfl rfl rfl) (by omega)
          have hF_15 : FR [5, 6] h (setO g17_14 5 (fup (g17_14 5) 2 8)) := FR_up (show up g17_14 5 2 8 = (setO g17_14 5 (fup (g17_14 5) 2 8)) from up_can rfl rfl rfl) hF_14 (by decide)
          refine TT_aload_n hK rfl 0 rfl dX1_putBits_26 ?_
          refine TT_dup hK rfl dX1_putBits_27 ?_
          refine gf_X1_19 hK (by decide) rfl (v := 8) (rd_ (sOf_eq _ _ _) (fup_eq _ _ _)) dX1_putBits_28 ?_
          refine TT_iconst hK dX1_putBits_31 ?_
          refine TT_isub hK dX1_putBits_32 ?_
          refine pf_X1_19 hK (by decide) rfl dX1_putBits_33 ?_
          refine TT_hp (h' := setO g17_14 5 (fup (g17_14 5) 2 (8 - 1))) (up_can (sOf_eq _ _ _) (fup_same _ _ _ _) (setO_same _ _ _ _)) ?_
          have hT_16 : TY (setO g17_14 5 (fup (g17_14 5) 2 (8 - 1))) := tu_5_2 hT_15 (show up (setO g17_14 5 (fup (g17_14 5) 2 8)) 5 2 (8 - 1) = (setO g17_14 5 (fup (g17_14 5) 2 (8 - 1))) from up_can (sOf_eq _ _ _) (fup_same _ _ _ _) (setO_same _ _ _ _)) (by omega)
          have hF_16 : FR [5, 6] h (setO g17_14 5 (fup (g17_14 5) 2 (8 - 1))) := FR_up (show up (setO g17_14 5 (fup (g17_14 5) 2 8)) 5 2 (8 - 1) = (setO g17_14 5 (fup (g17_14 5) 2 (8 - 1))) from up_can (sOf_eq _ _ _) (fup_same _ _ _ _) (setO_same _ _ _ _)) hF_15 (by decide)
          refine TT_aload_n hK rfl 0 rfl dX1_putBits_36 ?_
          refine TT_aload_n hK rfl 0 rfl dX1_putBits_37 ?_
          refine gf_X1_15 hK (by decide) rfl (v := (g17_14 5) 1) (rd_ (sOf_eq _ _ _) (fup_ne _ _ (by decide))) dX1_putBits_38 ?_
          have r17 := ty_5_1 (v := (g17_14 5) 1) hT_16 (rd_ (sOf_eq _ _ _) (fup_ne _ _ (by decide)))
          refine TT_iconst hK dX1_putBits_41 ?_
          refine TT_isub hK dX1_putBits_42 ?_
          refine TT_aload_n hK rfl 0 rfl dX1_putBits_43 ?_
          refine TT_aload_n hK rfl 0 rfl dX1_putBits_44 ?_
          refine gf_X1_15 hK (by decide) rfl (v := (g17_14 5) 1) (rd_ (sOf_eq _ _ _) (fup_ne _ _ (by decide))) dX1_putBits_45 ?_
          refine TT_iconst hK dX1_putBits_48 ?_
          refine TT_isub hK dX1_putBits_49 ?_
          refine iv_X1_26 hK (s_X1_at_5 (((g17_14 5) 1) - 1) (setO g17_14 5 (fup (g17_14 5) 2 (8 - 1))) hT_16 (by first | omega | (simp [up, setR] <;> omega))) (by decide) rfl ⟨by decide, by decide⟩ (by decide) rfl rfl (Nat.le_of_ble_eq_true rfl) ⟨by decide, by decide⟩ dX1_putBits_50 ?_
          intro r9 g50_18 hp9
          obtain ⟨⟨hT_18, hG_18⟩, z50_18, hr9, hz_18, p1_18⟩ := hp9
          rw [hr9]
          have hF_18 : FR [5, 6] h g50_18 := FR_tr hF_16 hG_18 (by decide)
          rw [show (setO g17_14 5 (fup (g17_14 5) 2 (8 - 1))) 5 1 = (g17_14 5) 1 from rd_ (sOf_eq _ _ _) (fup_ne _ _ (by decide))] at p1_18
          rw [show (setO g17_14 5 (fup (g17_14 5) 2 (8 - 1))) 6 = g17_14 6 from sOf_ne _ _ (by decide)] at p1_18
          have p1_at50 := p1_18
          show TT K ly 0 0 53 [(0, vR 5), (1, vI v), (2, vI n), (3, vI k)] [vI z50_18, vI (((g17_14 5) 1) - 1), vR 5] g50_18
          refine TT_iload_n hK rfl 1 rfl dX1_putBits_53 ?_
          refine TT_iload_n hK rfl 3 rfl dX1_putBits_54 ?_
          refine TT_ishr hK (irm (by omega) (by omega)) (by omega) (by omega) dX1_putBits_55 ?_
          refine TT_iconst hK dX1_putBits_56 ?_
          refine TT_iand hK dX1_putBits_57 ?_
          refine TT_cgI (iand_m (v / 2 ^ k.toNat) 1 (by decide)) ?_
          show TT K ly 0 0 58 [(0, vR 5), (1, vI v), (2, vI n), (3, vI k)] (vI ((v / 2 ^ k.toNat) % 2) :: [vI z50_18, vI (((g17_14 5) 1) - 1), vR 5]) g50_18
          refine TT_aload_n hK rfl 0 rfl dX1_putBits_58 ?_
          refine gf_X1_19 hK (by decide) rfl (v := 8 - 1) (rd_ (((hG_18 5 (by decide))).trans (sOf_eq _ _ _)) (fup_eq _ _ _)) dX1_putBits_59 ?_
          have r19 := ty_5_2 (v := 8 - 1) hT_18 (rd_ (((hG_18 5 (by decide))).trans (sOf_eq _ _ _)) (fup_eq _ _ _))
          refine TT_ishl hK (by omega) (by omega) dX1_putBits_62 ?_
          refine TT_nmI (fun y9 hy9 => ?_)
          refine TT_ior hK dX1_putBits_63 ?_
          have hy9b : 0 ≤ y9 ∧ y9 ≤ 128 := by rw [hy9]; exact sh7 (by omega) (by omega)
          refine iv_X1_34 hK (s_set5_e (((g17_14 5) 1) - 1) (ior_ z50_18 y9) g50_18 hT_18 (by first | omega | (simp [up, setR] <;> omega)) (by exact ior_255 (by omega) (by omega))) (by decide) rfl ⟨by decide, by decide⟩ (by decide) rfl rfl (Nat.le_of_ble_eq_true rfl) ⟨by decide, by decide⟩ dX1_putBits_64 ?_
          intro r9 g64_20 hp9
          obtain ⟨⟨hT_20, hG_20⟩, hr9, e6_20⟩ := hp9
          rw [hr9]
          have hF_20 : FR [5, 6] h g64_20 := FR_tr hF_18 hG_20 (by decide)
          rw [show g50_18 5 1 = (g17_14 5) 1 from rd_ (((hG_18 5 (by decide))).trans (sOf_eq _ _ _)) (fup_ne _ _ (by decide))] at e6_20
          rw [show g50_18 6 = g17_14 6 from ((hG_18 6 (by decide))).trans (sOf_ne _ _ (by decide))] at e6_20
          have e6_at64 := e6_20
          show TT K ly 0 0 67 [(0, vR 5), (1, vI v), (2, vI n), (3, vI k)] [] g64_20
          have ea9 := ea_at17 (by omega)
          refine TT_iinc hK (v := k - 1) (lv' := [(3, vI (k - 1)), (0, vR 5), (1, vI v), (2, vI n)]) 3 rfl (by omega) (by decide) rfl dX1_putBits_67 ?_
          refine TT_goto hK (tgt := 4) dX1_putBits_70 (by decide) ?_
          refine TT_sub [1, 2, 3, 0] rfl ?_
          have e21_5_1 : g64_20 5 1 = (g17_14 5) 1 := rd_ (((hG_20 5 (by decide))).trans (((hG_18 5 (by decide))).trans (sOf_eq _ _ _))) (fup_ne _ _ (by decide))
          have e22_5_2 : g64_20 5 2 = 8 - 1 := rd_ (((hG_20 5 (by decide))).trans (((hG_18 5 (by decide))).trans (sOf_eq _ _ _))) (fup_eq _ _ _)
          exact ih1 (k - 1) (bitS S (v / 2 ^ k.toNat % 2)) g64_20 hT_20 hF_20 (by first | omega | (simp [up, setR] <;> omega)) (by first | omega | (simp [up, setR] <;> omega)) (by rewrite [e21_5_1, e22_5_2]; have c6 := e6_at64 (by omega); rw [c6, hy9, p1_at50.1 (by omega)]; exact CBR_b hC hP (v01 v k.toNat) (by first | exact Or.inr ⟨by omega, rfl, rfl, rfl⟩ | exact Or.inl ⟨by omega, (ea_at17 (by omega)).1, (ea_at17 (by omega)).2, by omega⟩)) (by exact (bitS_q hP (v01 v k.toNat)).1) (by have b9 := bitS_n hP (v / 2 ^ k.toNat % 2); omega) (by rw [← hS, show (k + 1).toNat = (k - 1 + 1).toNat + 1 by omega]; show _ = putS v (k - 1 + 1).toNat (bitS S (v / 2 ^ (k - 1 + 1).toNat % 2)); rw [show (k - 1 + 1).toNat = k.toNat by omega]) (by first | omega | (simp [up, setR] <;> omega))
  refine TT_sub [1, 2, 3, 0] rfl ?_
  have e23_5_1 : h 5 1 = (h 5) 1 := rfl
  have e24_5_2 : h 5 2 = (h 5) 2 := rfl
  exact L4_1 ((((n - 1) + 1).toNat) + 1) (n - 1) s h hT hF (by first | omega | (simp [up, setR] <;> omega)) (by first | omega | (simp [up, setR] <;> omega)) (by rewrite [e23_5_1, e24_5_2]; exact hcb) (by exact hpq) (by omega) (by rw [show n - 1 + 1 = n by omega]) (Nat.lt_succ_self _)

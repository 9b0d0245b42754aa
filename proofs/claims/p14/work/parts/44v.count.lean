/-- a sum over places -/
def smL (f : Int → Int) : List Int → Int
  | [] => 0
  | p :: Q => f p + smL f Q
theorem smL_a (f : Int → Int) : ∀ P Q : List Int, smL f (P ++ Q) = smL f P + smL f Q
  | [], Q => by show smL f Q = 0 + smL f Q; omega
  | p :: P, Q => by show f p + smL f (P ++ Q) = f p + smL f P + smL f Q; rw [smL_a f P Q]; omega
theorem smL_c {f g : Int → Int} : ∀ P : List Int, (∀ r, r ∈ P → f r = g r) → smL f P = smL g P
  | [], _ => rfl
  | p :: P, h => by show f p + smL f P = g p + smL g P; rw [h p (List.mem_cons_self ..), smL_c P (fun r hr => h r (List.mem_cons_of_mem _ hr))]
/-- a step that touches the places Q alone and tells no more than what they give up -/
def KPa (α β : Int → Int → Int) (Q : List Int) (s u : TS_) : Prop := (∀ r : Int, r ∉ Q → u.1 r = s.1 r ∧ u.2.1 r = s.2.1 r) ∧ (u.2.2.2.length : Int) ≤ (s.2.2.2.length : Int) + smL (fun r => α (s.1 r) (s.2.1 r)) Q - smL (fun r => β (u.1 r) (u.2.1 r)) Q
def KP (α β : Int → Int → Int) (Q : List Int) (F : TS_ → TS_) : Prop := ∀ s : TS_, KPa α β Q s (F s)
theorem KPa_id {α β : Int → Int → Int} (s : TS_) : KPa α β [] s s := ⟨fun r _ => ⟨rfl, rfl⟩, by show (s.2.2.2.length : Int) ≤ s.2.2.2.length + 0 - 0; omega⟩
theorem KPa_comp {α β : Int → Int → Int} {P Q : List Int} {s u v : TS_} (hF : KPa α β P s u) (hG : KPa α β Q u v) (hd : ∀ r : Int, r ∈ P → r ∉ Q) : KPa α β (P ++ Q) s v := by
  obtain ⟨f1, f2⟩ := hF
  obtain ⟨g1, g2⟩ := hG
  refine ⟨fun r hr => ?_, ?_⟩
  · have hr1 : r ∉ P := fun q => hr (List.mem_append.mpr (Or.inl q))
    have hr2 : r ∉ Q := fun q => hr (List.mem_append.mpr (Or.inr q))
    exact ⟨(g1 r hr2).1.trans (f1 r hr1).1, (g1 r hr2).2.trans (f1 r hr1).2⟩
  · rw [smL_a, smL_a]
    have e1 : smL (fun r => α (u.1 r) (u.2.1 r)) Q = smL (fun r => α (s.1 r) (s.2.1 r)) Q := smL_c Q (fun r hr => by
      have := f1 r (fun q => hd r q hr)
      show α _ _ = α _ _
      rw [this.1, this.2])
    have e2 : smL (fun r => β (v.1 r) (v.2.1 r)) P = smL (fun r => β (u.1 r) (u.2.1 r)) P := smL_c P (fun r hr => by
      have := g1 r (hd r hr)
      show β _ _ = β _ _
      rw [this.1, this.2])
    omega
/-- the places of a column -/
def clL (f : Int) : Nat → List Int
  | 0 => []
  | k + 1 => clL f k ++ [f + (k : Int) * 10]
theorem clL_m {f r : Int} : ∀ {k : Nat}, r ∈ clL f k → ∃ i : Nat, i < k ∧ r = f + (i : Int) * 10
  | 0, h => absurd h (List.not_mem_nil)
  | k + 1, h => by
    rcases List.mem_append.mp h with q | q
    · obtain ⟨i, h1, h2⟩ := clL_m q
      exact ⟨i, by omega, h2⟩
    · exact ⟨k, by omega, List.mem_singleton.mp q⟩
theorem KP_it {α β : Int → Int → Int} {g : Int → TS_ → TS_} (hg : ∀ p, KP α β [p] (g p)) (f : Int) : ∀ (k : Nat) (s : TS_), KPa α β (clL f k) s (itT g f k s)
  | 0, s => KPa_id s
  | k + 1, s => KPa_comp (KP_it hg f k s) (hg _ _) (fun r hr q => by
      obtain ⟨i, h1, h2⟩ := clL_m hr
      have := List.mem_singleton.mp q
      omega)
theorem clL_add (f : Int) (a : Nat) : ∀ b : Nat, clL f (a + b) = clL f a ++ clL (f + (a : Int) * 10) b
  | 0 => (List.append_nil _).symm
  | b + 1 => by
    show clL f (a + b) ++ [f + ((a + b : Nat) : Int) * 10] = clL f a ++ (clL (f + (a : Int) * 10) b ++ [f + (a : Int) * 10 + (b : Int) * 10])
    rw [clL_add f a b, List.append_assoc, show f + ((a + b : Nat) : Int) * 10 = f + (a : Int) * 10 + (b : Int) * 10 by omega]
theorem clL_l (f : Int) : ∀ k : Nat, (clL f k).length = k
  | 0 => rfl
  | k + 1 => by
    show (clL f k ++ [_]).length = k + 1
    rw [List.length_append, clL_l f k]
    rfl
theorem smL_v {f : Int → Int} {v : Int} : ∀ {P : List Int}, (∀ r, r ∈ P → f r = v) → smL f P = v * (P.length : Int)
  | [], _ => by show (0 : Int) = v * ((0 : Nat) : Int); omega
  | p :: P, h => by
    show f p + smL f P = _
    rw [h p (List.mem_cons_self ..), smL_v (fun r hr => h r (List.mem_cons_of_mem _ hr)), List.length_cons, Int.natCast_add, Int.mul_add]
    omega
def oneI (P : Prop) [Decidable P] : Int := if P then 1 else 0
def spA (a t : Int) : Int := oneI (t ≠ 0) - 3 * oneI (a ≠ 0)
def spB (a t : Int) : Int := - oneI (t ≠ 0) - 3 * oneI (a ≠ 0)
def rfA (a t : Int) : Int := oneI (a ≠ 0 ∧ t = 0)
def rfB (_ _ : Int) : Int := 0
def clA (a t : Int) : Int := oneI (a = 0 ∧ t = 0) - 3 * oneI (a ≠ 0)
def clB (a _ : Int) : Int := - 3 * oneI (a ≠ 0)
theorem sm1 (f : Int → Int) (p : Int) : smL f [p] = f p := by show f p + 0 = f p; omega
theorem wkT_n (M : Int → Int) (p : Int) (s : TS_) : ((wkT M p s).2.2.2.length : Int) = s.2.2.2.length + 1 ∧ (wkT M p s).1 p ≠ 0 ∧ (wkT M p s).2.1 = s.2.1 ∧ ∀ r, r ≠ p → (wkT M p s).1 r = s.1 r := by
  unfold wkT
  dsimp only
  refine ⟨by rw [List.length_append]; simp, ?_, rfl, fun r hr => fup_ne _ _ hr⟩
  rw [fup_eq]
  split <;> omega
theorem evT_n (s : TS_) (x b : Int) : ((evT s x b).2.2.2.length : Int) = s.2.2.2.length + 1 := by
  unfold evT
  dsimp only
  rw [List.length_append]
  simp
theorem KP_sp (M : Int → Int) (kd pl p : Int) : KP spA spB [p] (spT M kd pl p) := by
  intro s
  unfold KPa
  rw [sm1, sm1]
  unfold spT
  by_cases h : s.1 p = 0 ∧ 0 < ctxS s.1 kd p
  · rw [if_pos h]
    have en := evT_n (tdT s p) (ctxS s.1 kd p) (bS M pl p)
    have et : (evT (tdT s p) (ctxS s.1 kd p) (bS M pl p)).2.1 p = 1 := fup_eq ..
    have eo : ∀ r, r ≠ p → (evT (tdT s p) (ctxS s.1 kd p) (bS M pl p)).2.1 r = s.2.1 r := fun r hr => fup_ne _ _ hr
    have ea : (evT (tdT s p) (ctxS s.1 kd p) (bS M pl p)).1 = s.1 := rfl
    have el : (tdT s p).2.2.2 = s.2.2.2 := rfl
    rw [el] at en
    by_cases h2 : bS M pl p = 1
    · rw [if_pos h2]
      obtain ⟨w1, w2, w3, w4⟩ := wkT_n M p (evT (tdT s p) (ctxS s.1 kd p) (bS M pl p))
      refine ⟨fun r hr => ?_, ?_⟩
      · have hr : r ≠ p := fun q => hr (List.mem_singleton.mpr q)
        exact ⟨(w4 r hr).trans (by rw [ea]), (congrFun w3 r).trans (eo r hr)⟩
      · rw [w1, w3, et, en]
        unfold spA spB oneI
        rw [if_pos w2, if_neg (show ¬ s.1 p ≠ 0 from fun q => q h.1)]
        split <;> simp <;> omega
    · rw [if_neg h2]
      refine ⟨fun r hr => ?_, ?_⟩
      · have hr : r ≠ p := fun q => hr (List.mem_singleton.mpr q)
        exact ⟨rfl, eo r hr⟩
      · rw [ea, et, en]
        unfold spA spB oneI
        rw [if_neg (show ¬ s.1 p ≠ 0 from fun q => q h.1)]
        split <;> simp <;> omega
  · rw [if_neg h]
    refine ⟨fun r _ => ⟨rfl, rfl⟩, ?_⟩
    unfold spA spB oneI
    split <;> omega
theorem KP_rf (M : Int → Int) (pl p : Int) : KP rfA rfB [p] (rfnT M pl p) := by
  intro s
  unfold KPa
  rw [sm1, sm1]
  unfold rfnT
  by_cases h : s.1 p ≠ 0 ∧ s.2.1 p = 0
  · rw [if_pos h]
    refine ⟨fun r _ => ⟨rfl, rfl⟩, ?_⟩
    unfold rfA rfB oneI
    rw [if_pos h]
    show ((s.2.2.2 ++ [_]).length : Int) ≤ _
    rw [List.length_append]
    simp
  · rw [if_neg h]
    refine ⟨fun r _ => ⟨rfl, rfl⟩, ?_⟩
    unfold rfA rfB oneI
    rw [if_neg h]
    omega
theorem KP_cl (M : Int → Int) (kd pl p : Int) : KP clA clB [p] (clT M kd pl p) := by
  intro s
  unfold KPa
  rw [sm1, sm1]
  unfold clT
  by_cases h : s.1 p = 0 ∧ s.2.1 p = 0
  · rw [if_pos h]
    have en := evT_n s (ctxS s.1 kd p) (bS M pl p)
    by_cases h2 : bS M pl p = 1
    · rw [if_pos h2]
      obtain ⟨w1, w2, w3, w4⟩ := wkT_n M p (evT s (ctxS s.1 kd p) (bS M pl p))
      refine ⟨fun r hr => ?_, ?_⟩
      · have hr : r ≠ p := fun q => hr (List.mem_singleton.mpr q)
        exact ⟨w4 r hr, congrFun w3 r⟩
      · rw [w1, en]
        unfold clA clB oneI
        rw [if_pos w2, if_pos h, if_neg (show ¬ s.1 p ≠ 0 from fun q => q h.1)]
        omega
    · rw [if_neg h2]
      refine ⟨fun r _ => ⟨rfl, rfl⟩, ?_⟩
      rw [en]
      show _ ≤ (s.2.2.2.length : Int) + clA (s.1 p) (s.2.1 p) - clB (s.1 p) (s.2.1 p)
      unfold clA clB oneI
      rw [if_pos h, if_neg (show ¬ s.1 p ≠ 0 from fun q => q h.1)]
      omega
  · rw [if_neg h]
    refine ⟨fun r _ => ⟨rfl, rfl⟩, ?_⟩
    unfold clA clB oneI
    rw [if_neg h]
    omega
theorem whT_r (M : Int → Int) (pl f : Int) : 0 ≤ whT M pl f ∧ whT M pl f ≤ 4 := by
  unfold whT
  (repeat' split) <;> omega
theorem KP_cn (M : Int → Int) (kd pl f : Int) (n : Nat) : KP clA clB (clL f n) (cnT M kd pl f (n : Int)) := by
  intro s
  unfold cnT
  by_cases h : (n : Int) = 4 ∧ quT s.1 s.2.1 kd f
  · have e1 : nxT s.1 s.2.1 M kd pl f (n : Int) = whT M pl f + 1 := by unfold nxT; rw [if_pos h]
    have hn : n = 4 := by omega
    have hA : ∀ k : Nat, k ≤ 4 → ∀ r, r ∈ clL f k → s.1 r = 0 ∧ s.2.1 r = 0 := fun k hk r hr => by
      obtain ⟨i, h1, h2⟩ := clL_m hr
      have := h.2 (i : Int) (by omega) (by omega)
      rw [h2]
      exact ⟨this.1, this.2.1⟩
    have hS : ∀ k : Nat, k ≤ 4 → smL (fun r => clA (s.1 r) (s.2.1 r)) (clL f k) = (k : Int) := fun k hk => by
      rw [smL_v (v := 1) (fun r hr => by have q := hA k hk r hr; show clA (s.1 r) (s.2.1 r) = 1; rw [q.1, q.2]; decide), clL_l]
      omega
    have hB : ∀ k : Nat, k ≤ 4 → ∀ u : TS_, (∀ r, r ∈ clL f k → u.1 r = s.1 r) → smL (fun r => clB (u.1 r) (u.2.1 r)) (clL f k) = 0 := fun k hk u hu => by
      rw [smL_v (v := 0) (fun r hr => by have q := hA k hk r hr; show clB (u.1 r) (u.2.1 r) = 0; rw [hu r hr, q.1]; unfold clB; decide)]
      omega
    have hw := whT_r M pl f
    rw [e1]
    subst hn
    by_cases h4 : whT M pl f < 4
    · have e2 : preT M kd pl f ((4 : Nat) : Int) s = wkT M (f + whT M pl f * 10) (qvT M pl f s) := by unfold preT; rw [if_pos h, if_pos h4]
      rw [e2]
      obtain ⟨w, hw9⟩ : ∃ w : Nat, whT M pl f = (w : Int) := ⟨(whT M pl f).toNat, by omega⟩
      have eq : (qvT M pl f s).1 = s.1 ∧ (qvT M pl f s).2.1 = s.2.1 ∧ ((qvT M pl f s).2.2.2.length : Int) = s.2.2.2.length + 3 := by
        unfold qvT
        rw [if_pos h4]
        refine ⟨rfl, rfl, ?_⟩
        rw [evT_n, evT_n, evT_n]
        omega
      have k1 : KPa clA clB (clL f (w + 1)) s (wkT M (f + whT M pl f * 10) (qvT M pl f s)) := by
        obtain ⟨w1, w2, w3, w4⟩ := wkT_n M (f + whT M pl f * 10) (qvT M pl f s)
        have hin : f + whT M pl f * 10 ∈ clL f (w + 1) := List.mem_append.mpr (Or.inr (List.mem_singleton.mpr (by rw [hw9])))
        refine ⟨fun r hr => ?_, ?_⟩
        · have hne : r ≠ f + whT M pl f * 10 := fun q => hr (q ▸ hin)
          exact ⟨by rw [w4 r hne, eq.1], by rw [w3, eq.2.1]⟩
        · rw [hS (w + 1) (by omega), w1, eq.2.2]
          have e3 : smL (fun r => clB ((wkT M (f + whT M pl f * 10) (qvT M pl f s)).1 r) ((wkT M (f + whT M pl f * 10) (qvT M pl f s)).2.1 r)) (clL f (w + 1)) = -3 := by
            show smL _ (clL f w ++ [f + (w : Int) * 10]) = -3
            rw [smL_a, sm1, hB w (by omega) _ (fun r hr => by
              obtain ⟨i, h1, h2⟩ := clL_m hr
              rw [w4 r (by omega), eq.1])]
            rw [hw9] at w2
            unfold clB oneI
            rw [hw9, if_pos w2]
            omega
          rw [e3]
          omega
      have k2 := KP_it (KP_cl M kd pl) (f + (whT M pl f + 1) * 10) (((4 : Nat) : Int) - (whT M pl f + 1)).toNat (wkT M (f + whT M pl f * 10) (qvT M pl f s))
      have k3 := KPa_comp k1 k2 (fun r h1 h2 => by
        obtain ⟨i, i1, i2⟩ := clL_m h1
        obtain ⟨j, j1, j2⟩ := clL_m h2
        omega)
      have e5 : clL f 4 = clL f (w + 1) ++ clL (f + (whT M pl f + 1) * 10) (((4 : Nat) : Int) - (whT M pl f + 1)).toNat := by
        have := clL_add f (w + 1) (4 - (w + 1))
        rw [show w + 1 + (4 - (w + 1)) = 4 by omega] at this
        rw [this, show (((4 : Nat) : Int) - (whT M pl f + 1)).toNat = 4 - (w + 1) by omega, hw9]
        rfl
      rw [e5]
      exact k3
    · have e2 : preT M kd pl f ((4 : Nat) : Int) s = evT s 17 0 := by unfold preT; rw [if_pos h, if_neg h4]; unfold qvT; rw [if_neg h4]
      rw [e2, show (((4 : Nat) : Int) - (whT M pl f + 1)).toNat = 0 by omega]
      show KPa clA clB (clL f 4) s (evT s 17 0)
      refine ⟨fun r _ => ⟨rfl, rfl⟩, ?_⟩
      rw [evT_n, hS 4 (by omega), hB 4 (by omega) (evT s 17 0) (fun r _ => rfl)]
      omega
  · have e1 : nxT s.1 s.2.1 M kd pl f (n : Int) = 0 := by unfold nxT; rw [if_neg h]
    have e2 : preT M kd pl f (n : Int) s = s := by unfold preT; rw [if_neg h]
    rw [e1, e2, show f + 0 * 10 = f by omega, show ((n : Int) - 0).toNat = n by omega]
    exact KP_it (KP_cl M kd pl) f n s

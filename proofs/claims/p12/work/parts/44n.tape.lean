abbrev TS_ : Type := (Int → Int) × (Int → Int) × (Int → Int) × List (Int × Int)
def bS (M : Int → Int) (pl p : Int) : Int := (((M p).natAbs : Nat) : Int) / 2 ^ pl.toNat % 2
def evT (s : TS_) (x b : Int) : TS_ := (s.1, s.2.1, s.2.2.1, s.2.2.2 ++ [(x, b)])
def tdT (s : TS_) (p : Int) : TS_ := (s.1, fup s.2.1 p 1, s.2.2.1, s.2.2.2)
def wkT (M : Int → Int) (p : Int) (s : TS_) : TS_ := (fup s.1 p (if M p < 0 then -1 else 1), s.2.1, s.2.2.1, s.2.2.2 ++ [(sgX s.1 p, xr_ (if M p < 0 then 1 else 0) (sgT s.1 p))])
def spT (M : Int → Int) (kd pl p : Int) (s : TS_) : TS_ := if s.1 p = 0 ∧ 0 < ctxS s.1 kd p then (if bS M pl p = 1 then wkT M p (evT (tdT s p) (ctxS s.1 kd p) (bS M pl p)) else evT (tdT s p) (ctxS s.1 kd p) (bS M pl p)) else s
def itT (g : Int → TS_ → TS_) (f : Int) : Nat → TS_ → TS_
  | 0, s => s
  | k + 1, s => g (f + (k : Int) * 10) (itT g f k s)
def TPE (n : Int) (c b : Int → Int) (T : List (Int × Int)) : Prop := n = min (T.length : Int) 1024 ∧ ∀ i : Nat, (i : Int) < n → T[i]? = some (c (i : Int), b (i : Int))
theorem TPE_a {n x v : Int} {c b : Int → Int} {T : List (Int × Int)} (h : TPE n c b T) (hn : n < 1024) : TPE (n + 1) (fup c n x) (fup b n v) (T ++ [(x, v)]) := by
  have h1 := h.1
  have e : n = (T.length : Int) := by omega
  refine ⟨by rw [List.length_append]; simp only [List.length_cons, List.length_nil]; omega, fun i hi => ?_⟩
  by_cases q : (i : Int) = n
  · rw [q, fup_eq, fup_eq]
    have e2 : i = T.length := by omega
    rw [e2, List.getElem?_append_right (Nat.le_refl _), Nat.sub_self]
    rfl
  · rw [fup_ne _ _ q, fup_ne _ _ q, List.getElem?_append_left (by omega)]
    exact h.2 i (by omega)
theorem TPE_f {n x v : Int} {c b : Int → Int} {T : List (Int × Int)} (h : TPE n c b T) (hn : 1024 ≤ n) : TPE n c b (T ++ [(x, v)]) := by
  have h1 := h.1
  refine ⟨by rw [List.length_append]; simp only [List.length_cons, List.length_nil]; omega, fun i hi => ?_⟩
  rw [List.getElem?_append_left (by omega)]
  exact h.2 i hi
def RPQ (a t r : Int → Int) (n : Int) (c b : Int → Int) (s : TS_) : Prop := a = s.1 ∧ t = s.2.1 ∧ r = s.2.2.1 ∧ TPE n c b s.2.2.2
theorem ixr_1 {a b : Int} (ha : 0 ≤ a ∧ a ≤ 1) (hb : 0 ≤ b ∧ b ≤ 1) : ixor_ a b = xr_ a b := by
  rw [ixor_01 ha hb]
  unfold xr_
  (repeat' split) <;> omega
theorem xr_01 {a b : Int} (ha : 0 ≤ a ∧ a ≤ 1) (hb : 0 ≤ b ∧ b ≤ 1) : 0 ≤ xr_ a b ∧ xr_ a b ≤ 1 := by
  unfold xr_
  split <;> omega
theorem ixr_2 {a b : Int} (ha : 0 ≤ a ∧ a ≤ 1) (hb : 0 ≤ b ∧ b ≤ 1) : ixor_ (xr_ a b) b = a := by
  rw [ixr_1 (xr_01 ha hb) hb]
  unfold xr_
  (repeat' split) <;> omega
theorem RPQ_wk {a t r c b c' b' M : Int → Int} {n n' p X B v : Int} {s : TS_} (h : RPQ a t r n c b s) (ht : ∀ T : List (Int × Int), TPE n c b T → TPE n' c' b' (T ++ [(X, B)])) (hX : X = sgX a p) (hB : B = xr_ (if M p < 0 then 1 else 0) (sgT a p)) (hv : v = if M p < 0 then -1 else 1) : RPQ (fup a p v) t r n' c' b' (wkT M p s) := by
  obtain ⟨h1, h2, h3, h4⟩ := h
  subst hX hB hv
  have k := ht _ h4
  rw [h1] at k ⊢
  exact ⟨rfl, h2, h3, k⟩
theorem spT_0 {a t r c b M : Int → Int} {n p kd pl cx : Int} {s : TS_} (h : RPQ a t r n c b s) (hc : (a p = 0 → cx = ctxS a kd p) ∧ (a p ≠ 0 → cx = 0)) (h0 : cx ≤ 0) : RPQ a t r n c b (spT M kd pl p s) := by
  unfold spT
  rw [if_neg (fun q => by
    rw [← h.1] at q
    have := hc.1 q.1
    omega)]
  exact h
theorem spT_k {a t r c b : Int → Int} {n p kd cx : Int} {s : TS_} (h : RPQ a t r n c b s) (hc : (a p = 0 → cx = ctxS a kd p) ∧ (a p ≠ 0 → cx = 0)) (h0 : 0 < cx) : (s.1 p = 0 ∧ 0 < ctxS s.1 kd p) ∧ cx = ctxS s.1 kd p := by
  rw [← h.1]
  by_cases q : a p = 0
  · have := hc.1 q
    exact ⟨⟨q, by omega⟩, this⟩
  · have := hc.2 q
    omega
theorem spT_e {a t r c b c' b' M : Int → Int} {n n' p kd pl cx z : Int} {s : TS_} (h : RPQ a t r n c b s) (hc : (a p = 0 → cx = ctxS a kd p) ∧ (a p ≠ 0 → cx = 0)) (h0 : 0 < cx) (hz : z = bS M pl p) (ht : ∀ T : List (Int × Int), TPE n c b T → TPE n' c' b' (T ++ [(cx, z)])) : RPQ a (fup t p 1) r n' c' b' (evT (tdT s p) (ctxS s.1 kd p) (bS M pl p)) := by
  have k := spT_k h hc h0
  obtain ⟨h1, h2, h3, h4⟩ := h
  refine ⟨h1, by rw [h2]; rfl, h3, ?_⟩
  have q := ht _ h4
  rw [k.2, hz] at q
  exact q
theorem spT_1 {a t r c b c' b' M : Int → Int} {n n' p kd pl cx z : Int} {s : TS_} (h : RPQ a t r n c b s) (hc : (a p = 0 → cx = ctxS a kd p) ∧ (a p ≠ 0 → cx = 0)) (h0 : 0 < cx) (hz : z = bS M pl p) (ht : ∀ T : List (Int × Int), TPE n c b T → TPE n' c' b' (T ++ [(cx, z)])) (hz1 : z ≠ 1) : RPQ a (fup t p 1) r n' c' b' (spT M kd pl p s) := by
  unfold spT
  rw [if_pos (spT_k h hc h0).1, if_neg (by rw [← hz]; exact hz1)]
  exact spT_e h hc h0 hz ht
theorem spT_2 {a t r c b c' b' a2 c2 b2 M : Int → Int} {n n' n2 p kd pl cx z : Int} {s : TS_} (h : RPQ a t r n c b s) (hc : (a p = 0 → cx = ctxS a kd p) ∧ (a p ≠ 0 → cx = 0)) (h0 : 0 < cx) (hz : z = bS M pl p) (ht : ∀ T : List (Int × Int), TPE n c b T → TPE n' c' b' (T ++ [(cx, z)])) (hz1 : z = 1) (hw : ∀ s : TS_, RPQ a (fup t p 1) r n' c' b' s → RPQ a2 (fup t p 1) r n2 c2 b2 (wkT M p s)) : RPQ a2 (fup t p 1) r n2 c2 b2 (spT M kd pl p s) := by
  unfold spT
  rw [if_pos (spT_k h hc h0).1, if_pos (by rw [← hz]; exact hz1)]
  exact hw _ (spT_e h hc h0 hz ht)
set_option maxRecDepth 20000 in
theorem s_tape_e (x b : Int) (h : Hp_) (hT : TY h) (hx : 0 ≤ x ∧ x ≤ 18) (hb : 0 ≤ b ∧ b ≤ 1) : Ctr yX7_tellBit cX7_tellBit 3 (some .int) (rmd 0) ly ly 0 0 [vR 24, vI x, vI b] h (fun r h' => (TY h' ∧ FR [24, 25, 26] h h') ∧ ∃ z : Int, r = some (vI z) ∧ (0 ≤ z ∧ z ≤ 1) ∧ (z = b) ∧ (∀ T : List (Int × Int), TPE (h 24 3) (h 25) (h 26) T → TPE (h' 24 3) (h' 25) (h' 26) (T ++ [(x, b)])) ∧ ((h' 24 4) = (h 24 4))) := by
  refine Ctr_of (by decide) (Nat.le_of_ble_eq_true rfl) ⟨Nat.le_refl _, Nat.le_refl _⟩ (fun K hK hQ _ => ?_)
  show TT K ly 0 0 0 [(0, vR 24), (1, vI x), (2, vI b)] [] h
  have hF : FR [24, 25, 26] h h := FR_rf _ _
  refine TT_aload_n hK rfl 0 rfl dX7_tellBit_0 ?_
  refine gf_X7_21 hK (by decide) rfl (v := (h 24) 3) rfl dX7_tellBit_1 ?_
  have r1 := ty_24_3 (v := (h 24) 3) hT rfl
  refine TT_sipush hK (by decide) dX7_tellBit_4 ?_
  refine TT_icmp_ge hK (tgt := 40) (irm (by omega) (by omega)) (by decide) dX7_tellBit_7 (by decide) (fun hb7_2 => ?_) (fun hb7_2 => ?_)
  · refine TT_iload_n hK rfl 2 rfl dX7_tellBit_40 ?_
    refine TT_iret hK hQ ?_ dX7_tellBit_41
    have e3_24_3 : h 24 3 = (h 24) 3 := rfl
    have e4_24_4 : h 24 4 = (h 24) 4 := rfl
    exact ⟨⟨hT, hF⟩, b, rfl, (by omega), (by omega), (by rewrite [e3_24_3]; first | exact fun T hT9 => TPE_a hT9 (by omega) | exact fun T hT9 => TPE_f hT9 (by omega)), (by rewrite [e4_24_4]; omega)⟩
  · refine TT_aload_n hK rfl 0 rfl dX7_tellBit_10 ?_
    refine gf_X7_9 hK (by decide) rfl (q := 25) rfl rfl dX7_tellBit_11 ?_
    refine TT_aload_n hK rfl 0 rfl dX7_tellBit_14 ?_
    refine gf_X7_21 hK (by decide) rfl (v := (h 24) 3) rfl dX7_tellBit_15 ?_
    refine TT_iload_n hK rfl 1 rfl dX7_tellBit_18 ?_
    refine TT_iast hK (o := 25) (n := 1024) (by decide) rfl (by omega) (by omega) dX7_tellBit_19 ?_
    refine TT_hp (h' := setO h 25 (fup (h 25) ((h 24) 3) x)) (up_can rfl rfl rfl) ?_
    have hT_5 : TY (setO h 25 (fup (h 25) ((h 24) 3) x)) := tu_25 hT (show up h 25 ((h 24) 3) x = (setO h 25 (fup (h 25) ((h 24) 3) x)) from up_can rfl rfl rfl) (by omega)
    have hF_5 : FR [24, 25, 26] h (setO h 25 (fup (h 25) ((h 24) 3) x)) := FR_up (show up h 25 ((h 24) 3) x = (setO h 25 (fup (h 25) ((h 24) 3) x)) from up_can rfl rfl rfl) hF (by decide)
    refine TT_aload_n hK rfl 0 rfl dX7_tellBit_20 ?_
    refine gf_X7_15 hK (by decide) rfl (q := 26) rfl rfl dX7_tellBit_21 ?_
    refine TT_aload_n hK rfl 0 rfl dX7_tellBit_24 ?_
    refine gf_X7_21 hK (by decide) rfl (v := (h 24) 3) (rd_ (sOf_ne _ _ (by decide)) rfl) dX7_tellBit_25 ?_
    refine TT_iload_n hK rfl 2 rfl dX7_tellBit_28 ?_
    refine TT_iast hK (o := 26) (n := 1024) (by decide) rfl (by omega) (by omega) dX7_tellBit_29 ?_
    refine TT_hp (h' := setO (setO h 25 (fup (h 25) ((h 24) 3) x)) 26 (fup (h 26) ((h 24) 3) b)) (up_can (sOf_ne _ _ (by decide)) rfl rfl) ?_
    have hT_6 : TY (setO (setO h 25 (fup (h 25) ((h 24) 3) x)) 26 (fup (h 26) ((h 24) 3) b)) := tu_26 hT_5 (show up (setO h 25 (fup (h 25) ((h 24) 3) x)) 26 ((h 24) 3) b = (setO (setO h 25 (fup (h 25) ((h 24) 3) x)) 26 (fup (h 26) ((h 24) 3) b)) from up_can (sOf_ne _ _ (by decide)) rfl rfl) (by omega)
    have hF_6 : FR [24, 25, 26] h (setO (setO h 25 (fup (h 25) ((h 24) 3) x)) 26 (fup (h 26) ((h 24) 3) b)) := FR_up (show up (setO h 25 (fup (h 25) ((h 24) 3) x)) 26 ((h 24) 3) b = (setO (setO h 25 (fup (h 25) ((h 24) 3) x)) 26 (fup (h 26) ((h 24) 3) b)) from up_can (sOf_ne _ _ (by decide)) rfl rfl) hF_5 (by decide)
    refine TT_aload_n hK rfl 0 rfl dX7_tellBit_30 ?_
    refine TT_dup hK rfl dX7_tellBit_31 ?_
    refine gf_X7_21 hK (by decide) rfl (v := (h 24) 3) (rd_ ((sOf_ne _ _ (by decide)).trans (sOf_ne _ _ (by decide))) rfl) dX7_tellBit_32 ?_
    refine TT_iconst hK dX7_tellBit_35 ?_
    refine TT_iadd hK dX7_tellBit_36 ?_
    refine pf_X7_21 hK (by decide) rfl dX7_tellBit_37 ?_
    refine TT_hp (h' := setO (setO (setO h 24 (fup (h 24) 3 (((h 24) 3) + 1))) 25 (fup (h 25) ((h 24) 3) x)) 26 (fup (h 26) ((h 24) 3) b)) (up_can ((sOf_ne _ _ (by decide)).trans (sOf_ne _ _ (by decide))) rfl ((setO_comm _ _ _ (by decide)).trans (setO_cg ((setO_comm _ _ _ (by decide)).trans (setO_cg rfl rfl)) rfl))) ?_
    have hT_7 : TY (setO (setO (setO h 24 (fup (h 24) 3 (((h 24) 3) + 1))) 25 (fup (h 25) ((h 24) 3) x)) 26 (fup (h 26) ((h 24) 3) b)) := tu_24_3 hT_6 (show up (setO (setO h 25 (fup (h 25) ((h 24) 3) x)) 26 (fup (h 26) ((h 24) 3) b)) 24 3 (((h 24) 3) + 1) = (setO (setO (setO h 24 (fup (h 24) 3 (((h 24) 3) + 1))) 25 (fup (h 25) ((h 24) 3) x)) 26 (fup (h 26) ((h 24) 3) b)) from up_can ((sOf_ne _ _ (by decide)).trans (sOf_ne _ _ (by decide))) rfl ((setO_comm _ _ _ (by decide)).trans (setO_cg ((setO_comm _ _ _ (by decide)).trans (setO_cg rfl rfl)) rfl))) (by omega)
    have hF_7 : FR [24, 25, 26] h (setO (setO (setO h 24 (fup (h 24) 3 (((h 24) 3) + 1))) 25 (fup (h 25) ((h 24) 3) x)) 26 (fup (h 26) ((h 24) 3) b)) := FR_up (show up (setO (setO h 25 (fup (h 25) ((h 24) 3) x)) 26 (fup (h 26) ((h 24) 3) b)) 24 3 (((h 24) 3) + 1) = (setO (setO (setO h 24 (fup (h 24) 3 (((h 24) 3) + 1))) 25 (fup (h 25) ((h 24) 3) x)) 26 (fup (h 26) ((h 24) 3) b)) from up_can ((sOf_ne _ _ (by decide)).trans (sOf_ne _ _ (by decide))) rfl ((setO_comm _ _ _ (by decide)).trans (setO_cg ((setO_comm _ _ _ (by decide)).trans (setO_cg rfl rfl)) rfl))) hF_6 (by decide)
    refine TT_iload_n hK rfl 2 rfl dX7_tellBit_40 ?_
    refine TT_iret hK hQ ?_ dX7_tellBit_41
    have e8_24_3 : (setO (setO (setO h 24 (fup (h 24) 3 (((h 24) 3) + 1))) 25 (fup (h 25) ((h 24) 3) x)) 26 (fup (h 26) ((h 24) 3) b)) 24 3 = ((h 24) 3) + 1 := rd_ ((sOf_ne _ _ (by decide)).trans ((sOf_ne _ _ (by decide)).trans (sOf_eq _ _ _))) (fup_eq _ _ _)
    have e9_25 : (setO (setO (setO h 24 (fup (h 24) 3 (((h 24) 3) + 1))) 25 (fup (h 25) ((h 24) 3) x)) 26 (fup (h 26) ((h 24) 3) b)) 25 = fup (h 25) ((h 24) 3) x := (sOf_ne _ _ (by decide)).trans (sOf_eq _ _ _)
    have e10_26 : (setO (setO (setO h 24 (fup (h 24) 3 (((h 24) 3) + 1))) 25 (fup (h 25) ((h 24) 3) x)) 26 (fup (h 26) ((h 24) 3) b)) 26 = fup (h 26) ((h 24) 3) b := sOf_eq _ _ _
    have e11_24_4 : (setO (setO (setO h 24 (fup (h 24) 3 (((h 24) 3) + 1))) 25 (fup (h 25) ((h 24) 3) x)) 26 (fup (h 26) ((h 24) 3) b)) 24 4 = (h 24) 4 := rd_ ((sOf_ne _ _ (by decide)).trans ((sOf_ne _ _ (by decide)).trans (sOf_eq _ _ _))) (fup_ne _ _ (by decide))
    exact ⟨⟨hT_7, hF_7⟩, b, rfl, (by omega), (by omega), (by rewrite [e8_24_3, e9_25, e10_26]; first | exact fun T hT9 => TPE_a hT9 (by omega) | exact fun T hT9 => TPE_f hT9 (by omega)), (by rewrite [e11_24_4]; omega)⟩
set_option maxRecDepth 20000 in
theorem s_rowFirst_e (g v e : Int) (h : Hp_) (hT : TY h) (hg : 0 ≤ g ∧ g ≤ 2) (hv : 0 ≤ v ∧ v ≤ 2) (he : 0 ≤ e ∧ e ≤ 4) : Ctr yX4_rowFirst cX4_rowFirst 3 (some .int) (rmd 0) ly ly 0 0 [vI g, vI v, vI e] h (fun r h' => (TY h' ∧ FR [] h h') ∧ ∃ z : Int, r = some (vI z) ∧ (0 ≤ z ∧ z ≤ 8) ∧ (z = rfS g v e)) := by
  refine Ctr_of (by decide) (Nat.le_of_ble_eq_true rfl) ⟨Nat.le_refl _, Nat.le_refl _⟩ (fun K hK hQ _ => ?_)
  show TT K ly 0 0 0 [(0, vI g), (1, vI v), (2, vI e)] [] h
  have hF : FR [] h h := FR_rf _ _
  refine TT_iload_n hK rfl 0 rfl dX4_rowFirst_0 ?_
  refine TT_iconst hK dX4_rowFirst_1 ?_
  refine TT_icmp_ne hK (tgt := 8) (irm (by omega) (by omega)) (by decide) dX4_rowFirst_2 (by decide) (fun hb2_1 => ?_) (fun hb2_1 => ?_)
  · refine TT_iload_n hK rfl 0 rfl dX4_rowFirst_8 ?_
    refine TT_iconst hK dX4_rowFirst_9 ?_
    refine TT_icmp_ne hK (tgt := 33) (irm (by omega) (by omega)) (by decide) dX4_rowFirst_10 (by decide) (fun hb10_2 => ?_) (fun hb10_2 => ?_)
    · refine TT_iload_n hK rfl 1 rfl dX4_rowFirst_33 ?_
      refine TT_if_le hK (tgt := 48) (irm (by omega) (by omega)) dX4_rowFirst_34 (by decide) (fun hb34_3 => ?_) (fun hb34_3 => ?_)
      · refine TT_iload_n hK rfl 2 rfl dX4_rowFirst_48 ?_
        refine TT_iconst hK dX4_rowFirst_49 ?_
        refine TT_icmp_ge hK (tgt := 57) (irm (by omega) (by omega)) (by decide) dX4_rowFirst_50 (by decide) (fun hb50_4 => ?_) (fun hb50_4 => ?_)
        · refine TT_iconst hK dX4_rowFirst_57 ?_
          refine TT_iret hK hQ ?_ dX4_rowFirst_58
          exact ⟨⟨hT, hF⟩, 2, rfl, (by omega), (by unfold rfS; (repeat' split) <;> omega)⟩
        · refine TT_iload_n hK rfl 2 rfl dX4_rowFirst_53 ?_
          refine TT_goto hK (tgt := 58) dX4_rowFirst_54 (by decide) ?_
          refine TT_iret hK hQ ?_ dX4_rowFirst_58
          exact ⟨⟨hT, hF⟩, e, rfl, (by omega), (by unfold rfS; (repeat' split) <;> omega)⟩
      · refine TT_iload_n hK rfl 1 rfl dX4_rowFirst_37 ?_
        refine TT_iconst hK dX4_rowFirst_38 ?_
        refine TT_icmp_ne hK (tgt := 46) (irm (by omega) (by omega)) (by decide) dX4_rowFirst_39 (by decide) (fun hb39_5 => ?_) (fun hb39_5 => ?_)
        · refine TT_iconst hK dX4_rowFirst_46 ?_
          refine TT_iret hK hQ ?_ dX4_rowFirst_47
          exact ⟨⟨hT, hF⟩, 3, rfl, (by omega), (by unfold rfS; (repeat' split) <;> omega)⟩
        · refine TT_iconst hK dX4_rowFirst_42 ?_
          refine TT_goto hK (tgt := 47) dX4_rowFirst_43 (by decide) ?_
          refine TT_iret hK hQ ?_ dX4_rowFirst_47
          exact ⟨⟨hT, hF⟩, 4, rfl, (by omega), (by unfold rfS; (repeat' split) <;> omega)⟩
    · refine TT_iload_n hK rfl 1 rfl dX4_rowFirst_13 ?_
      refine TT_if_le hK (tgt := 22) (irm (by omega) (by omega)) dX4_rowFirst_14 (by decide) (fun hb14_6 => ?_) (fun hb14_6 => ?_)
      · refine TT_iload_n hK rfl 2 rfl dX4_rowFirst_22 ?_
        refine TT_if_le hK (tgt := 31) (irm (by omega) (by omega)) dX4_rowFirst_23 (by decide) (fun hb23_7 => ?_) (fun hb23_7 => ?_)
        · refine TT_iconst hK dX4_rowFirst_31 ?_
          refine TT_iret hK hQ ?_ dX4_rowFirst_32
          exact ⟨⟨hT, hF⟩, 5, rfl, (by omega), (by unfold rfS; (repeat' split) <;> omega)⟩
        · refine TT_bipush hK (by decide) dX4_rowFirst_26 ?_
          refine TT_goto hK (tgt := 32) dX4_rowFirst_28 (by decide) ?_
          refine TT_iret hK hQ ?_ dX4_rowFirst_32
          exact ⟨⟨hT, hF⟩, 6, rfl, (by omega), (by unfold rfS; (repeat' split) <;> omega)⟩
      · refine TT_bipush hK (by decide) dX4_rowFirst_17 ?_
        refine TT_goto hK (tgt := 32) dX4_rowFirst_19 (by decide) ?_
        refine TT_iret hK hQ ?_ dX4_rowFirst_32
        exact ⟨⟨hT, hF⟩, 7, rfl, (by omega), (by unfold rfS; (repeat' split) <;> omega)⟩
  · refine TT_bipush hK (by decide) dX4_rowFirst_5 ?_
    refine TT_iret hK hQ ?_ dX4_rowFirst_7
    exact ⟨⟨hT, hF⟩, 8, rfl, (by omega), (by unfold rfS; (repeat' split) <;> omega)⟩
set_option maxRecDepth 20000 in
theorem s_cornersFirst_e (t e : Int) (h : Hp_) (hT : TY h) (ht : 0 ≤ t ∧ t ≤ 4) (he : 0 ≤ e ∧ e ≤ 4) : Ctr yX4_cornersFirst cX4_cornersFirst 2 (some .int) (rmd 0) ly ly 0 0 [vI t, vI e] h (fun r h' => (TY h' ∧ FR [] h h') ∧ ∃ z : Int, r = some (vI z) ∧ (0 ≤ z ∧ z ≤ 8) ∧ (z = cfS t e)) := by
  refine Ctr_of (by decide) (Nat.le_of_ble_eq_true rfl) ⟨Nat.le_refl _, Nat.le_refl _⟩ (fun K hK hQ _ => ?_)
  show TT K ly 0 0 0 [(0, vI t), (1, vI e)] [] h
  have hF : FR [] h h := FR_rf _ _
  refine TT_iload_n hK rfl 1 rfl dX4_cornersFirst_0 ?_
  refine TT_iconst hK dX4_cornersFirst_1 ?_
  refine TT_icmp_lt hK (tgt := 8) (irm (by omega) (by omega)) (by decide) dX4_cornersFirst_2 (by decide) (fun hb2_1 => ?_) (fun hb2_1 => ?_)
  · refine TT_iload_n hK rfl 1 rfl dX4_cornersFirst_8 ?_
    refine TT_iconst hK dX4_cornersFirst_9 ?_
    refine TT_icmp_ne hK (tgt := 25) (irm (by omega) (by omega)) (by decide) dX4_cornersFirst_10 (by decide) (fun hb10_2 => ?_) (fun hb10_2 => ?_)
    · refine TT_iconst hK dX4_cornersFirst_25 ?_
      refine TT_iload_n hK rfl 1 rfl dX4_cornersFirst_26 ?_
      refine TT_imul hK dX4_cornersFirst_27 ?_
      refine TT_iload_n hK rfl 0 rfl dX4_cornersFirst_28 ?_
      refine TT_iconst hK dX4_cornersFirst_29 ?_
      refine TT_icmp_ge hK (tgt := 37) (irm (by omega) (by omega)) (by decide) dX4_cornersFirst_30 (by decide) (fun hb30_3 => ?_) (fun hb30_3 => ?_)
      · refine TT_iconst hK dX4_cornersFirst_37 ?_
        refine TT_iadd hK dX4_cornersFirst_38 ?_
        refine TT_iret hK hQ ?_ dX4_cornersFirst_39
        exact ⟨⟨hT, hF⟩, ((3 * e) + 2), rfl, (by omega), (by unfold cfS; (repeat' split) <;> omega)⟩
      · refine TT_iload_n hK rfl 0 rfl dX4_cornersFirst_33 ?_
        refine TT_goto hK (tgt := 38) dX4_cornersFirst_34 (by decide) ?_
        refine TT_iadd hK dX4_cornersFirst_38 ?_
        refine TT_iret hK hQ ?_ dX4_cornersFirst_39
        exact ⟨⟨hT, hF⟩, ((3 * e) + t), rfl, (by omega), (by unfold cfS; (repeat' split) <;> omega)⟩
    · refine TT_iload_n hK rfl 0 rfl dX4_cornersFirst_13 ?_
      refine TT_if_le hK (tgt := 22) (irm (by omega) (by omega)) dX4_cornersFirst_14 (by decide) (fun hb14_4 => ?_) (fun hb14_4 => ?_)
      · refine TT_bipush hK (by decide) dX4_cornersFirst_22 ?_
        refine TT_iret hK hQ ?_ dX4_cornersFirst_24
        exact ⟨⟨hT, hF⟩, 6, rfl, (by omega), (by unfold cfS; (repeat' split) <;> omega)⟩
      · refine TT_bipush hK (by decide) dX4_cornersFirst_17 ?_
        refine TT_goto hK (tgt := 24) dX4_cornersFirst_19 (by decide) ?_
        refine TT_iret hK hQ ?_ dX4_cornersFirst_24
        exact ⟨⟨hT, hF⟩, 7, rfl, (by omega), (by unfold cfS; (repeat' split) <;> omega)⟩
  · refine TT_bipush hK (by decide) dX4_cornersFirst_5 ?_
    refine TT_iret hK hQ ?_ dX4_cornersFirst_7
    exact ⟨⟨hT, hF⟩, 8, rfl, (by omega), (by unfold cfS; (repeat' split) <;> omega)⟩
set_option maxRecDepth 20000 in
theorem s_cut_e (n : Int) (h : Hp_) (hT : TY h) (hn : -2147483648 ≤ n ∧ n ≤ 2147483647) : Ctr yX4_cut cX4_cut 1 (some .int) (rmd 1) ly ly 0 0 [vI n] h (fun r h' => (TY h' ∧ FR [] h h') ∧ ∃ z : Int, r = some (vI z) ∧ (-1 ≤ z ∧ z ≤ 1) ∧ (z = cutS n)) := by
  refine Ctr_of (by decide) (Nat.le_of_ble_eq_true rfl) ⟨Nat.le_refl _, Nat.le_refl _⟩ (fun K hK hQ _ => ?_)
  show TT K ly 0 0 0 [(0, vI n)] [] h
  have hF : FR [] h h := FR_rf _ _
  refine TT_iconst hK dX4_cut_0 ?_
  refine TT_iconst hK dX4_cut_1 ?_
  refine TT_iload_n hK rfl 0 rfl dX4_cut_2 ?_
  refine TT_mmin hK (by decide) (irm (by omega) (by omega)) iw_X4_58 (by decide) (Nat.le_of_ble_eq_true rfl) ⟨by decide, by decide⟩ dX4_cut_3 ?_
  refine TT_mmax hK (by decide) (irm (by omega) (by omega)) iw_X4_111 (by decide) (Nat.le_of_ble_eq_true rfl) ⟨by decide, by decide⟩ dX4_cut_6 ?_
  refine TT_iret hK hQ ?_ dX4_cut_9
  exact ⟨⟨hT, hF⟩, (max (-1) (min 1 n)), rfl, (by omega), (by unfold cutS; (repeat' split) <;> omega)⟩
set_option maxRecDepth 20000 in
theorem s_inRow_e (p : Int) (h : Hp_) (hT : TY h) (hp : 11 ≤ p ∧ p ≤ 88) : Ctr yX4_inRow cX4_inRow 2 (some .int) (rmd 0) ly ly 0 0 [vR 28, vI p] h (fun r h' => (TY h' ∧ FR [] h h') ∧ ∃ z : Int, r = some (vI z) ∧ (0 ≤ z ∧ z ≤ 2) ∧ (z = rowS (h 31) p)) := by
  refine Ctr_of (by decide) (Nat.le_of_ble_eq_true rfl) ⟨Nat.le_refl _, Nat.le_refl _⟩ (fun K hK hQ _ => ?_)
  show TT K ly 0 0 0 [(0, vR 28), (1, vI p)] [] h
  have hF : FR [] h h := FR_rf _ _
  refine TT_aload_n hK rfl 0 rfl dX4_inRow_0 ?_
  refine gf_X4_18 hK (by decide) rfl (q := 31) rfl rfl dX4_inRow_1 ?_
  refine TT_iload_n hK rfl 1 rfl dX4_inRow_4 ?_
  refine TT_iconst hK dX4_inRow_5 ?_
  refine TT_isub hK dX4_inRow_6 ?_
  refine TT_iald hK (o := 31) (n := 100) (by decide) rfl (by first | omega | (simp [up, setR] <;> omega)) (by first | omega | (simp [up, setR] <;> omega)) (v := (h 31) (p - 1)) rfl dX4_inRow_7 ?_
  have r1 := ty_31 (i := p - 1) (v := (h 31) (p - 1)) hT rfl (by omega) (by omega)
  refine TT_iconst hK dX4_inRow_8 ?_
  refine TT_iand hK dX4_inRow_9 ?_
  refine TT_cgI (iand_m ((h 31) (p - 1)) 1 (by decide)) ?_
  show TT K ly 0 0 10 [(0, vR 28), (1, vI p)] (vI (((h 31) (p - 1)) % 2) :: []) h
  refine TT_aload_n hK rfl 0 rfl dX4_inRow_10 ?_
  refine gf_X4_18 hK (by decide) rfl (q := 31) rfl rfl dX4_inRow_11 ?_
  refine TT_iload_n hK rfl 1 rfl dX4_inRow_14 ?_
  refine TT_iconst hK dX4_inRow_15 ?_
  refine TT_iadd hK dX4_inRow_16 ?_
  refine TT_iald hK (o := 31) (n := 100) (by decide) rfl (by first | omega | (simp [up, setR] <;> omega)) (by first | omega | (simp [up, setR] <;> omega)) (v := (h 31) (p + 1)) rfl dX4_inRow_17 ?_
  have r2 := ty_31 (i := p + 1) (v := (h 31) (p + 1)) hT rfl (by omega) (by omega)
  refine TT_iconst hK dX4_inRow_18 ?_
  refine TT_iand hK dX4_inRow_19 ?_
  refine TT_cgI (iand_m ((h 31) (p + 1)) 1 (by decide)) ?_
  show TT K ly 0 0 20 [(0, vR 28), (1, vI p)] (vI (((h 31) (p + 1)) % 2) :: [vI (((h 31) (p - 1)) % 2)]) h
  refine TT_iadd hK dX4_inRow_20 ?_
  refine TT_iret hK hQ ?_ dX4_inRow_21
  exact ⟨⟨hT, hF⟩, ((((h 31) (p - 1)) % 2) + (((h 31) (p + 1)) % 2)), rfl, (by omega), (by unfold rowS hS; (repeat' split) <;> omega)⟩
set_option maxRecDepth 20000 in
theorem s_inColumn_e (p : Int) (h : Hp_) (hT : TY h) (hp : 11 ≤ p ∧ p ≤ 88) : Ctr yX4_inColumn cX4_inColumn 2 (some .int) (rmd 0) ly ly 0 0 [vR 28, vI p] h (fun r h' => (TY h' ∧ FR [] h h') ∧ ∃ z : Int, r = some (vI z) ∧ (0 ≤ z ∧ z ≤ 2) ∧ (z = colS (h 31) p)) := by
  refine Ctr_of (by decide) (Nat.le_of_ble_eq_true rfl) ⟨Nat.le_refl _, Nat.le_refl _⟩ (fun K hK hQ _ => ?_)
  show TT K ly 0 0 0 [(0, vR 28), (1, vI p)] [] h
  have hF : FR [] h h := FR_rf _ _
  refine TT_aload_n hK rfl 0 rfl dX4_inColumn_0 ?_
  refine gf_X4_18 hK (by decide) rfl (q := 31) rfl rfl dX4_inColumn_1 ?_
  refine TT_iload_n hK rfl 1 rfl dX4_inColumn_4 ?_
  refine TT_bipush hK (by decide) dX4_inColumn_5 ?_
  refine TT_isub hK dX4_inColumn_7 ?_
  refine TT_iald hK (o := 31) (n := 100) (by decide) rfl (by first | omega | (simp [up, setR] <;> omega)) (by first | omega | (simp [up, setR] <;> omega)) (v := (h 31) (p - 10)) rfl dX4_inColumn_8 ?_
  have r1 := ty_31 (i := p - 10) (v := (h 31) (p - 10)) hT rfl (by omega) (by omega)
  refine TT_iconst hK dX4_inColumn_9 ?_
  refine TT_iand hK dX4_inColumn_10 ?_
  refine TT_cgI (iand_m ((h 31) (p - 10)) 1 (by decide)) ?_
  show TT K ly 0 0 11 [(0, vR 28), (1, vI p)] (vI (((h 31) (p - 10)) % 2) :: []) h
  refine TT_aload_n hK rfl 0 rfl dX4_inColumn_11 ?_
  refine gf_X4_18 hK (by decide) rfl (q := 31) rfl rfl dX4_inColumn_12 ?_
  refine TT_iload_n hK rfl 1 rfl dX4_inColumn_15 ?_
  refine TT_bipush hK (by decide) dX4_inColumn_16 ?_
  refine TT_iadd hK dX4_inColumn_18 ?_
  refine TT_iald hK (o := 31) (n := 100) (by decide) rfl (by first | omega | (simp [up, setR] <;> omega)) (by first | omega | (simp [up, setR] <;> omega)) (v := (h 31) (p + 10)) rfl dX4_inColumn_19 ?_
  have r2 := ty_31 (i := p + 10) (v := (h 31) (p + 10)) hT rfl (by omega) (by omega)
  refine TT_iconst hK dX4_inColumn_20 ?_
  refine TT_iand hK dX4_inColumn_21 ?_
  refine TT_cgI (iand_m ((h 31) (p + 10)) 1 (by decide)) ?_
  show TT K ly 0 0 22 [(0, vR 28), (1, vI p)] (vI (((h 31) (p + 10)) % 2) :: [vI (((h 31) (p - 10)) % 2)]) h
  refine TT_iadd hK dX4_inColumn_22 ?_
  refine TT_iret hK hQ ?_ dX4_inColumn_23
  exact ⟨⟨hT, hF⟩, ((((h 31) (p - 10)) % 2) + (((h 31) (p + 10)) % 2)), rfl, (by omega), (by unfold colS hS; (repeat' split) <;> omega)⟩
set_option maxRecDepth 20000 in
theorem s_acrossCorners_e (p : Int) (h : Hp_) (hT : TY h) (hp : 11 ≤ p ∧ p ≤ 88) : Ctr yX4_acrossCorners cX4_acrossCorners 2 (some .int) (rmd 0) ly ly 0 0 [vR 28, vI p] h (fun r h' => (TY h' ∧ FR [] h h') ∧ ∃ z : Int, r = some (vI z) ∧ (0 ≤ z ∧ z ≤ 4) ∧ (z = acrS (h 31) p)) := by
  refine Ctr_of (by decide) (Nat.le_of_ble_eq_true rfl) ⟨Nat.le_refl _, Nat.le_refl _⟩ (fun K hK hQ _ => ?_)
  show TT K ly 0 0 0 [(0, vR 28), (1, vI p)] [] h
  have hF : FR [] h h := FR_rf _ _
  refine TT_aload_n hK rfl 0 rfl dX4_acrossCorners_0 ?_
  refine gf_X4_18 hK (by decide) rfl (q := 31) rfl rfl dX4_acrossCorners_1 ?_
  refine TT_iload_n hK rfl 1 rfl dX4_acrossCorners_4 ?_
  refine TT_bipush hK (by decide) dX4_acrossCorners_5 ?_
  refine TT_isub hK dX4_acrossCorners_7 ?_
  refine TT_iconst hK dX4_acrossCorners_8 ?_
  refine TT_isub hK dX4_acrossCorners_9 ?_
  refine TT_iald hK (o := 31) (n := 100) (by decide) rfl (by first | omega | (simp [up, setR] <;> omega)) (by first | omega | (simp [up, setR] <;> omega)) (v := (h 31) ((p - 10) - 1)) rfl dX4_acrossCorners_10 ?_
  have r1 := ty_31 (i := (p - 10) - 1) (v := (h 31) ((p - 10) - 1)) hT rfl (by omega) (by omega)
  refine TT_iconst hK dX4_acrossCorners_11 ?_
  refine TT_iand hK dX4_acrossCorners_12 ?_
  refine TT_cgI (iand_m ((h 31) ((p - 10) - 1)) 1 (by decide)) ?_
  show TT K ly 0 0 13 [(0, vR 28), (1, vI p)] (vI (((h 31) ((p - 10) - 1)) % 2) :: []) h
  refine TT_aload_n hK rfl 0 rfl dX4_acrossCorners_13 ?_
  refine gf_X4_18 hK (by decide) rfl (q := 31) rfl rfl dX4_acrossCorners_14 ?_
  refine TT_iload_n hK rfl 1 rfl dX4_acrossCorners_17 ?_
  refine TT_bipush hK (by decide) dX4_acrossCorners_18 ?_
  refine TT_isub hK dX4_acrossCorners_20 ?_
  refine TT_iconst hK dX4_acrossCorners_21 ?_
  refine TT_iadd hK dX4_acrossCorners_22 ?_
  refine TT_iald hK (o := 31) (n := 100) (by decide) rfl (by first | omega | (simp [up, setR] <;> omega)) (by first | omega | (simp [up, setR] <;> omega)) (v := (h 31) ((p - 10) + 1)) rfl dX4_acrossCorners_23 ?_
  have r2 := ty_31 (i := (p - 10) + 1) (v := (h 31) ((p - 10) + 1)) hT rfl (by omega) (by omega)
  refine TT_iconst hK dX4_acrossCorners_24 ?_
  refine TT_iand hK dX4_acrossCorners_25 ?_
  refine TT_cgI (iand_m ((h 31) ((p - 10) + 1)) 1 (by decide)) ?_
  show TT K ly 0 0 26 [(0, vR 28), (1, vI p)] (vI (((h 31) ((p - 10) + 1)) % 2) :: [vI (((h 31) ((p - 10) - 1)) % 2)]) h
  refine TT_iadd hK dX4_acrossCorners_26 ?_
  refine TT_aload_n hK rfl 0 rfl dX4_acrossCorners_27 ?_
  refine gf_X4_18 hK (by decide) rfl (q := 31) rfl rfl dX4_acrossCorners_28 ?_
  refine TT_iload_n hK rfl 1 rfl dX4_acrossCorners_31 ?_
  refine TT_bipush hK (by decide) dX4_acrossCorners_32 ?_
  refine TT_iadd hK dX4_acrossCorners_34 ?_
  refine TT_iconst hK dX4_acrossCorners_35 ?_
  refine TT_isub hK dX4_acrossCorners_36 ?_
  refine TT_iald hK (o := 31) (n := 100) (by decide) rfl (by first | omega | (simp [up, setR] <;> omega)) (by first | omega | (simp [up, setR] <;> omega)) (v := (h 31) ((p + 10) - 1)) rfl dX4_acrossCorners_37 ?_
  have r3 := ty_31 (i := (p + 10) - 1) (v := (h 31) ((p + 10) - 1)) hT rfl (by omega) (by omega)
  refine TT_iconst hK dX4_acrossCorners_38 ?_
  refine TT_iand hK dX4_acrossCorners_39 ?_
  refine TT_cgI (iand_m ((h 31) ((p + 10) - 1)) 1 (by decide)) ?_
  show TT K ly 0 0 40 [(0, vR 28), (1, vI p)] (vI (((h 31) ((p + 10) - 1)) % 2) :: [vI ((((h 31) ((p - 10) - 1)) % 2) + (((h 31) ((p - 10) + 1)) % 2))]) h
  refine TT_iadd hK dX4_acrossCorners_40 ?_
  refine TT_aload_n hK rfl 0 rfl dX4_acrossCorners_41 ?_
  refine gf_X4_18 hK (by decide) rfl (q := 31) rfl rfl dX4_acrossCorners_42 ?_
  refine TT_iload_n hK rfl 1 rfl dX4_acrossCorners_45 ?_
  refine TT_bipush hK (by decide) dX4_acrossCorners_46 ?_
  refine TT_iadd hK dX4_acrossCorners_48 ?_
  refine TT_iconst hK dX4_acrossCorners_49 ?_
  refine TT_iadd hK dX4_acrossCorners_50 ?_
  refine TT_iald hK (o := 31) (n := 100) (by decide) rfl (by first | omega | (simp [up, setR] <;> omega)) (by first | omega | (simp [up, setR] <;> omega)) (v := (h 31) ((p + 10) + 1)) rfl dX4_acrossCorners_51 ?_
  have r4 := ty_31 (i := (p + 10) + 1) (v := (h 31) ((p + 10) + 1)) hT rfl (by omega) (by omega)
  refine TT_iconst hK dX4_acrossCorners_52 ?_
  refine TT_iand hK dX4_acrossCorners_53 ?_
  refine TT_cgI (iand_m ((h 31) ((p + 10) + 1)) 1 (by decide)) ?_
  show TT K ly 0 0 54 [(0, vR 28), (1, vI p)] (vI (((h 31) ((p + 10) + 1)) % 2) :: [vI (((((h 31) ((p - 10) - 1)) % 2) + (((h 31) ((p - 10) + 1)) % 2)) + (((h 31) ((p + 10) - 1)) % 2))]) h
  refine TT_iadd hK dX4_acrossCorners_54 ?_
  refine TT_iret hK hQ ?_ dX4_acrossCorners_55
  exact ⟨⟨hT, hF⟩, ((((((h 31) ((p - 10) - 1)) % 2) + (((h 31) ((p - 10) + 1)) % 2)) + (((h 31) ((p + 10) - 1)) % 2)) + (((h 31) ((p + 10) + 1)) % 2)), rfl, (by omega), (by unfold acrS hS; rw [show p - 11 = p - 10 - 1 by omega, show p - 9 = p - 10 + 1 by omega, show p + 9 = p + 10 - 1 by omega, show p + 11 = p + 10 + 1 by omega]; (repeat' split) <;> omega)⟩
set_option maxRecDepth 20000 in
theorem s_contextOf_e (p : Int) (h : Hp_) (hT : TY h) (hp : 11 ≤ p ∧ p ≤ 88) : Ctr yX4_contextOf cX4_contextOf 5 (some .int) (rmd 1) ly ly 0 0 [vR 28, vI p] h (fun r h' => (TY h' ∧ FR [] h h') ∧ ∃ z : Int, r = some (vI z) ∧ (0 ≤ z ∧ z ≤ 8) ∧ (z = ctxS (h 31) (h 28 8) p)) := by
  refine Ctr_of (by decide) (Nat.le_of_ble_eq_true rfl) ⟨Nat.le_refl _, Nat.le_refl _⟩ (fun K hK hQ _ => ?_)
  show TT K ly 0 0 0 [(0, vR 28), (1, vI p)] [] h
  have hF : FR [] h h := FR_rf _ _
  refine TT_aload_n hK rfl 0 rfl dX4_contextOf_0 ?_
  refine TT_iload_n hK rfl 1 rfl dX4_contextOf_1 ?_
  refine iv_X4_92 hK (s_inRow_e p h hT (by first | omega | (simp [up, setR] <;> omega))) (by decide) rfl ⟨by decide, by decide⟩ (by decide) rfl rfl (Nat.le_of_ble_eq_true rfl) ⟨by decide, by decide⟩ dX4_contextOf_2 ?_
  intro r9 g2_1 hp9
  obtain ⟨⟨hT_1, hG_1⟩, z2_1, hr9, hz_1, e_1⟩ := hp9
  rw [hr9]
  have hF_1 : FR [] h g2_1 := FR_tr hF hG_1 (by decide)
  have e_at2 := e_1
  show TT K ly 0 0 5 [(0, vR 28), (1, vI p)] [vI z2_1] g2_1
  refine TT_istore_n hK rfl (lv' := [(2, vI z2_1), (0, vR 28), (1, vI p)]) (by decide) rfl dX4_contextOf_5 ?_
  refine TT_aload_n hK rfl 1 rfl dX4_contextOf_6 ?_
  refine TT_iload_n hK rfl 2 rfl dX4_contextOf_7 ?_
  refine iv_X4_95 hK (s_inColumn_e p g2_1 hT_1 (by first | omega | (simp [up, setR] <;> omega))) (by decide) rfl ⟨by decide, by decide⟩ (by decide) rfl rfl (Nat.le_of_ble_eq_true rfl) ⟨by decide, by decide⟩ dX4_contextOf_8 ?_
  intro r9 g8_2 hp9
  obtain ⟨⟨hT_2, hG_2⟩, z8_2, hr9, hz_2, e_2⟩ := hp9
  rw [hr9]
  have hF_2 : FR [] h g8_2 := FR_tr hF_1 hG_2 (by decide)
  rw [show g2_1 31 = h 31 from (hG_1 31 (by decide))] at e_2
  have e_at8 := e_2
  show TT K ly 0 0 11 [(2, vI z2_1), (0, vR 28), (1, vI p)] [vI z8_2] g8_2
  refine TT_istore_n hK rfl (lv' := [(3, vI z8_2), (2, vI z2_1), (0, vR 28), (1, vI p)]) (by decide) rfl dX4_contextOf_11 ?_
  refine TT_aload_n hK rfl 2 rfl dX4_contextOf_12 ?_
  refine TT_iload_n hK rfl 3 rfl dX4_contextOf_13 ?_
  refine iv_X4_98 hK (s_acrossCorners_e p g8_2 hT_2 (by first | omega | (simp [up, setR] <;> omega))) (by decide) rfl ⟨by decide, by decide⟩ (by decide) rfl rfl (Nat.le_of_ble_eq_true rfl) ⟨by decide, by decide⟩ dX4_contextOf_14 ?_
  intro r9 g14_3 hp9
  obtain ⟨⟨hT_3, hG_3⟩, z14_3, hr9, hz_3, e_3⟩ := hp9
  rw [hr9]
  have hF_3 : FR [] h g14_3 := FR_tr hF_2 hG_3 (by decide)
  rw [show g8_2 31 = h 31 from ((hG_2 31 (by decide))).trans (hG_1 31 (by decide))] at e_3
  have e_at14 := e_3
  show TT K ly 0 0 17 [(3, vI z8_2), (2, vI z2_1), (0, vR 28), (1, vI p)] [vI z14_3] g14_3
  refine TT_istore hK (lv' := [(4, vI z14_3), (3, vI z8_2), (2, vI z2_1), (0, vR 28), (1, vI p)]) (by decide) rfl dX4_contextOf_17 ?_
  refine TT_aload_n hK rfl 3 rfl dX4_contextOf_19 ?_
  refine gf_X4_39 hK (by decide) rfl (v := (h 28) 8) (rd_ (((hG_3 28 (by decide))).trans (((hG_2 28 (by decide))).trans (hG_1 28 (by decide)))) rfl) dX4_contextOf_20 ?_
  have r4 := ty_28_8 (v := (h 28) 8) hT_3 (rd_ (((hG_3 28 (by decide))).trans (((hG_2 28 (by decide))).trans (hG_1 28 (by decide)))) rfl)
  refine TT_iconst hK dX4_contextOf_23 ?_
  refine TT_icmp_ne hK (tgt := 36) (irm (by omega) (by omega)) (by decide) dX4_contextOf_24 (by decide) (fun hb24_5 => ?_) (fun hb24_5 => ?_)
  · refine TT_aload_n hK rfl 3 rfl dX4_contextOf_36 ?_
    refine gf_X4_39 hK (by decide) rfl (v := (h 28) 8) (rd_ (((hG_3 28 (by decide))).trans (((hG_2 28 (by decide))).trans (hG_1 28 (by decide)))) rfl) dX4_contextOf_37 ?_
    refine TT_iconst hK dX4_contextOf_40 ?_
    refine TT_icmp_ne hK (tgt := 54) (irm (by omega) (by omega)) (by decide) dX4_contextOf_41 (by decide) (fun hb41_6 => ?_) (fun hb41_6 => ?_)
    · refine TT_iload_n hK rfl 2 rfl dX4_contextOf_54 ?_
      refine TT_iload_n hK rfl 1 rfl dX4_contextOf_55 ?_
      refine TT_iload hK 0 rfl dX4_contextOf_56 ?_
      refine iv_X4_122 hK (s_rowFirst_e z2_1 z8_2 z14_3 g14_3 hT_3 (by first | omega | (simp [up, setR] <;> omega)) (by first | omega | (simp [up, setR] <;> omega)) (by first | omega | (simp [up, setR] <;> omega))) ⟨by decide, by decide⟩ (by decide) rfl rfl (Nat.le_of_ble_eq_true rfl) ⟨by decide, by decide⟩ dX4_contextOf_58 ?_
      intro r9 g58_7 hp9
      obtain ⟨⟨hT_7, hG_7⟩, z58_7, hr9, hz_7, e_7⟩ := hp9
      rw [hr9]
      have hF_7 : FR [] h g58_7 := FR_tr hF_3 hG_7 (by decide)
      have e_at58 := e_7
      show TT K ly 0 0 61 [(4, vI z14_3), (3, vI z8_2), (2, vI z2_1), (0, vR 28), (1, vI p)] [vI z58_7] g58_7
      refine TT_iret hK hQ ?_ dX4_contextOf_61
      exact ⟨⟨hT_7, hF_7⟩, z58_7, rfl, (by omega), (by unfold ctxS cxS; first | (rw [if_pos (by omega), ← e_at2, ← e_at8, ← e_at14]; exact e_at32) | (rw [if_neg (by omega), if_pos (by omega), ← e_at2, ← e_at8, ← e_at14]; exact e_at48) | (rw [if_neg (by omega), if_neg (by omega), ← e_at2, ← e_at8, ← e_at14]; exact e_at58))⟩
    · refine TT_iload_n hK rfl 1 rfl dX4_contextOf_44 ?_
      refine TT_iload_n hK rfl 2 rfl dX4_contextOf_45 ?_
      refine TT_iload hK 0 rfl dX4_contextOf_46 ?_
      refine iv_X4_122 hK (s_rowFirst_e z8_2 z2_1 z14_3 g14_3 hT_3 (by first | omega | (simp [up, setR] <;> omega)) (by first | omega | (simp [up, setR] <;> omega)) (by first | omega | (simp [up, setR] <;> omega))) ⟨by decide, by decide⟩ (by decide) rfl rfl (Nat.le_of_ble_eq_true rfl) ⟨by decide, by decide⟩ dX4_contextOf_48 ?_
      intro r9 g48_8 hp9
      obtain ⟨⟨hT_8, hG_8⟩, z48_8, hr9, hz_8, e_8⟩ := hp9
      rw [hr9]
      have hF_8 : FR [] h g48_8 := FR_tr hF_3 hG_8 (by decide)
      have e_at48 := e_8
      show TT K ly 0 0 51 [(4, vI z14_3), (3, vI z8_2), (2, vI z2_1), (0, vR 28), (1, vI p)] [vI z48_8] g48_8
      refine TT_goto hK (tgt := 61) dX4_contextOf_51 (by decide) ?_
      refine TT_iret hK hQ ?_ dX4_contextOf_61
      exact ⟨⟨hT_8, hF_8⟩, z48_8, rfl, (by omega), (by unfold ctxS cxS; first | (rw [if_pos (by omega), ← e_at2, ← e_at8, ← e_at14]; exact e_at32) | (rw [if_neg (by omega), if_pos (by omega), ← e_at2, ← e_at8, ← e_at14]; exact e_at48) | (rw [if_neg (by omega), if_neg (by omega), ← e_at2, ← e_at8, ← e_at14]; exact e_at58))⟩
  · refine TT_iload_n hK rfl 2 rfl dX4_contextOf_27 ?_
    refine TT_iload_n hK rfl 1 rfl dX4_contextOf_28 ?_
    refine TT_iadd hK dX4_contextOf_29 ?_
    refine TT_iload hK 0 rfl dX4_contextOf_30 ?_
    refine iv_X4_119 hK (s_cornersFirst_e (z2_1 + z8_2) z14_3 g14_3 hT_3 (by first | omega | (simp [up, setR] <;> omega)) (by first | omega | (simp [up, setR] <;> omega))) ⟨by decide, by decide⟩ (by decide) rfl rfl (Nat.le_of_ble_eq_true rfl) ⟨by decide, by decide⟩ dX4_contextOf_32 ?_
    intro r9 g32_9 hp9
    obtain ⟨⟨hT_9, hG_9⟩, z32_9, hr9, hz_9, e_9⟩ := hp9
    rw [hr9]
    have hF_9 : FR [] h g32_9 := FR_tr hF_3 hG_9 (by decide)
    have e_at32 := e_9
    show TT K ly 0 0 35 [(4, vI z14_3), (3, vI z8_2), (2, vI z2_1), (0, vR 28), (1, vI p)] [vI z32_9] g32_9
    refine TT_iret hK hQ ?_ dX4_contextOf_35
    exact ⟨⟨hT_9, hF_9⟩, z32_9, rfl, (by omega), (by unfold ctxS cxS; first | (rw [if_pos (by omega), ← e_at2, ← e_at8, ← e_at14]; exact e_at32) | (rw [if_neg (by omega), if_pos (by omega), ← e_at2, ← e_at8, ← e_at14]; exact e_at48) | (rw [if_neg (by omega), if_neg (by omega), ← e_at2, ← e_at8, ← e_at14]; exact e_at58))⟩
set_option maxRecDepth 20000 in
theorem s_meantBit_e (p : Int) (h : Hp_) (hT : TY h) (hp : 11 ≤ p ∧ p ≤ 88) (hM : ∀ q : Int, 0 ≤ q → q < 100 → -4095 ≤ (h 29) q ∧ (h 29) q ≤ 4095) (hpl : 0 ≤ (h 28 9) ∧ (h 28 9) ≤ 20) : Ctr yX4_meantBit cX4_meantBit 2 (some .int) (rmd 1) ly ly 0 0 [vR 28, vI p] h (fun r h' => (TY h' ∧ FR [] h h') ∧ ∃ z : Int, r = some (vI z) ∧ (0 ≤ z ∧ z ≤ 1) ∧ (z = bS (h 29) (h 28 9) p)) := by
  refine Ctr_of (by decide) (Nat.le_of_ble_eq_true rfl) ⟨Nat.le_refl _, Nat.le_refl _⟩ (fun K hK hQ _ => ?_)
  show TT K ly 0 0 0 [(0, vR 28), (1, vI p)] [] h
  have hF : FR [] h h := FR_rf _ _
  refine TT_aload_n hK rfl 0 rfl dX4_meantBit_0 ?_
  refine gf_X4_11 hK (by decide) rfl (q := 29) rfl rfl dX4_meantBit_1 ?_
  refine TT_iload_n hK rfl 1 rfl dX4_meantBit_4 ?_
  refine TT_iald hK (o := 29) (n := 100) (by decide) rfl (by first | omega | (simp [up, setR] <;> omega)) (by first | omega | (simp [up, setR] <;> omega)) (v := (h 29) p) rfl dX4_meantBit_5 ?_
  have r1 := ty_29 (i := p) (v := (h 29) p) hT rfl (by omega) (by omega)
  have m9 := hM p (by omega) (by omega)
  refine TT_mabs hK (irm (by omega) (by omega)) iw_X4_114 (by decide) (Nat.le_of_ble_eq_true rfl) ⟨by decide, by decide⟩ dX4_meantBit_6 ?_
  refine TT_aload_n hK rfl 0 rfl dX4_meantBit_9 ?_
  refine gf_X4_55 hK (by decide) rfl (v := (h 28) 9) rfl dX4_meantBit_10 ?_
  have r2 := ty_28_9 (v := (h 28) 9) hT rfl
  refine TT_ishr hK (irm (by omega) (by omega)) (by omega) (by omega) dX4_meantBit_13 ?_
  refine TT_iconst hK dX4_meantBit_14 ?_
  refine TT_iand hK dX4_meantBit_15 ?_
  refine TT_cgI (iand_m ((Int.natAbs ((h 29) p) : Int) / 2 ^ ((h 28) 9).toNat) 1 (by decide)) ?_
  show TT K ly 0 0 16 [(0, vR 28), (1, vI p)] (vI (((Int.natAbs ((h 29) p) : Int) / 2 ^ ((h 28) 9).toNat) % 2) :: []) h
  refine TT_iret hK hQ ?_ dX4_meantBit_16
  exact ⟨⟨hT, hF⟩, (((Int.natAbs ((h 29) p) : Int) / 2 ^ ((h 28) 9).toNat) % 2), rfl, (by omega), (by rfl)⟩
set_option maxRecDepth 20000 in
theorem s_firstRefining_e (p : Int) (h : Hp_) (hT : TY h) (hp : 11 ≤ p ∧ p ≤ 88) : Ctr yX4_firstRefiningContext cX4_firstRefiningContext 3 (some .int) (rmd 1) ly ly 0 0 [vR 28, vI p] h (fun r h' => (TY h' ∧ FR [] h h') ∧ ∃ z : Int, r = some (vI z) ∧ (14 ≤ z ∧ z ≤ 15) ∧ (z = if 0 < rowS (h 31) p + colS (h 31) p + acrS (h 31) p then 15 else 14)) := by
  refine Ctr_of (by decide) (Nat.le_of_ble_eq_true rfl) ⟨Nat.le_refl _, Nat.le_refl _⟩ (fun K hK hQ _ => ?_)
  show TT K ly 0 0 0 [(0, vR 28), (1, vI p)] [] h
  have hF : FR [] h h := FR_rf _ _
  refine TT_aload_n hK rfl 0 rfl dX4_firstRefiningContext_0 ?_
  refine TT_iload_n hK rfl 1 rfl dX4_firstRefiningContext_1 ?_
  refine iv_X4_92 hK (s_inRow_e p h hT (by first | omega | (simp [up, setR] <;> omega))) (by decide) rfl ⟨by decide, by decide⟩ (by decide) rfl rfl (Nat.le_of_ble_eq_true rfl) ⟨by decide, by decide⟩ dX4_firstRefiningContext_2 ?_
  intro r9 g2_1 hp9
  obtain ⟨⟨hT_1, hG_1⟩, z2_1, hr9, hz_1, e_1⟩ := hp9
  rw [hr9]
  have hF_1 : FR [] h g2_1 := FR_tr hF hG_1 (by decide)
  have e_at2 := e_1
  show TT K ly 0 0 5 [(0, vR 28), (1, vI p)] [vI z2_1] g2_1
  refine TT_aload_n hK rfl 0 rfl dX4_firstRefiningContext_5 ?_
  refine TT_iload_n hK rfl 1 rfl dX4_firstRefiningContext_6 ?_
  refine iv_X4_95 hK (s_inColumn_e p g2_1 hT_1 (by first | omega | (simp [up, setR] <;> omega))) (by decide) rfl ⟨by decide, by decide⟩ (by decide) rfl rfl (Nat.le_of_ble_eq_true rfl) ⟨by decide, by decide⟩ dX4_firstRefiningContext_7 ?_
  intro r9 g7_2 hp9
  obtain ⟨⟨hT_2, hG_2⟩, z7_2, hr9, hz_2, e_2⟩ := hp9
  rw [hr9]
  have hF_2 : FR [] h g7_2 := FR_tr hF_1 hG_2 (by decide)
  rw [show g2_1 31 = h 31 from (hG_1 31 (by decide))] at e_2
  have e_at7 := e_2
  show TT K ly 0 0 10 [(0, vR 28), (1, vI p)] [vI z7_2, vI z2_1] g7_2
  refine TT_iadd hK dX4_firstRefiningContext_10 ?_
  refine TT_aload_n hK rfl 0 rfl dX4_firstRefiningContext_11 ?_
  refine TT_iload_n hK rfl 1 rfl dX4_firstRefiningContext_12 ?_
  refine iv_X4_98 hK (s_acrossCorners_e p g7_2 hT_2 (by first | omega | (simp [up, setR] <;> omega))) (by decide) rfl ⟨by decide, by decide⟩ (by decide) rfl rfl (Nat.le_of_ble_eq_true rfl) ⟨by decide, by decide⟩ dX4_firstRefiningContext_13 ?_
  intro r9 g13_3 hp9
  obtain ⟨⟨hT_3, hG_3⟩, z13_3, hr9, hz_3, e_3⟩ := hp9
  rw [hr9]
  have hF_3 : FR [] h g13_3 := FR_tr hF_2 hG_3 (by decide)
  rw [show g7_2 31 = h 31 from ((hG_2 31 (by decide))).trans (hG_1 31 (by decide))] at e_3
  have e_at13 := e_3
  show TT K ly 0 0 16 [(0, vR 28), (1, vI p)] [vI z13_3, vI (z2_1 + z7_2)] g13_3
  refine TT_iadd hK dX4_firstRefiningContext_16 ?_
  refine TT_if_ne hK (tgt := 24) (irm (by omega) (by omega)) dX4_firstRefiningContext_17 (by decide) (fun hb17_4 => ?_) (fun hb17_4 => ?_)
  · refine TT_iconst hK dX4_firstRefiningContext_24 ?_
    refine TT_istore_n hK rfl (lv' := [(2, vI 0), (0, vR 28), (1, vI p)]) (by decide) rfl dX4_firstRefiningContext_25 ?_
    refine TT_iload_n hK rfl 0 rfl dX4_firstRefiningContext_26 ?_
    refine TT_if_eq hK (tgt := 35) (by decide) dX4_firstRefiningContext_27 (by decide) (fun hb27_5 => ?_) (fun hb27_5 => ?_)
    · refine TT_bipush hK (by decide) dX4_firstRefiningContext_35 ?_
      refine TT_iret hK hQ ?_ dX4_firstRefiningContext_37
      exact ⟨⟨hT_3, hF_3⟩, 15, rfl, (by omega), (by rw [← e_at2, ← e_at7, ← e_at13]; first | rw [if_pos (by omega)] | rw [if_neg (by omega)])⟩
    · exact absurd hb27_5 (by decide)
  · refine TT_iconst hK dX4_firstRefiningContext_20 ?_
    refine TT_goto hK (tgt := 25) dX4_firstRefiningContext_21 (by decide) ?_
    refine TT_istore_n hK rfl (lv' := [(2, vI 1), (0, vR 28), (1, vI p)]) (by decide) rfl dX4_firstRefiningContext_25 ?_
    refine TT_iload_n hK rfl 0 rfl dX4_firstRefiningContext_26 ?_
    refine TT_if_eq hK (tgt := 35) (by decide) dX4_firstRefiningContext_27 (by decide) (fun hb27_6 => ?_) (fun hb27_6 => ?_)
    · exact absurd hb27_6 (by decide)
    · refine TT_bipush hK (by decide) dX4_firstRefiningContext_30 ?_
      refine TT_goto hK (tgt := 37) dX4_firstRefiningContext_32 (by decide) ?_
      refine TT_iret hK hQ ?_ dX4_firstRefiningContext_37
      exact ⟨⟨hT_3, hF_3⟩, 14, rfl, (by omega), (by rw [← e_at2, ← e_at7, ← e_at13]; first | rw [if_pos (by omega)] | rw [if_neg (by omega)])⟩
set_option maxRecDepth 20000 in
theorem s_wake_e (p : Int) (h : Hp_) (hT : TY h) (hp : 11 ≤ p ∧ p ≤ 88) : Ctr yX4_wake cX4_wake 7 none (rmd 2) ly ly 0 0 [vR 28, vI p] h (fun r h' => (TY h' ∧ FR [24, 25, 26, 30, 31] h h') ∧ r = none ∧ (∀ s : TS_, RPQ (h 31) (h 32) (h 33) (h 24 3) (h 25) (h 26) s → RPQ (h' 31) (h 32) (h 33) (h' 24 3) (h' 25) (h' 26)  (wkT (h 29) p s)) ∧ ((h' 24 4) = (h 24 4))) := by
  refine Ctr_of (by decide) (Nat.le_of_ble_eq_true rfl) ⟨Nat.le_refl _, Nat.le_refl _⟩ (fun K hK hQ _ => ?_)
  show TT K ly 0 0 0 [(0, vR 28), (1, vI p)] [] h
  have hF : FR [24, 25, 26, 30, 31] h h := FR_rf _ _
  refine TT_aload_n hK rfl 0 rfl dX4_wake_0 ?_
  refine gf_X4_18 hK (by decide) rfl (q := 31) rfl rfl dX4_wake_1 ?_
  refine TT_iload_n hK rfl 1 rfl dX4_wake_4 ?_
  refine TT_iconst hK dX4_wake_5 ?_
  refine TT_isub hK dX4_wake_6 ?_
  refine TT_iald hK (o := 31) (n := 100) (by decide) rfl (by first | omega | (simp [up, setR] <;> omega)) (by first | omega | (simp [up, setR] <;> omega)) (v := (h 31) (p - 1)) rfl dX4_wake_7 ?_
  have r1 := ty_31 (i := p - 1) (v := (h 31) (p - 1)) hT rfl (by omega) (by omega)
  refine TT_aload_n hK rfl 0 rfl dX4_wake_8 ?_
  refine gf_X4_18 hK (by decide) rfl (q := 31) rfl rfl dX4_wake_9 ?_
  refine TT_iload_n hK rfl 1 rfl dX4_wake_12 ?_
  refine TT_iconst hK dX4_wake_13 ?_
  refine TT_iadd hK dX4_wake_14 ?_
  refine TT_iald hK (o := 31) (n := 100) (by decide) rfl (by first | omega | (simp [up, setR] <;> omega)) (by first | omega | (simp [up, setR] <;> omega)) (v := (h 31) (p + 1)) rfl dX4_wake_15 ?_
  have r2 := ty_31 (i := p + 1) (v := (h 31) (p + 1)) hT rfl (by omega) (by omega)
  refine TT_iadd hK dX4_wake_16 ?_
  refine iv_X4_108 hK (s_cut_e (((h 31) (p - 1)) + ((h 31) (p + 1))) h hT (by first | omega | (simp [up, setR] <;> omega))) ⟨by decide, by decide⟩ (by decide) rfl rfl (Nat.le_of_ble_eq_true rfl) ⟨by decide, by decide⟩ dX4_wake_17 ?_
  intro r9 g17_3 hp9
  obtain ⟨⟨hT_3, hG_3⟩, z17_3, hr9, hz_3, e_3⟩ := hp9
  rw [hr9]
  have hF_3 : FR [24, 25, 26, 30, 31] h g17_3 := FR_tr hF hG_3 (by decide)
  have e_at17 := e_3
  show TT K ly 0 0 20 [(0, vR 28), (1, vI p)] [vI z17_3] g17_3
  refine TT_istore_n hK rfl (lv' := [(2, vI z17_3), (0, vR 28), (1, vI p)]) (by decide) rfl dX4_wake_20 ?_
  refine TT_aload_n hK rfl 1 rfl dX4_wake_21 ?_
  refine gf_X4_18 hK (by decide) rfl (q := 31) rfl rfl dX4_wake_22 ?_
  refine TT_iload_n hK rfl 2 rfl dX4_wake_25 ?_
  refine TT_bipush hK (by decide) dX4_wake_26 ?_
  refine TT_isub hK dX4_wake_28 ?_
  refine TT_iald hK (o := 31) (n := 100) (by decide) rfl (by first | omega | (simp [up, setR] <;> omega)) (by first | omega | (simp [up, setR] <;> omega)) (v := (h 31) (p - 10)) (rd_ (hG_3 31 (by decide)) rfl) dX4_wake_29 ?_
  have r4 := ty_31 (i := p - 10) (v := (h 31) (p - 10)) hT_3 (rd_ (hG_3 31 (by decide)) rfl) (by omega) (by omega)
  refine TT_aload_n hK rfl 1 rfl dX4_wake_30 ?_
  refine gf_X4_18 hK (by decide) rfl (q := 31) rfl rfl dX4_wake_31 ?_
  refine TT_iload_n hK rfl 2 rfl dX4_wake_34 ?_
  refine TT_bipush hK (by decide) dX4_wake_35 ?_
  refine TT_iadd hK dX4_wake_37 ?_
  refine TT_iald hK (o := 31) (n := 100) (by decide) rfl (by first | omega | (simp [up, setR] <;> omega)) (by first | omega | (simp [up, setR] <;> omega)) (v := (h 31) (p + 10)) (rd_ (hG_3 31 (by decide)) rfl) dX4_wake_38 ?_
  have r5 := ty_31 (i := p + 10) (v := (h 31) (p + 10)) hT_3 (rd_ (hG_3 31 (by decide)) rfl) (by omega) (by omega)
  refine TT_iadd hK dX4_wake_39 ?_
  refine iv_X4_108 hK (s_cut_e (((h 31) (p - 10)) + ((h 31) (p + 10))) g17_3 hT_3 (by first | omega | (simp [up, setR] <;> omega))) ⟨by decide, by decide⟩ (by decide) rfl rfl (Nat.le_of_ble_eq_true rfl) ⟨by decide, by decide⟩ dX4_wake_40 ?_
  intro r9 g40_6 hp9
  obtain ⟨⟨hT_6, hG_6⟩, z40_6, hr9, hz_6, e_6⟩ := hp9
  rw [hr9]
  have hF_6 : FR [24, 25, 26, 30, 31] h g40_6 := FR_tr hF_3 hG_6 (by decide)
  have e_at40 := e_6
  show TT K ly 0 0 43 [(2, vI z17_3), (0, vR 28), (1, vI p)] [vI z40_6] g40_6
  refine TT_istore_n hK rfl (lv' := [(3, vI z40_6), (2, vI z17_3), (0, vR 28), (1, vI p)]) (by decide) rfl dX4_wake_43 ?_
  have J75_7 : ∀ (a : Int) (b : Int) (t : Int), (-1 ≤ a ∧ a ≤ 1) → (-1 ≤ b ∧ b ≤ 1) → (0 ≤ t ∧ t ≤ 1) → (9 + 3 * a + b = sgX (h 31) p) → (t = sgT (h 31) p) → TT K ly 0 0 75 [(0, vR 28), (1, vI p), (2, vI a), (3, vI b), (4, vI t)] [] g40_6 := by
    intro a b t ha hb ht hx9 ht9
    have J91_8 : ∀ (sg : Int), (0 ≤ sg ∧ sg ≤ 1) → (sg = if h 29 p < 0 then 1 else 0) → TT K ly 0 0 91 [(0, vR 28), (1, vI p), (2, vI a), (3, vI b), (4, vI t), (5, vI sg)] [] g40_6 := by
      intro sg hsg hsg9
      refine TT_aload_n hK rfl 0 rfl dX4_wake_91 ?_
      refine gf_X4_28 hK (by decide) rfl (q := 24) rfl rfl dX4_wake_92 ?_
      refine TT_bipush hK (by decide) dX4_wake_95 ?_
      refine TT_iconst hK dX4_wake_97 ?_
      refine TT_iload_n hK rfl 2 rfl dX4_wake_98 ?_
      refine TT_imul hK dX4_wake_99 ?_
      refine TT_iadd hK dX4_wake_100 ?_
      refine TT_iload_n hK rfl 3 rfl dX4_wake_101 ?_
      refine TT_iadd hK dX4_wake_102 ?_
      refine TT_iload hK 5 rfl dX4_wake_103 ?_
      refine TT_iload hK 4 rfl dX4_wake_105 ?_
      refine TT_ixor hK dX4_wake_107 ?_
      refine TT_cgI (b := xr_ sg t) (by exact ixr_1 hsg ht) ?_
      refine iv_X4_80_X7 hK (s_tape_e ((9 + (3 * a)) + b) (xr_ sg t) g40_6 hT_6 (by have k9 := sgX_r (h 31) p; omega) (by have k9 := xr_01 hsg ht; omega)) (by decide) rfl ⟨by decide, by decide⟩ (by decide) rfl rfl (Nat.le_of_ble_eq_true rfl) ⟨by decide, by decide⟩ dX4_wake_108 ?_
      intro r9 g108_9 hp9
      obtain ⟨⟨hT_9, hG_9⟩, z108_9, hr9, hz_9, e_9, tp_9, k24_9⟩ := hp9
      rw [hr9]
      have hF_9 : FR [24, 25, 26, 30, 31] h g108_9 := FR_tr hF_6 hG_9 (by decide)
      rw [show g40_6 24 3 = (h 24) 3 from rd_ (((hG_6 24 (by decide))).trans (hG_3 24 (by decide))) rfl] at tp_9
      rw [show g40_6 25 = h 25 from ((hG_6 25 (by decide))).trans (hG_3 25 (by decide))] at tp_9
      rw [show g40_6 26 = h 26 from ((hG_6 26 (by decide))).trans (hG_3 26 (by decide))] at tp_9
      rw [show g40_6 24 4 = (h 24) 4 from rd_ (((hG_6 24 (by decide))).trans (hG_3 24 (by decide))) rfl] at k24_9
      have e_at108 := e_9
      have tp_at108 := tp_9
      show TT K ly 0 0 113 [(0, vR 28), (1, vI p), (2, vI a), (3, vI b), (4, vI t), (5, vI sg)] [vI z108_9] g108_9
      refine TT_iload hK 4 rfl dX4_wake_113 ?_
      refine TT_ixor hK dX4_wake_115 ?_
      refine TT_cgI (b := sg) (by rw [e_at108]; exact ixr_2 hsg ht) ?_
      refine TT_istore hK (lv' := [(6, vI sg), (0, vR 28), (1, vI p), (2, vI a), (3, vI b), (4, vI t), (5, vI sg)]) (by decide) rfl dX4_wake_116 ?_
      refine TT_aload_n hK rfl 1 rfl dX4_wake_118 ?_
      refine gf_X4_18 hK (by decide) rfl (q := 31) rfl rfl dX4_wake_119 ?_
      refine TT_iload_n hK rfl 2 rfl dX4_wake_122 ?_
      refine TT_iload hK 0 rfl dX4_wake_123 ?_
      refine TT_iconst hK dX4_wake_125 ?_
      refine TT_icmp_ne hK (tgt := 133) (irm (by omega) (by omega)) (by decide) dX4_wake_126 (by decide) (fun hb126_10 => ?_) (fun hb126_10 => ?_)
      · refine TT_iconst hK dX4_wake_133 ?_
        refine TT_iast hK (o := 31) (n := 100) (by decide) rfl (by omega) (by omega) dX4_wake_134 ?_
        refine TT_hp (h' := setO g108_9 31 (fup (h 31) p 1)) (up_can (((hG_9 31 (by decide))).trans (((hG_6 31 (by decide))).trans (hG_3 31 (by decide)))) rfl rfl) ?_
        have hT_11 : TY (setO g108_9 31 (fup (h 31) p 1)) := tu_31 hT_9 (show up g108_9 31 p 1 = (setO g108_9 31 (fup (h 31) p 1)) from up_can (((hG_9 31 (by decide))).trans (((hG_6 31 (by decide))).trans (hG_3 31 (by decide)))) rfl rfl) (by omega)
        have hF_11 : FR [24, 25, 26, 30, 31] h (setO g108_9 31 (fup (h 31) p 1)) := FR_up (show up g108_9 31 p 1 = (setO g108_9 31 (fup (h 31) p 1)) from up_can (((hG_9 31 (by decide))).trans (((hG_6 31 (by decide))).trans (hG_3 31 (by decide)))) rfl rfl) hF_9 (by decide)
        refine TT_aload_n hK rfl 1 rfl dX4_wake_135 ?_
        refine gf_X4_15 hK (by decide) rfl (q := 30) rfl rfl dX4_wake_136 ?_
        refine TT_iload_n hK rfl 2 rfl dX4_wake_139 ?_
        refine TT_dup2 hK rfl rfl dX4_wake_140 ?_
        refine TT_iald hK (o := 30) (n := 100) (by decide) rfl (by first | omega | (simp [up, setR] <;> omega)) (by first | omega | (simp [up, setR] <;> omega)) (v := (h 30) p) (rd_ ((sOf_ne _ _ (by decide)).trans (((hG_9 30 (by decide))).trans (((hG_6 30 (by decide))).trans (hG_3 30 (by decide))))) rfl) dX4_wake_141 ?_
        have r12 := ty_30 (i := p) (v := (h 30) p) hT_11 (rd_ ((sOf_ne _ _ (by decide)).trans (((hG_9 30 (by decide))).trans (((hG_6 30 (by decide))).trans (hG_3 30 (by decide))))) rfl) (by omega) (by omega)
        refine TT_iconst hK dX4_wake_142 ?_
        refine TT_aload_n hK rfl 1 rfl dX4_wake_143 ?_
        refine gf_X4_55 hK (by decide) rfl (v := (h 28) 9) (rd_ ((sOf_ne _ _ (by decide)).trans (((hG_9 28 (by decide))).trans (((hG_6 28 (by decide))).trans (hG_3 28 (by decide))))) rfl) dX4_wake_144 ?_
        have r13 := ty_28_9 (v := (h 28) 9) hT_11 (rd_ ((sOf_ne _ _ (by decide)).trans (((hG_9 28 (by decide))).trans (((hG_6 28 (by decide))).trans (hG_3 28 (by decide))))) rfl)
        refine TT_ishl_a hK dX4_wake_147 (fun x147_14 hx14 => ?_)
        refine TT_ior hK dX4_wake_148 ?_
        refine TT_w32 (fun x149_15 hx15 => ?_)
        refine TT_iast hK (o := 30) (n := 100) (by decide) rfl (by omega) (by omega) dX4_wake_149 ?_
        refine TT_hp (h' := setO (setO g108_9 30 (fup (h 30) p x149_15)) 31 (fup (h 31) p 1)) (up_can ((sOf_ne _ _ (by decide)).trans (((hG_9 30 (by decide))).trans (((hG_6 30 (by decide))).trans (hG_3 30 (by decide))))) rfl ((setO_comm _ _ _ (by decide)).trans (setO_cg rfl rfl))) ?_
        have hT_16 : TY (setO (setO g108_9 30 (fup (h 30) p x149_15)) 31 (fup (h 31) p 1)) := tu_30 hT_11 (show up (setO g108_9 31 (fup (h 31) p 1)) 30 p x149_15 = (setO (setO g108_9 30 (fup (h 30) p x149_15)) 31 (fup (h 31) p 1)) from up_can ((sOf_ne _ _ (by decide)).trans (((hG_9 30 (by decide))).trans (((hG_6 30 (by decide))).trans (hG_3 30 (by decide))))) rfl ((setO_comm _ _ _ (by decide)).trans (setO_cg rfl rfl))) (by omega)
        have hF_16 : FR [24, 25, 26, 30, 31] h (setO (setO g108_9 30 (fup (h 30) p x149_15)) 31 (fup (h 31) p 1)) := FR_up (show up (setO g108_9 31 (fup (h 31) p 1)) 30 p x149_15 = (setO (setO g108_9 30 (fup (h 30) p x149_15)) 31 (fup (h 31) p 1)) from up_can ((sOf_ne _ _ (by decide)).trans (((hG_9 30 (by decide))).trans (((hG_6 30 (by decide))).trans (hG_3 30 (by decide))))) rfl ((setO_comm _ _ _ (by decide)).trans (setO_cg rfl rfl))) hF_11 (by decide)
        refine TT_vret hK hQ ?_ dX4_wake_150
        have e17_24_3 : (setO (setO g108_9 30 (fup (h 30) p x149_15)) 31 (fup (h 31) p 1)) 24 3 = (g108_9 24) 3 := rd_ ((sOf_ne _ _ (by decide)).trans (sOf_ne _ _ (by decide))) rfl
        have e18_25 : (setO (setO g108_9 30 (fup (h 30) p x149_15)) 31 (fup (h 31) p 1)) 25 = g108_9 25 := (sOf_ne _ _ (by decide)).trans (sOf_ne _ _ (by decide))
        have e19_26 : (setO (setO g108_9 30 (fup (h 30) p x149_15)) 31 (fup (h 31) p 1)) 26 = g108_9 26 := (sOf_ne _ _ (by decide)).trans (sOf_ne _ _ (by decide))
        have e20_31 : (setO (setO g108_9 30 (fup (h 30) p x149_15)) 31 (fup (h 31) p 1)) 31 = fup (h 31) p 1 := sOf_eq _ _ _
        have e21_24_4 : (setO (setO g108_9 30 (fup (h 30) p x149_15)) 31 (fup (h 31) p 1)) 24 4 = (g108_9 24) 4 := rd_ ((sOf_ne _ _ (by decide)).trans (sOf_ne _ _ (by decide))) rfl
        exact ⟨⟨hT_16, hF_16⟩, rfl, (by rewrite [e17_24_3, e18_25, e19_26, e20_31]; intro s hs; exact RPQ_wk hs tp_at108 hx9 (by rw [hsg9, ht9]) (by by_cases m : h 29 p < 0; (rw [if_pos m] at hsg9; first | exact (if_pos m).symm | (exfalso; omega)); (rw [if_neg m] at hsg9; first | exact (if_neg m).symm | (exfalso; omega)))), (by rewrite [e21_24_4]; omega)⟩
      · refine TT_iconst hK dX4_wake_129 ?_
        refine TT_goto hK (tgt := 134) dX4_wake_130 (by decide) ?_
        refine TT_iast hK (o := 31) (n := 100) (by decide) rfl (by omega) (by omega) dX4_wake_134 ?_
        refine TT_hp (h' := setO g108_9 31 (fup (h 31) p (-1))) (up_can (((hG_9 31 (by decide))).trans (((hG_6 31 (by decide))).trans (hG_3 31 (by decide)))) rfl rfl) ?_
        have hT_22 : TY (setO g108_9 31 (fup (h 31) p (-1))) := tu_31 hT_9 (show up g108_9 31 p (-1) = (setO g108_9 31 (fup (h 31) p (-1))) from up_can (((hG_9 31 (by decide))).trans (((hG_6 31 (by decide))).trans (hG_3 31 (by decide)))) rfl rfl) (by omega)
        have hF_22 : FR [24, 25, 26, 30, 31] h (setO g108_9 31 (fup (h 31) p (-1))) := FR_up (show up g108_9 31 p (-1) = (setO g108_9 31 (fup (h 31) p (-1))) from up_can (((hG_9 31 (by decide))).trans (((hG_6 31 (by decide))).trans (hG_3 31 (by decide)))) rfl rfl) hF_9 (by decide)
        refine TT_aload_n hK rfl 1 rfl dX4_wake_135 ?_
        refine gf_X4_15 hK (by decide) rfl (q := 30) rfl rfl dX4_wake_136 ?_
        refine TT_iload_n hK rfl 2 rfl dX4_wake_139 ?_
        refine TT_dup2 hK rfl rfl dX4_wake_140 ?_
        refine TT_iald hK (o := 30) (n := 100) (by decide) rfl (by first | omega | (simp [up, setR] <;> omega)) (by first | omega | (simp [up, setR] <;> omega)) (v := (h 30) p) (rd_ ((sOf_ne _ _ (by decide)).trans (((hG_9 30 (by decide))).trans (((hG_6 30 (by decide))).trans (hG_3 30 (by decide))))) rfl) dX4_wake_141 ?_
        have r23 := ty_30 (i := p) (v := (h 30) p) hT_22 (rd_ ((sOf_ne _ _ (by decide)).trans (((hG_9 30 (by decide))).trans (((hG_6 30 (by decide))).trans (hG_3 30 (by decide))))) rfl) (by omega) (by omega)
        refine TT_iconst hK dX4_wake_142 ?_
        refine TT_aload_n hK rfl 1 rfl dX4_wake_143 ?_
        refine gf_X4_55 hK (by decide) rfl (v := (h 28) 9) (rd_ ((sOf_ne _ _ (by decide)).trans (((hG_9 28 (by decide))).trans (((hG_6 28 (by decide))).trans (hG_3 28 (by decide))))) rfl) dX4_wake_144 ?_
        have r24 := ty_28_9 (v := (h 28) 9) hT_22 (rd_ ((sOf_ne _ _ (by decide)).trans (((hG_9 28 (by decide))).trans (((hG_6 28 (by decide))).trans (hG_3 28 (by decide))))) rfl)
        refine TT_ishl_a hK dX4_wake_147 (fun x147_25 hx25 => ?_)
        refine TT_ior hK dX4_wake_148 ?_
        refine TT_w32 (fun x149_26 hx26 => ?_)
        refine TT_iast hK (o := 30) (n := 100) (by decide) rfl (by omega) (by omega) dX4_wake_149 ?_
        refine TT_hp (h' := setO (setO g108_9 30 (fup (h 30) p x149_26)) 31 (fup (h 31) p (-1))) (up_can ((sOf_ne _ _ (by decide)).trans (((hG_9 30 (by decide))).trans (((hG_6 30 (by decide))).trans (hG_3 30 (by decide))))) rfl ((setO_comm _ _ _ (by decide)).trans (setO_cg rfl rfl))) ?_
        have hT_27 : TY (setO (setO g108_9 30 (fup (h 30) p x149_26)) 31 (fup (h 31) p (-1))) := tu_30 hT_22 (show up (setO g108_9 31 (fup (h 31) p (-1))) 30 p x149_26 = (setO (setO g108_9 30 (fup (h 30) p x149_26)) 31 (fup (h 31) p (-1))) from up_can ((sOf_ne _ _ (by decide)).trans (((hG_9 30 (by decide))).trans (((hG_6 30 (by decide))).trans (hG_3 30 (by decide))))) rfl ((setO_comm _ _ _ (by decide)).trans (setO_cg rfl rfl))) (by omega)
        have hF_27 : FR [24, 25, 26, 30, 31] h (setO (setO g108_9 30 (fup (h 30) p x149_26)) 31 (fup (h 31) p (-1))) := FR_up (show up (setO g108_9 31 (fup (h 31) p (-1))) 30 p x149_26 = (setO (setO g108_9 30 (fup (h 30) p x149_26)) 31 (fup (h 31) p (-1))) from up_can ((sOf_ne _ _ (by decide)).trans (((hG_9 30 (by decide))).trans (((hG_6 30 (by decide))).trans (hG_3 30 (by decide))))) rfl ((setO_comm _ _ _ (by decide)).trans (setO_cg rfl rfl))) hF_22 (by decide)
        refine TT_vret hK hQ ?_ dX4_wake_150
        have e28_24_3 : (setO (setO g108_9 30 (fup (h 30) p x149_26)) 31 (fup (h 31) p (-1))) 24 3 = (g108_9 24) 3 := rd_ ((sOf_ne _ _ (by decide)).trans (sOf_ne _ _ (by decide))) rfl
        have e29_25 : (setO (setO g108_9 30 (fup (h 30) p x149_26)) 31 (fup (h 31) p (-1))) 25 = g108_9 25 := (sOf_ne _ _ (by decide)).trans (sOf_ne _ _ (by decide))
        have e30_26 : (setO (setO g108_9 30 (fup (h 30) p x149_26)) 31 (fup (h 31) p (-1))) 26 = g108_9 26 := (sOf_ne _ _ (by decide)).trans (sOf_ne _ _ (by decide))
        have e31_31 : (setO (setO g108_9 30 (fup (h 30) p x149_26)) 31 (fup (h 31) p (-1))) 31 = fup (h 31) p (-1) := sOf_eq _ _ _
        have e32_24_4 : (setO (setO g108_9 30 (fup (h 30) p x149_26)) 31 (fup (h 31) p (-1))) 24 4 = (g108_9 24) 4 := rd_ ((sOf_ne _ _ (by decide)).trans (sOf_ne _ _ (by decide))) rfl
        exact ⟨⟨hT_27, hF_27⟩, rfl, (by rewrite [e28_24_3, e29_25, e30_26, e31_31]; intro s hs; exact RPQ_wk hs tp_at108 hx9 (by rw [hsg9, ht9]) (by by_cases m : h 29 p < 0; (rw [if_pos m] at hsg9; first | exact (if_pos m).symm | (exfalso; omega)); (rw [if_neg m] at hsg9; first | exact (if_neg m).symm | (exfalso; omega)))), (by rewrite [e32_24_4]; omega)⟩
    refine TT_aload_n hK rfl 0 rfl dX4_wake_75 ?_
    refine gf_X4_11 hK (by decide) rfl (q := 29) rfl rfl dX4_wake_76 ?_
    refine TT_iload_n hK rfl 1 rfl dX4_wake_79 ?_
    refine TT_iald hK (o := 29) (n := 100) (by decide) rfl (by first | omega | (simp [up, setR] <;> omega)) (by first | omega | (simp [up, setR] <;> omega)) (v := (h 29) p) (rd_ (((hG_6 29 (by decide))).trans (hG_3 29 (by decide))) rfl) dX4_wake_80 ?_
    have r33 := ty_29 (i := p) (v := (h 29) p) hT_6 (rd_ (((hG_6 29 (by decide))).trans (hG_3 29 (by decide))) rfl) (by omega) (by omega)
    refine TT_if_ge hK (tgt := 88) (irm (by omega) (by omega)) dX4_wake_81 (by decide) (fun hb81_34 => ?_) (fun hb81_34 => ?_)
    · refine TT_iconst hK dX4_wake_88 ?_
      refine TT_istore hK (lv' := [(5, vI 0), (0, vR 28), (1, vI p), (2, vI a), (3, vI b), (4, vI t)]) (by decide) rfl dX4_wake_89 ?_
      refine TT_sub [1, 2, 3, 4, 5, 0] rfl ?_
      exact J91_8 0 (by first | omega | (simp [up, setR] <;> omega)) (by first | rw [if_pos (by omega)] | rw [if_neg (by omega)])
    · refine TT_iconst hK dX4_wake_84 ?_
      refine TT_goto hK (tgt := 89) dX4_wake_85 (by decide) ?_
      refine TT_istore hK (lv' := [(5, vI 1), (0, vR 28), (1, vI p), (2, vI a), (3, vI b), (4, vI t)]) (by decide) rfl dX4_wake_89 ?_
      refine TT_sub [1, 2, 3, 4, 5, 0] rfl ?_
      exact J91_8 1 (by first | omega | (simp [up, setR] <;> omega)) (by first | rw [if_pos (by omega)] | rw [if_neg (by omega)])
  refine TT_iload_n hK rfl 1 rfl dX4_wake_44 ?_
  refine TT_if_lt hK (tgt := 56) (irm (by omega) (by omega)) dX4_wake_45 (by decide) (fun hb45_35 => ?_) (fun hb45_35 => ?_)
  · refine TT_iconst hK dX4_wake_56 ?_
    refine TT_goto hK (tgt := 61) dX4_wake_57 (by decide) ?_
    refine TT_istore hK (lv' := [(4, vI 1), (3, vI z40_6), (2, vI z17_3), (0, vR 28), (1, vI p)]) (by decide) rfl dX4_wake_61 ?_
    refine TT_iload hK 0 rfl dX4_wake_63 ?_
    refine TT_iconst hK dX4_wake_65 ?_
    refine TT_icmp_ne hK (tgt := 75) (by decide) (by decide) dX4_wake_66 (by decide) (fun hb66_36 => ?_) (fun hb66_36 => ?_)
    · exact absurd hb66_36 (by decide)
    · refine TT_iload_n hK rfl 2 rfl dX4_wake_69 ?_
      refine TT_ineg hK dX4_wake_70 ?_
      refine TT_istore_n hK rfl (lv' := [(2, vI (-z17_3)), (4, vI 1), (3, vI z40_6), (0, vR 28), (1, vI p)]) (by decide) rfl dX4_wake_71 ?_
      refine TT_iload_n hK rfl 2 rfl dX4_wake_72 ?_
      refine TT_ineg hK dX4_wake_73 ?_
      refine TT_istore_n hK rfl (lv' := [(3, vI (-z40_6)), (2, vI (-z17_3)), (4, vI 1), (0, vR 28), (1, vI p)]) (by decide) rfl dX4_wake_74 ?_
      refine TT_sub [3, 4, 1, 0, 2] rfl ?_
      exact J75_7 (-z17_3) (-z40_6) 1 (by first | omega | (simp [up, setR] <;> omega)) (by first | omega | (simp [up, setR] <;> omega)) (by first | omega | (simp [up, setR] <;> omega)) (by unfold sgX sgT sgA sgB; rw [← e_at17, ← e_at40]; (repeat' split) <;> omega) (by unfold sgT sgA sgB; rw [← e_at17, ← e_at40]; (repeat' split) <;> omega)
  · refine TT_iload_n hK rfl 1 rfl dX4_wake_48 ?_
    refine TT_if_ne hK (tgt := 60) (irm (by omega) (by omega)) dX4_wake_49 (by decide) (fun hb49_37 => ?_) (fun hb49_37 => ?_)
    · refine TT_iconst hK dX4_wake_60 ?_
      refine TT_istore hK (lv' := [(4, vI 0), (3, vI z40_6), (2, vI z17_3), (0, vR 28), (1, vI p)]) (by decide) rfl dX4_wake_61 ?_
      refine TT_iload hK 0 rfl dX4_wake_63 ?_
      refine TT_iconst hK dX4_wake_65 ?_
      refine TT_icmp_ne hK (tgt := 75) (by decide) (by decide) dX4_wake_66 (by decide) (fun hb66_38 => ?_) (fun hb66_38 => ?_)
      · refine TT_sub [3, 4, 2, 1, 0] rfl ?_
        exact J75_7 z17_3 z40_6 0 (by first | omega | (simp [up, setR] <;> omega)) (by first | omega | (simp [up, setR] <;> omega)) (by first | omega | (simp [up, setR] <;> omega)) (by unfold sgX sgT sgA sgB; rw [← e_at17, ← e_at40]; (repeat' split) <;> omega) (by unfold sgT sgA sgB; rw [← e_at17, ← e_at40]; (repeat' split) <;> omega)
      · exact absurd hb66_38 (by decide)
    · refine TT_iload_n hK rfl 0 rfl dX4_wake_52 ?_
      refine TT_if_ge hK (tgt := 60) (irm (by omega) (by omega)) dX4_wake_53 (by decide) (fun hb53_39 => ?_) (fun hb53_39 => ?_)
      · refine TT_iconst hK dX4_wake_60 ?_
        refine TT_istore hK (lv' := [(4, vI 0), (3, vI z40_6), (2, vI z17_3), (0, vR 28), (1, vI p)]) (by decide) rfl dX4_wake_61 ?_
        refine TT_iload hK 0 rfl dX4_wake_63 ?_
        refine TT_iconst hK dX4_wake_65 ?_
        refine TT_icmp_ne hK (tgt := 75) (by decide) (by decide) dX4_wake_66 (by decide) (fun hb66_40 => ?_) (fun hb66_40 => ?_)
        · refine TT_sub [3, 4, 2, 1, 0] rfl ?_
          exact J75_7 z17_3 z40_6 0 (by first | omega | (simp [up, setR] <;> omega)) (by first | omega | (simp [up, setR] <;> omega)) (by first | omega | (simp [up, setR] <;> omega)) (by unfold sgX sgT sgA sgB; rw [← e_at17, ← e_at40]; (repeat' split) <;> omega) (by unfold sgT sgA sgB; rw [← e_at17, ← e_at40]; (repeat' split) <;> omega)
        · exact absurd hb66_40 (by decide)
      · refine TT_iconst hK dX4_wake_56 ?_
        refine TT_goto hK (tgt := 61) dX4_wake_57 (by decide) ?_
        refine TT_istore hK (lv' := [(4, vI 1), (3, vI z40_6), (2, vI z17_3), (0, vR 28), (1, vI p)]) (by decide) rfl dX4_wake_61 ?_
        refine TT_iload hK 0 rfl dX4_wake_63 ?_
        refine TT_iconst hK dX4_wake_65 ?_
        refine TT_icmp_ne hK (tgt := 75) (by decide) (by decide) dX4_wake_66 (by decide) (fun hb66_41 => ?_) (fun hb66_41 => ?_)
        · exact absurd hb66_41 (by decide)
        · refine TT_iload_n hK rfl 2 rfl dX4_wake_69 ?_
          refine TT_ineg hK dX4_wake_70 ?_
          refine TT_istore_n hK rfl (lv' := [(2, vI (-z17_3)), (4, vI 1), (3, vI z40_6), (0, vR 28), (1, vI p)]) (by decide) rfl dX4_wake_71 ?_
          refine TT_iload_n hK rfl 2 rfl dX4_wake_72 ?_
          refine TT_ineg hK dX4_wake_73 ?_
          refine TT_istore_n hK rfl (lv' := [(3, vI (-z40_6)), (2, vI (-z17_3)), (4, vI 1), (0, vR 28), (1, vI p)]) (by decide) rfl dX4_wake_74 ?_
          refine TT_sub [3, 4, 1, 0, 2] rfl ?_
          exact J75_7 (-z17_3) (-z40_6) 1 (by first | omega | (simp [up, setR] <;> omega)) (by first | omega | (simp [up, setR] <;> omega)) (by first | omega | (simp [up, setR] <;> omega)) (by unfold sgX sgT sgA sgB; rw [← e_at17, ← e_at40]; (repeat' split) <;> omega) (by unfold sgT sgA sgB; rw [← e_at17, ← e_at40]; (repeat' split) <;> omega)
set_option maxRecDepth 20000 in
theorem s_spreadColumn_e (f n : Int) (h : Hp_) (hT : TY h) (hf : 11 ≤ f ∧ f + 10 * (n - 1) ≤ 88) (hn : 0 ≤ n ∧ n ≤ 4) (hM : ∀ q : Int, 0 ≤ q → q < 100 → -4095 ≤ (h 29) q ∧ (h 29) q ≤ 4095) (hpl : 0 ≤ (h 28 9) ∧ (h 28 9) ≤ 20) : Ctr yX4_spreadColumn cX4_spreadColumn 6 none (rmd 3) ly ly 0 0 [vR 28, vI f, vI n] h (fun r h' => (TY h' ∧ FR [24, 25, 26, 30, 31, 32] h h') ∧ r = none ∧ (∀ s : TS_, RPQ (h 31) (h 32) (h 33) (h 24 3) (h 25) (h 26) s → RPQ (h' 31) (h' 32) (h 33) (h' 24 3) (h' 25) (h' 26)  (itT (spT (h 29) (h 28 8) (h 28 9)) f n.toNat s)) ∧ ((h' 24 4) = (h 24 4))) := by
  refine Ctr_of (by decide) (Nat.le_of_ble_eq_true rfl) ⟨Nat.le_refl _, Nat.le_refl _⟩ (fun K hK hQ _ => ?_)
  show TT K ly 0 0 0 [(0, vR 28), (1, vI f), (2, vI n)] [] h
  have hF : FR [24, 25, 26, 30, 31, 32] h h := FR_rf _ _
  refine TT_iconst hK dX4_spreadColumn_0 ?_
  refine TT_istore_n hK rfl (lv' := [(3, vI 0), (0, vR 28), (1, vI f), (2, vI n)]) (by decide) rfl dX4_spreadColumn_1 ?_
  have L2_1 : ∀ (k1 : Nat) (i : Int) (w2_1 : Hp_), TY w2_1 → FR [24, 25, 26, 30, 31, 32] h w2_1 → (0 ≤ i ∧ i ≤ n) → ((w2_1 28 8) = h 28 8 ∧ (w2_1 28 9) = h 28 9) → (∀ s : TS_, RPQ (h 31) (h 32) (h 33) (h 24 3) (h 25) (h 26) s → RPQ (w2_1 31) (w2_1 32) (h 33) (w2_1 24 3) (w2_1 25) (w2_1 26) (itT (spT (h 29) (h 28 8) (h 28 9)) f i.toNat s)) → ((w2_1 24 4) = h 24 4) → ((4 : Int) - i).toNat < k1 → TT K ly 0 0 2 [(0, vR 28), (1, vI f), (2, vI n), (3, vI i)] [] w2_1 := by
    intro k1
    induction k1 with
    | zero => intro i w2_1 hT2_1 hF2_1 hi k9 hR k24 hk1; exact absurd hk1 (Nat.not_lt_zero _)
    | succ k1 ih1 =>
      intro i w2_1 hT2_1 hF2_1 hi k9 hR k24 hk1
      refine TT_iload_n hK rfl 3 rfl dX4_spreadColumn_2 ?_
      refine TT_iload_n hK rfl 2 rfl dX4_spreadColumn_3 ?_
      refine TT_icmp_ge hK (tgt := 83) (irm (by omega) (by omega)) (irm (by omega) (by omega)) dX4_spreadColumn_4 (by decide) (fun hb4_2 => ?_) (fun hb4_2 => ?_)
      · refine TT_vret hK hQ ?_ dX4_spreadColumn_83
        have e3_24_3 : w2_1 24 3 = (w2_1 24) 3 := rfl
        have e4_24_4 : w2_1 24 4 = (w2_1 24) 4 := rfl
        exact ⟨⟨hT2_1, hF2_1⟩, rfl, (by rewrite [e3_24_3]; intro s hs; have q := hR s hs; rw [show i = n by omega] at q; exact q), (by rewrite [e4_24_4]; omega)⟩
      · refine TT_iload_n hK rfl 1 rfl dX4_spreadColumn_7 ?_
        refine TT_iload_n hK rfl 3 rfl dX4_spreadColumn_8 ?_
        refine TT_bipush hK (by decide) dX4_spreadColumn_9 ?_
        refine TT_imul hK dX4_spreadColumn_11 ?_
        refine TT_iadd hK dX4_spreadColumn_12 ?_
        refine TT_istore hK (lv' := [(4, vI (f + (i * 10))), (0, vR 28), (1, vI f), (2, vI n), (3, vI i)]) (by decide) rfl dX4_spreadColumn_13 ?_
        refine TT_aload_n hK rfl 1 rfl dX4_spreadColumn_15 ?_
        refine gf_X4_18 hK (by decide) rfl (q := 31) rfl rfl dX4_spreadColumn_16 ?_
        refine TT_iload hK 0 rfl dX4_spreadColumn_19 ?_
        refine TT_iald hK (o := 31) (n := 100) (by decide) rfl (by first | omega | (simp [up, setR] <;> omega)) (by first | omega | (simp [up, setR] <;> omega)) (v := (w2_1 31) (f + (i * 10))) rfl dX4_spreadColumn_21 ?_
        have r5 := ty_31 (i := f + (i * 10)) (v := (w2_1 31) (f + (i * 10))) hT2_1 rfl (by omega) (by omega)
        refine TT_if_ne hK (tgt := 34) (irm (by omega) (by omega)) dX4_spreadColumn_22 (by decide) (fun hb22_6 => ?_) (fun hb22_6 => ?_)
        · refine TT_iconst hK dX4_spreadColumn_34 ?_
          refine TT_istore hK (lv' := [(5, vI 0), (4, vI (f + (i * 10))), (0, vR 28), (1, vI f), (2, vI n), (3, vI i)]) (by decide) rfl dX4_spreadColumn_35 ?_
          refine TT_iload hK 0 rfl dX4_spreadColumn_37 ?_
          refine TT_if_le hK (tgt := 77) (by decide) dX4_spreadColumn_39 (by decide) (fun hb39_7 => ?_) (fun hb39_7 => ?_)
          · refine TT_iinc hK (v := i + 1) (lv' := [(3, vI (i + 1)), (5, vI 0), (4, vI (f + (i * 10))), (0, vR 28), (1, vI f), (2, vI n)]) 5 rfl rfl (by decide) rfl dX4_spreadColumn_77 ?_
            refine TT_goto hK (tgt := 2) dX4_spreadColumn_80 (by decide) ?_
            refine TT_sub [3, 4, 5, 0] rfl ?_
            have e8_28_8 : w2_1 28 8 = (h 28) 8 := rd_ (hF2_1 28 (by decide)) rfl
            have e9_28_9 : w2_1 28 9 = (h 28) 9 := rd_ (hF2_1 28 (by decide)) rfl
            have e10_24_3 : w2_1 24 3 = (w2_1 24) 3 := rfl
            have e11_24_4 : w2_1 24 4 = (w2_1 24) 4 := rfl
            exact ih1 (i + 1) w2_1 hT2_1 hF2_1 (by first | omega | (simp [up, setR] <;> omega)) (by rewrite [e8_28_8, e9_28_9]; first | omega | (simp [up, setR] <;> omega)) (by rewrite [e10_24_3]; intro s hs; have q := hR s hs; rw [show (i + 1).toNat = i.toNat + 1 by omega]; unfold itT; rw [show f + (i.toNat : Int) * 10 = f + i * 10 by omega]; first | exact spT_0 q (by first | exact ⟨fun _ => e_at28, fun q => by exfalso; omega⟩ | exact ⟨fun q => by exfalso; omega, fun _ => rfl⟩) (by omega) | exact spT_2 q ⟨fun _ => e_at28, fun q => by exfalso; omega⟩ (by omega) e_at59 tp_at62 (by omega) wk_at74 | exact spT_1 q ⟨fun _ => e_at28, fun q => by exfalso; omega⟩ (by omega) e_at59 tp_at62 (by omega)) (by rewrite [e11_24_4]; first | omega | (simp [up, setR] <;> omega)) (by first | omega | (simp [up, setR] <;> omega))
          · exact absurd hb39_7 (by decide)
        · refine TT_aload_n hK rfl 1 rfl dX4_spreadColumn_25 ?_
          refine TT_iload hK 0 rfl dX4_spreadColumn_26 ?_
          refine iv_X4_73 hK (s_contextOf_e (f + (i * 10)) w2_1 hT2_1 (by first | omega | (simp [up, setR] <;> omega))) (by decide) rfl ⟨by decide, by decide⟩ (by decide) rfl rfl (Nat.le_of_ble_eq_true rfl) ⟨by decide, by decide⟩ dX4_spreadColumn_28 ?_
          intro r9 g28_12 hp9
          obtain ⟨⟨hT_12, hG_12⟩, z28_12, hr9, hz_12, e_12⟩ := hp9
          rw [hr9]
          have hF_12 : FR [24, 25, 26, 30, 31, 32] h g28_12 := FR_tr hF2_1 hG_12 (by decide)
          rw [show w2_1 28 8 = (h 28) 8 from rd_ (hF2_1 28 (by decide)) rfl] at e_12
          have e_at28 := e_12
          show TT K ly 0 0 31 [(4, vI (f + (i * 10))), (0, vR 28), (1, vI f), (2, vI n), (3, vI i)] [vI z28_12] g28_12
          refine TT_goto hK (tgt := 35) dX4_spreadColumn_31 (by decide) ?_
          refine TT_istore hK (lv' := [(5, vI z28_12), (4, vI (f + (i * 10))), (0, vR 28), (1, vI f), (2, vI n), (3, vI i)]) (by decide) rfl dX4_spreadColumn_35 ?_
          refine TT_iload hK 0 rfl dX4_spreadColumn_37 ?_
          refine TT_if_le hK (tgt := 77) (irm (by omega) (by omega)) dX4_spreadColumn_39 (by decide) (fun hb39_13 => ?_) (fun hb39_13 => ?_)
          · refine TT_iinc hK (v := i + 1) (lv' := [(3, vI (i + 1)), (5, vI z28_12), (4, vI (f + (i * 10))), (0, vR 28), (1, vI f), (2, vI n)]) 5 rfl rfl (by decide) rfl dX4_spreadColumn_77 ?_
            refine TT_goto hK (tgt := 2) dX4_spreadColumn_80 (by decide) ?_
            refine TT_sub [3, 4, 5, 0] rfl ?_
            have e14_28_8 : g28_12 28 8 = (h 28) 8 := rd_ (((hG_12 28 (by decide))).trans (hF2_1 28 (by decide))) rfl
            have e15_28_9 : g28_12 28 9 = (h 28) 9 := rd_ (((hG_12 28 (by decide))).trans (hF2_1 28 (by decide))) rfl
            have e16_24_3 : g28_12 24 3 = (w2_1 24) 3 := rd_ (hG_12 24 (by decide)) rfl
            have e17_25 : g28_12 25 = w2_1 25 := (hG_12 25 (by decide))
            have e18_26 : g28_12 26 = w2_1 26 := (hG_12 26 (by decide))
            have e19_31 : g28_12 31 = w2_1 31 := (hG_12 31 (by decide))
            have e20_32 : g28_12 32 = w2_1 32 := (hG_12 32 (by decide))
            have e21_24_4 : g28_12 24 4 = (w2_1 24) 4 := rd_ (hG_12 24 (by decide)) rfl
            exact ih1 (i + 1) g28_12 hT_12 hF_12 (by first | omega | (simp [up, setR] <;> omega)) (by rewrite [e14_28_8, e15_28_9]; first | omega | (simp [up, setR] <;> omega)) (by rewrite [e16_24_3, e17_25, e18_26, e19_31, e20_32]; intro s hs; have q := hR s hs; rw [show (i + 1).toNat = i.toNat + 1 by omega]; unfold itT; rw [show f + (i.toNat : Int) * 10 = f + i * 10 by omega]; first | exact spT_0 q (by first | exact ⟨fun _ => e_at28, fun q => by exfalso; omega⟩ | exact ⟨fun q => by exfalso; omega, fun _ => rfl⟩) (by omega) | exact spT_2 q ⟨fun _ => e_at28, fun q => by exfalso; omega⟩ (by omega) e_at59 tp_at62 (by omega) wk_at74 | exact spT_1 q ⟨fun _ => e_at28, fun q => by exfalso; omega⟩ (by omega) e_at59 tp_at62 (by omega)) (by rewrite [e21_24_4]; first | omega | (simp [up, setR] <;> omega)) (by first | omega | (simp [up, setR] <;> omega))
          · refine TT_aload_n hK rfl 2 rfl dX4_spreadColumn_42 ?_
            refine gf_X4_21 hK (by decide) rfl (q := 32) rfl rfl dX4_spreadColumn_43 ?_
            refine TT_iload hK 1 rfl dX4_spreadColumn_46 ?_
            refine TT_iconst hK dX4_spreadColumn_48 ?_
            refine TT_zast hK (o := 32) (n := 100) (by decide) rfl (by omega) (by omega) (by first | decide | omega) dX4_spreadColumn_49 ?_
            refine TT_hp (h' := setO g28_12 32 (fup (w2_1 32) (f + (i * 10)) 1)) (up_can (hG_12 32 (by decide)) rfl rfl) ?_
            have hT_22 : TY (setO g28_12 32 (fup (w2_1 32) (f + (i * 10)) 1)) := tu_32 hT_12 (show up g28_12 32 (f + (i * 10)) 1 = (setO g28_12 32 (fup (w2_1 32) (f + (i * 10)) 1)) from up_can (hG_12 32 (by decide)) rfl rfl) (by omega)
            have hF_22 : FR [24, 25, 26, 30, 31, 32] h (setO g28_12 32 (fup (w2_1 32) (f + (i * 10)) 1)) := FR_up (show up g28_12 32 (f + (i * 10)) 1 = (setO g28_12 32 (fup (w2_1 32) (f + (i * 10)) 1)) from up_can (hG_12 32 (by decide)) rfl rfl) hF_12 (by decide)
            refine TT_aload_n hK rfl 2 rfl dX4_spreadColumn_50 ?_
            refine gf_X4_28 hK (by decide) rfl (q := 24) rfl rfl dX4_spreadColumn_51 ?_
            refine TT_iload hK 0 rfl dX4_spreadColumn_54 ?_
            refine TT_aload_n hK rfl 2 rfl dX4_spreadColumn_56 ?_
            refine TT_iload hK 1 rfl dX4_spreadColumn_57 ?_
            have e23_29 : (setO g28_12 32 (fup (w2_1 32) (f + (i * 10)) 1)) 29 = h 29 := (sOf_ne _ _ (by decide)).trans (((hG_12 29 (by decide))).trans (hF2_1 29 (by decide)))
            have e24_28_9 : (setO g28_12 32 (fup (w2_1 32) (f + (i * 10)) 1)) 28 9 = (h 28) 9 := rd_ ((sOf_ne _ _ (by decide)).trans (((hG_12 28 (by decide))).trans (hF2_1 28 (by decide)))) rfl
            refine iv_X4_77 hK (s_meantBit_e (f + (i * 10)) (setO g28_12 32 (fup (w2_1 32) (f + (i * 10)) 1)) hT_22 (by first | omega | (simp [up, setR] <;> omega)) (by rewrite [e23_29]; first | assumption | exact hM) (by rewrite [e24_28_9]; first | assumption | exact hpl | omega)) (by decide) rfl ⟨by decide, by decide⟩ (by decide) rfl rfl (Nat.le_of_ble_eq_true rfl) ⟨by decide, by decide⟩ dX4_spreadColumn_59 ?_
            intro r9 g59_25 hp9
            obtain ⟨⟨hT_25, hG_25⟩, z59_25, hr9, hz_25, e_25⟩ := hp9
            rw [hr9]
            have hF_25 : FR [24, 25, 26, 30, 31, 32] h g59_25 := FR_tr hF_22 hG_25 (by decide)
            rw [show (setO g28_12 32 (fup (w2_1 32) (f + (i * 10)) 1)) 28 9 = (h 28) 9 from rd_ ((sOf_ne _ _ (by decide)).trans (((hG_12 28 (by decide))).trans (hF2_1 28 (by decide)))) rfl] at e_25
            rw [show (setO g28_12 32 (fup (w2_1 32) (f + (i * 10)) 1)) 29 = h 29 from (sOf_ne _ _ (by decide)).trans (((hG_12 29 (by decide))).trans (hF2_1 29 (by decide)))] at e_25
            have e_at59 := e_25
            show TT K ly 0 0 62 [(5, vI z28_12), (4, vI (f + (i * 10))), (0, vR 28), (1, vI f), (2, vI n), (3, vI i)] [vI z59_25, vI z28_12, vR 24] g59_25
            refine iv_X4_80_X7 hK (s_tape_e z28_12 z59_25 g59_25 hT_25 (by first | omega | (simp [up, setR] <;> omega)) (by first | omega | (simp [up, setR] <;> omega))) (by decide) rfl ⟨by decide, by decide⟩ (by decide) rfl rfl (Nat.le_of_ble_eq_true rfl) ⟨by decide, by decide⟩ dX4_spreadColumn_62 ?_
            intro r9 g62_26 hp9
            obtain ⟨⟨hT_26, hG_26⟩, z62_26, hr9, hz_26, e_26, tp_26, k24_26⟩ := hp9
            rw [hr9]
            have hF_26 : FR [24, 25, 26, 30, 31, 32] h g62_26 := FR_tr hF_25 hG_26 (by decide)
            rw [show g59_25 24 3 = (w2_1 24) 3 from rd_ (((hG_25 24 (by decide))).trans ((sOf_ne _ _ (by decide)).trans (hG_12 24 (by decide)))) rfl] at tp_26
            rw [show g59_25 25 = w2_1 25 from ((hG_25 25 (by decide))).trans ((sOf_ne _ _ (by decide)).trans (hG_12 25 (by decide)))] at tp_26
            rw [show g59_25 26 = w2_1 26 from ((hG_25 26 (by decide))).trans ((sOf_ne _ _ (by decide)).trans (hG_12 26 (by decide)))] at tp_26
            rw [show g59_25 24 4 = (w2_1 24) 4 from rd_ (((hG_25 24 (by decide))).trans ((sOf_ne _ _ (by decide)).trans (hG_12 24 (by decide)))) rfl] at k24_26
            have e_at62 := e_26
            have tp_at62 := tp_26
            show TT K ly 0 0 67 [(5, vI z28_12), (4, vI (f + (i * 10))), (0, vR 28), (1, vI f), (2, vI n), (3, vI i)] [vI z62_26] g62_26
            refine TT_iconst hK dX4_spreadColumn_67 ?_
            refine TT_icmp_ne hK (tgt := 77) (irm (by omega) (by omega)) (by decide) dX4_spreadColumn_68 (by decide) (fun hb68_27 => ?_) (fun hb68_27 => ?_)
            · refine TT_iinc hK (v := i + 1) (lv' := [(3, vI (i + 1)), (5, vI z28_12), (4, vI (f + (i * 10))), (0, vR 28), (1, vI f), (2, vI n)]) 5 rfl rfl (by decide) rfl dX4_spreadColumn_77 ?_
              refine TT_goto hK (tgt := 2) dX4_spreadColumn_80 (by decide) ?_
              refine TT_sub [3, 4, 5, 0] rfl ?_
              have e28_28_8 : g62_26 28 8 = (h 28) 8 := rd_ (((hG_26 28 (by decide))).trans (((hG_25 28 (by decide))).trans ((sOf_ne _ _ (by decide)).trans (((hG_12 28 (by decide))).trans (hF2_1 28 (by decide)))))) rfl
              have e29_28_9 : g62_26 28 9 = (h 28) 9 := rd_ (((hG_26 28 (by decide))).trans (((hG_25 28 (by decide))).trans ((sOf_ne _ _ (by decide)).trans (((hG_12 28 (by decide))).trans (hF2_1 28 (by decide)))))) rfl
              have e30_24_3 : g62_26 24 3 = (g62_26 24) 3 := rfl
              have e31_31 : g62_26 31 = w2_1 31 := ((hG_26 31 (by decide))).trans (((hG_25 31 (by decide))).trans ((sOf_ne _ _ (by decide)).trans (hG_12 31 (by decide))))
              have e32_32 : g62_26 32 = fup (w2_1 32) (f + (i * 10)) 1 := ((hG_26 32 (by decide))).trans (((hG_25 32 (by decide))).trans (sOf_eq _ _ _))
              have e33_24_4 : g62_26 24 4 = (g62_26 24) 4 := rfl
              exact ih1 (i + 1) g62_26 hT_26 hF_26 (by first | omega | (simp [up, setR] <;> omega)) (by rewrite [e28_28_8, e29_28_9]; first | omega | (simp [up, setR] <;> omega)) (by rewrite [e30_24_3, e31_31, e32_32]; intro s hs; have q := hR s hs; rw [show (i + 1).toNat = i.toNat + 1 by omega]; unfold itT; rw [show f + (i.toNat : Int) * 10 = f + i * 10 by omega]; first | exact spT_0 q (by first | exact ⟨fun _ => e_at28, fun q => by exfalso; omega⟩ | exact ⟨fun q => by exfalso; omega, fun _ => rfl⟩) (by omega) | exact spT_2 q ⟨fun _ => e_at28, fun q => by exfalso; omega⟩ (by omega) e_at59 tp_at62 (by omega) wk_at74 | exact spT_1 q ⟨fun _ => e_at28, fun q => by exfalso; omega⟩ (by omega) e_at59 tp_at62 (by omega)) (by rewrite [e33_24_4]; first | omega | (simp [up, setR] <;> omega)) (by first | omega | (simp [up, setR] <;> omega))
            · refine TT_aload_n hK rfl 2 rfl dX4_spreadColumn_71 ?_
              refine TT_iload hK 1 rfl dX4_spreadColumn_72 ?_
              refine iv_X4_85 hK (s_wake_e (f + (i * 10)) g62_26 hT_26 (by first | omega | (simp [up, setR] <;> omega))) (by decide) rfl ⟨by decide, by decide⟩ (by decide) rfl rfl (Nat.le_of_ble_eq_true rfl) ⟨by decide, by decide⟩ dX4_spreadColumn_74 ?_
              intro r9 g74_34 hp9
              obtain ⟨⟨hT_34, hG_34⟩, hr9, wk_34, k24_34⟩ := hp9
              rw [hr9]
              have hF_34 : FR [24, 25, 26, 30, 31, 32] h g74_34 := FR_tr hF_26 hG_34 (by decide)
              rw [show g62_26 24 3 = (g62_26 24) 3 from rfl] at wk_34
              rw [show g62_26 29 = h 29 from ((hG_26 29 (by decide))).trans (((hG_25 29 (by decide))).trans ((sOf_ne _ _ (by decide)).trans (((hG_12 29 (by decide))).trans (hF2_1 29 (by decide)))))] at wk_34
              rw [show g62_26 31 = w2_1 31 from ((hG_26 31 (by decide))).trans (((hG_25 31 (by decide))).trans ((sOf_ne _ _ (by decide)).trans (hG_12 31 (by decide))))] at wk_34
              rw [show g62_26 32 = fup (w2_1 32) (f + (i * 10)) 1 from ((hG_26 32 (by decide))).trans (((hG_25 32 (by decide))).trans (sOf_eq _ _ _))] at wk_34
              rw [show g62_26 33 = h 33 from ((hG_26 33 (by decide))).trans (((hG_25 33 (by decide))).trans ((sOf_ne _ _ (by decide)).trans (((hG_12 33 (by decide))).trans (hF2_1 33 (by decide)))))] at wk_34
              rw [show g62_26 24 4 = (g62_26 24) 4 from rfl] at k24_34
              have wk_at74 := wk_34
              show TT K ly 0 0 77 [(5, vI z28_12), (4, vI (f + (i * 10))), (0, vR 28), (1, vI f), (2, vI n), (3, vI i)] [] g74_34
              refine TT_iinc hK (v := i + 1) (lv' := [(3, vI (i + 1)), (5, vI z28_12), (4, vI (f + (i * 10))), (0, vR 28), (1, vI f), (2, vI n)]) 5 rfl rfl (by decide) rfl dX4_spreadColumn_77 ?_
              refine TT_goto hK (tgt := 2) dX4_spreadColumn_80 (by decide) ?_
              refine TT_sub [3, 4, 5, 0] rfl ?_
              have e35_28_8 : g74_34 28 8 = (h 28) 8 := rd_ (((hG_34 28 (by decide))).trans (((hG_26 28 (by decide))).trans (((hG_25 28 (by decide))).trans ((sOf_ne _ _ (by decide)).trans (((hG_12 28 (by decide))).trans (hF2_1 28 (by decide))))))) rfl
              have e36_28_9 : g74_34 28 9 = (h 28) 9 := rd_ (((hG_34 28 (by decide))).trans (((hG_26 28 (by decide))).trans (((hG_25 28 (by decide))).trans ((sOf_ne _ _ (by decide)).trans (((hG_12 28 (by decide))).trans (hF2_1 28 (by decide))))))) rfl
              have e37_24_3 : g74_34 24 3 = (g74_34 24) 3 := rfl
              have e38_32 : g74_34 32 = fup (w2_1 32) (f + (i * 10)) 1 := ((hG_34 32 (by decide))).trans (((hG_26 32 (by decide))).trans (((hG_25 32 (by decide))).trans (sOf_eq _ _ _)))
              have e39_24_4 : g74_34 24 4 = (g74_34 24) 4 := rfl
              exact ih1 (i + 1) g74_34 hT_34 hF_34 (by first | omega | (simp [up, setR] <;> omega)) (by rewrite [e35_28_8, e36_28_9]; first | omega | (simp [up, setR] <;> omega)) (by rewrite [e37_24_3, e38_32]; intro s hs; have q := hR s hs; rw [show (i + 1).toNat = i.toNat + 1 by omega]; unfold itT; rw [show f + (i.toNat : Int) * 10 = f + i * 10 by omega]; first | exact spT_0 q (by first | exact ⟨fun _ => e_at28, fun q => by exfalso; omega⟩ | exact ⟨fun q => by exfalso; omega, fun _ => rfl⟩) (by omega) | exact spT_2 q ⟨fun _ => e_at28, fun q => by exfalso; omega⟩ (by omega) e_at59 tp_at62 (by omega) wk_at74 | exact spT_1 q ⟨fun _ => e_at28, fun q => by exfalso; omega⟩ (by omega) e_at59 tp_at62 (by omega)) (by rewrite [e39_24_4]; first | omega | (simp [up, setR] <;> omega)) (by first | omega | (simp [up, setR] <;> omega))
  refine TT_sub [1, 2, 3, 0] rfl ?_
  have e40_28_8 : h 28 8 = (h 28) 8 := rfl
  have e41_28_9 : h 28 9 = (h 28) 9 := rfl
  have e42_24_3 : h 24 3 = (h 24) 3 := rfl
  have e43_24_4 : h 24 4 = (h 24) 4 := rfl
  exact L2_1 ((((4 : Int) - 0).toNat) + 1) 0 h hT hF (by first | omega | (simp [up, setR] <;> omega)) (by rewrite [e40_28_8, e41_28_9]; first | omega | (simp [up, setR] <;> omega)) (by rewrite [e42_24_3]; exact fun s hs => hs) (by rewrite [e43_24_4]; first | omega | (simp [up, setR] <;> omega)) (Nat.lt_succ_self _)

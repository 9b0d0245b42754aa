theorem fup_2 {o : Int → Int} {a x y : Int} : fup (fup o a x) a y = fup o a y := by
  funext j
  by_cases e : j = a
  · rw [e, fup_eq, fup_eq]
  · rw [fup_ne _ _ e, fup_ne _ _ e, fup_ne _ _ e]
theorem BT_r {a u v : Int} {o : Int → Int} (h : PBQ (a, u, o)) (hv : 0 ≤ v ∧ v ≤ 1) : 0 ≤ (if u = 0 then 0 else o a) + v * 2 ^ (7 - u).toNat ∧ (if u = 0 then 0 else o a) + v * 2 ^ (7 - u).toNat ≤ 255 := by
  have k := (bitS_q h hv).2
  have e : (bitS (a, u, o) v).2.2 a = (if u = 0 then 0 else o a) + v * 2 ^ (7 - u).toNat := fup_eq _ _ _
  rw [← e]
  exact k
theorem BT_9 {a u a2 u2 v : Int} {o o2 : Int → Int} (e1 : a2 = if u = 7 then a + 1 else a) (e2 : u2 = if u = 7 then 0 else u + 1) (e3 : o2 = fup o a ((if u = 0 then 0 else o a) + v * 2 ^ (7 - u).toNat)) : ((a2, u2, o2) : PBS_) = bitS (a, u, o) v := by
  rw [e1, e2, e3]
  rfl
theorem BT_P {a u a2 u2 v : Int} {o o2 : Int → Int} (hP : PBQ (a, u, o)) (e1 : a2 = if u = 7 then a + 1 else a) (e2 : u2 = if u = 7 then 0 else u + 1) (hv : 0 ≤ v ∧ v ≤ 1) (e3 : o2 = fup o a ((if u = 0 then 0 else o a) + v * 2 ^ (7 - u).toNat)) : PBQ (a2, u2, o2) := by
  rw [BT_9 e1 e2 e3]
  exact (bitS_q hP hv).1
theorem BT_S {a u a2 u2 v : Int} {k : Nat} {o o2 : Int → Int} {z : PBS_} (hS : putS v (k + 1) (a, u, o) = z) (e1 : a2 = if u = 7 then a + 1 else a) (e2 : u2 = if u = 7 then 0 else u + 1) (e3 : o2 = fup o a ((if u = 0 then 0 else o a) + v / 2 ^ k % 2 * 2 ^ (7 - u).toNat)) : putS v k (a2, u2, o2) = z := by
  rw [BT_9 e1 e2 e3]
  exact hS
/-- two states of putting that say the same -/
def PBE (s t : PBS_) : Prop := s.1 = t.1 ∧ s.2.1 = t.2.1 ∧ ∀ j : Int, 0 ≤ j → j < t.1 + (if 0 < t.2.1 then 1 else 0) → s.2.2 j = t.2.2 j
theorem bitS_E {s t : PBS_} (v : Int) (h : PBE s t) (ht : PBQ t) : PBE (bitS s v) (bitS t v) := by
  obtain ⟨a, u, o⟩ := s
  obtain ⟨a2, u2, p⟩ := t
  obtain ⟨e1, e2, e3⟩ := h
  obtain ⟨h1, h2, -⟩ := ht
  dsimp only at e1 e2 e3 h1 h2
  subst e1 e2
  have key : (if u = 0 then 0 else o a) = (if u = 0 then 0 else p a) := by
    by_cases z : u = 0
    · rw [if_pos z, if_pos z]
    · rw [if_neg z, if_neg z]
      exact e3 a h1 (by rw [if_pos (by omega)]; omega)
  refine ⟨rfl, rfl, fun j j0 j1 => ?_⟩
  have j2 : j < (if u = 7 then a + 1 else a) + (if 0 < (if u = 7 then 0 else u + 1) then 1 else 0) := j1
  have j3 : j ≤ a := by
    by_cases c : u = 7
    · rw [if_pos c, if_pos c, if_neg (by omega)] at j2; omega
    · rw [if_neg c, if_neg c] at j2
      split at j2 <;> omega
  show fup o a ((if u = 0 then 0 else o a) + v * 2 ^ (7 - u).toNat) j = fup p a ((if u = 0 then 0 else p a) + v * 2 ^ (7 - u).toNat) j
  by_cases e : j = a
  · rw [e, fup_eq, fup_eq, key]
  · rw [fup_ne _ _ e, fup_ne _ _ e]
    refine e3 j j0 ?_
    have : (0 : Int) ≤ (if 0 < u then 1 else 0) := by split <;> omega
    omega
theorem putS_E : ∀ (k : Nat) {s t : PBS_} (v : Int), PBE s t → PBQ t → PBE (putS v k s) (putS v k t)
  | 0, _, _, _, h, _ => h
  | k + 1, _, _, v, h, ht => putS_E k v (bitS_E (v / 2 ^ k % 2) h ht) (bitS_q ht (v01 v k)).1
/-- the reference's row of bytes, while bits are put -/
def RBR (a u : Int) (o : Int → Int) (s : PBS_) : Prop := PBE (a, u, o) s
theorem RBR_P {a u : Int} {o : Int → Int} {s : PBS_} (h : RBR a u o s) (hs : PBQ s) : PBQ (a, u, o) := by
  obtain ⟨e1, e2, e3⟩ := h
  obtain ⟨h1, h2, h3⟩ := hs
  dsimp only at e1 e2 e3
  refine ⟨by show 0 ≤ a; omega, by show 0 ≤ u ∧ u ≤ 7; omega, fun q => ?_⟩
  have q2 : 0 < u := q
  have k := e3 s.1 h1 (by rw [if_pos (by omega)]; omega)
  show (0 ≤ o a ∧ o a ≤ 255) ∧ o a % 2 ^ (8 - u).toNat = 0
  rw [e1, e2, k]
  exact h3 (by omega)
theorem RBR_put {a u a2 u2 v : Int} {k : Nat} {o o2 : Int → Int} {s : PBS_} (h : RBR a u o s) (hs : PBQ s) (e : ((a2, u2, o2) : PBS_) = putS v k (a, u, o)) : RBR a2 u2 o2 (putS v k s) ∧ PBQ (putS v k s) := by
  refine ⟨?_, ?_⟩
  · show PBE (a2, u2, o2) _
    rw [e]
    exact putS_E k v h hs
  · have key : ∀ (k : Nat) {t : PBS_}, PBQ t → PBQ (putS v k t) := by
      intro k
      induction k with
      | zero => intro t ht; exact ht
      | succ k ih => intro t ht; exact ih (bitS_q ht (v01 v k)).1
    exact key k hs
set_option maxRecDepth 20000 in
theorem s_stepBit_e (h : Hp_) (hT : TY h) (ha : (h 73 42) ≤ 4399) : Ctr yX12_stepBit cX12_stepBit 1 none (rmd 0) ly ly 0 0 [vR 73] h (fun r h' => (TY h' ∧ FRM [73] [42, 43] h h') ∧ r = none ∧ (8 * (h' 73 42) + (h' 73 43) = 8 * (h 73 42) + (h 73 43) + 1) ∧ ((h' 73 42) = (if (h 73 43) = 7 then (h 73 42) + 1 else (h 73 42)) ∧ (h' 73 43) = (if (h 73 43) = 7 then 0 else (h 73 43) + 1))) := by
  refine Ctr_of (by decide) (Nat.le_of_ble_eq_true rfl) ⟨Nat.le_refl _, Nat.le_refl _⟩ (fun K hK hQ _ => ?_)
  show TT K ly 0 0 0 [(0, vR 73)] [] h
  have hF : FRM [73] [42, 43] h h := FRM_rf _ _ _
  refine TT_aload_n hK rfl 0 rfl dX12_stepBit_0 ?_
  refine TT_aload_n hK rfl 0 rfl dX12_stepBit_1 ?_
  refine gf_X12_314 hK (by decide) rfl (v := (h 73) 43) rfl dX12_stepBit_2 ?_
  have r1 := ty_73_43 (v := (h 73) 43) hT rfl
  refine TT_bipush hK (by decide) dX12_stepBit_5 ?_
  refine TT_icmp_ne hK (tgt := 14) (irm (by omega) (by omega)) (by decide) dX12_stepBit_7 (by decide) (fun hb7_2 => ?_) (fun hb7_2 => ?_)
  · refine TT_aload_n hK rfl 0 rfl dX12_stepBit_14 ?_
    refine gf_X12_314 hK (by decide) rfl (v := (h 73) 43) rfl dX12_stepBit_15 ?_
    refine TT_iconst hK dX12_stepBit_18 ?_
    refine TT_iadd hK dX12_stepBit_19 ?_
    refine pf_X12_314 hK (by decide) rfl dX12_stepBit_20 ?_
    refine TT_hp (h' := setO h 73 (fup (h 73) 43 (((h 73) 43) + 1))) (up_can rfl rfl rfl) ?_
    have hT_3 : TY (setO h 73 (fup (h 73) 43 (((h 73) 43) + 1))) := tu_73_43 hT (show up h 73 43 (((h 73) 43) + 1) = (setO h 73 (fup (h 73) 43 (((h 73) 43) + 1))) from up_can rfl rfl rfl) (by omega)
    have hF_3 : FRM [73] [42, 43] h (setO h 73 (fup (h 73) 43 (((h 73) 43) + 1))) := FRM_f (show up h 73 43 (((h 73) 43) + 1) = (setO h 73 (fup (h 73) 43 (((h 73) 43) + 1))) from up_can rfl rfl rfl) hF (by decide) (by decide)
    refine TT_aload_n hK rfl 0 rfl dX12_stepBit_23 ?_
    refine TT_aload_n hK rfl 0 rfl dX12_stepBit_24 ?_
    refine gf_X12_314 hK (by decide) rfl (v := ((h 73) 43) + 1) (rd_ (sOf_eq _ _ _) (fup_eq _ _ _)) dX12_stepBit_25 ?_
    have r4 := ty_73_43 (v := ((h 73) 43) + 1) hT_3 (rd_ (sOf_eq _ _ _) (fup_eq _ _ _))
    refine TT_if_ne hK (tgt := 40) (irm (by omega) (by omega)) dX12_stepBit_28 (by decide) (fun hb28_5 => ?_) (fun hb28_5 => ?_)
    · refine TT_aload_n hK rfl 0 rfl dX12_stepBit_40 ?_
      refine gf_X12_311 hK (by decide) rfl (v := (h 73) 42) (rd_ (sOf_eq _ _ _) (fup_ne _ _ (by decide))) dX12_stepBit_41 ?_
      have r6 := ty_73_42 (v := (h 73) 42) hT_3 (rd_ (sOf_eq _ _ _) (fup_ne _ _ (by decide)))
      refine pf_X12_311 hK (by decide) rfl dX12_stepBit_44 ?_
      refine TT_hp (h' := setO h 73 (fup (fup (h 73) 42 ((h 73) 42)) 43 (((h 73) 43) + 1))) (up_can (sOf_eq _ _ _) (fup_comm _ _ _ (by decide)) (setO_same _ _ _ _)) ?_
      have hT_7 : TY (setO h 73 (fup (fup (h 73) 42 ((h 73) 42)) 43 (((h 73) 43) + 1))) := tu_73_42 hT_3 (show up (setO h 73 (fup (h 73) 43 (((h 73) 43) + 1))) 73 42 ((h 73) 42) = (setO h 73 (fup (fup (h 73) 42 ((h 73) 42)) 43 (((h 73) 43) + 1))) from up_can (sOf_eq _ _ _) (fup_comm _ _ _ (by decide)) (setO_same _ _ _ _)) (by omega)
      have hF_7 : FRM [73] [42, 43] h (setO h 73 (fup (fup (h 73) 42 ((h 73) 42)) 43 (((h 73) 43) + 1))) := FRM_f (show up (setO h 73 (fup (h 73) 43 (((h 73) 43) + 1))) 73 42 ((h 73) 42) = (setO h 73 (fup (fup (h 73) 42 ((h 73) 42)) 43 (((h 73) 43) + 1))) from up_can (sOf_eq _ _ _) (fup_comm _ _ _ (by decide)) (setO_same _ _ _ _)) hF_3 (by decide) (by decide)
      refine TT_vret hK hQ ?_ dX12_stepBit_47
      have e8_73_42 : (setO h 73 (fup (fup (h 73) 42 ((h 73) 42)) 43 (((h 73) 43) + 1))) 73 42 = (h 73) 42 := rd_ (sOf_eq _ _ _) ((fup_ne _ _ (by decide)).trans (fup_eq _ _ _))
      have e9_73_43 : (setO h 73 (fup (fup (h 73) 42 ((h 73) 42)) 43 (((h 73) 43) + 1))) 73 43 = ((h 73) 43) + 1 := rd_ (sOf_eq _ _ _) (fup_eq _ _ _)
      have e10_73_42 : (setO h 73 (fup (fup (h 73) 42 ((h 73) 42)) 43 (((h 73) 43) + 1))) 73 42 = (h 73) 42 := rd_ (sOf_eq _ _ _) ((fup_ne _ _ (by decide)).trans (fup_eq _ _ _))
      have e11_73_43 : (setO h 73 (fup (fup (h 73) 42 ((h 73) 42)) 43 (((h 73) 43) + 1))) 73 43 = ((h 73) 43) + 1 := rd_ (sOf_eq _ _ _) (fup_eq _ _ _)
      exact ⟨⟨hT_7, hF_7⟩, rfl, (by rewrite [e8_73_42, e9_73_43]; omega), (by rewrite [e10_73_42, e11_73_43]; first | (exfalso; omega) | exact ⟨by first | rw [if_pos (by omega)] | rw [if_neg (by omega)], by first | rw [if_pos (by omega)] | rw [if_neg (by omega)]⟩ | (constructor <;> split <;> omega))⟩
    · refine TT_aload_n hK rfl 0 rfl dX12_stepBit_31 ?_
      refine gf_X12_311 hK (by decide) rfl (v := (h 73) 42) (rd_ (sOf_eq _ _ _) (fup_ne _ _ (by decide))) dX12_stepBit_32 ?_
      have r12 := ty_73_42 (v := (h 73) 42) hT_3 (rd_ (sOf_eq _ _ _) (fup_ne _ _ (by decide)))
      refine TT_iconst hK dX12_stepBit_35 ?_
      refine TT_iadd hK dX12_stepBit_36 ?_
      refine TT_goto hK (tgt := 44) dX12_stepBit_37 (by decide) ?_
      refine pf_X12_311 hK (by decide) rfl dX12_stepBit_44 ?_
      refine TT_hp (h' := setO h 73 (fup (fup (h 73) 42 (((h 73) 42) + 1)) 43 (((h 73) 43) + 1))) (up_can (sOf_eq _ _ _) (fup_comm _ _ _ (by decide)) (setO_same _ _ _ _)) ?_
      have hT_13 : TY (setO h 73 (fup (fup (h 73) 42 (((h 73) 42) + 1)) 43 (((h 73) 43) + 1))) := tu_73_42 hT_3 (show up (setO h 73 (fup (h 73) 43 (((h 73) 43) + 1))) 73 42 (((h 73) 42) + 1) = (setO h 73 (fup (fup (h 73) 42 (((h 73) 42) + 1)) 43 (((h 73) 43) + 1))) from up_can (sOf_eq _ _ _) (fup_comm _ _ _ (by decide)) (setO_same _ _ _ _)) (by omega)
      have hF_13 : FRM [73] [42, 43] h (setO h 73 (fup (fup (h 73) 42 (((h 73) 42) + 1)) 43 (((h 73) 43) + 1))) := FRM_f (show up (setO h 73 (fup (h 73) 43 (((h 73) 43) + 1))) 73 42 (((h 73) 42) + 1) = (setO h 73 (fup (fup (h 73) 42 (((h 73) 42) + 1)) 43 (((h 73) 43) + 1))) from up_can (sOf_eq _ _ _) (fup_comm _ _ _ (by decide)) (setO_same _ _ _ _)) hF_3 (by decide) (by decide)
      refine TT_vret hK hQ ?_ dX12_stepBit_47
      have e14_73_42 : (setO h 73 (fup (fup (h 73) 42 (((h 73) 42) + 1)) 43 (((h 73) 43) + 1))) 73 42 = ((h 73) 42) + 1 := rd_ (sOf_eq _ _ _) ((fup_ne _ _ (by decide)).trans (fup_eq _ _ _))
      have e15_73_43 : (setO h 73 (fup (fup (h 73) 42 (((h 73) 42) + 1)) 43 (((h 73) 43) + 1))) 73 43 = ((h 73) 43) + 1 := rd_ (sOf_eq _ _ _) (fup_eq _ _ _)
      have e16_73_42 : (setO h 73 (fup (fup (h 73) 42 (((h 73) 42) + 1)) 43 (((h 73) 43) + 1))) 73 42 = ((h 73) 42) + 1 := rd_ (sOf_eq _ _ _) ((fup_ne _ _ (by decide)).trans (fup_eq _ _ _))
      have e17_73_43 : (setO h 73 (fup (fup (h 73) 42 (((h 73) 42) + 1)) 43 (((h 73) 43) + 1))) 73 43 = ((h 73) 43) + 1 := rd_ (sOf_eq _ _ _) (fup_eq _ _ _)
      exact ⟨⟨hT_13, hF_13⟩, rfl, (by rewrite [e14_73_42, e15_73_43]; omega), (by rewrite [e16_73_42, e17_73_43]; first | (exfalso; omega) | exact ⟨by first | rw [if_pos (by omega)] | rw [if_neg (by omega)], by first | rw [if_pos (by omega)] | rw [if_neg (by omega)]⟩ | (constructor <;> split <;> omega))⟩
  · refine TT_iconst hK dX12_stepBit_10 ?_
    refine TT_goto hK (tgt := 20) dX12_stepBit_11 (by decide) ?_
    refine pf_X12_314 hK (by decide) rfl dX12_stepBit_20 ?_
    refine TT_hp (h' := setO h 73 (fup (h 73) 43 0)) (up_can rfl rfl rfl) ?_
    have hT_18 : TY (setO h 73 (fup (h 73) 43 0)) := tu_73_43 hT (show up h 73 43 0 = (setO h 73 (fup (h 73) 43 0)) from up_can rfl rfl rfl) (by omega)
    have hF_18 : FRM [73] [42, 43] h (setO h 73 (fup (h 73) 43 0)) := FRM_f (show up h 73 43 0 = (setO h 73 (fup (h 73) 43 0)) from up_can rfl rfl rfl) hF (by decide) (by decide)
    refine TT_aload_n hK rfl 0 rfl dX12_stepBit_23 ?_
    refine TT_aload_n hK rfl 0 rfl dX12_stepBit_24 ?_
    refine gf_X12_314 hK (by decide) rfl (v := 0) (rd_ (sOf_eq _ _ _) (fup_eq _ _ _)) dX12_stepBit_25 ?_
    refine TT_if_ne hK (tgt := 40) (by decide) dX12_stepBit_28 (by decide) (fun hb28_19 => ?_) (fun hb28_19 => ?_)
    · exact absurd hb28_19 (by decide)
    · refine TT_aload_n hK rfl 0 rfl dX12_stepBit_31 ?_
      refine gf_X12_311 hK (by decide) rfl (v := (h 73) 42) (rd_ (sOf_eq _ _ _) (fup_ne _ _ (by decide))) dX12_stepBit_32 ?_
      have r20 := ty_73_42 (v := (h 73) 42) hT_18 (rd_ (sOf_eq _ _ _) (fup_ne _ _ (by decide)))
      refine TT_iconst hK dX12_stepBit_35 ?_
      refine TT_iadd hK dX12_stepBit_36 ?_
      refine TT_goto hK (tgt := 44) dX12_stepBit_37 (by decide) ?_
      refine pf_X12_311 hK (by decide) rfl dX12_stepBit_44 ?_
      refine TT_hp (h' := setO h 73 (fup (fup (h 73) 42 (((h 73) 42) + 1)) 43 0)) (up_can (sOf_eq _ _ _) (fup_comm _ _ _ (by decide)) (setO_same _ _ _ _)) ?_
      have hT_21 : TY (setO h 73 (fup (fup (h 73) 42 (((h 73) 42) + 1)) 43 0)) := tu_73_42 hT_18 (show up (setO h 73 (fup (h 73) 43 0)) 73 42 (((h 73) 42) + 1) = (setO h 73 (fup (fup (h 73) 42 (((h 73) 42) + 1)) 43 0)) from up_can (sOf_eq _ _ _) (fup_comm _ _ _ (by decide)) (setO_same _ _ _ _)) (by omega)
      have hF_21 : FRM [73] [42, 43] h (setO h 73 (fup (fup (h 73) 42 (((h 73) 42) + 1)) 43 0)) := FRM_f (show up (setO h 73 (fup (h 73) 43 0)) 73 42 (((h 73) 42) + 1) = (setO h 73 (fup (fup (h 73) 42 (((h 73) 42) + 1)) 43 0)) from up_can (sOf_eq _ _ _) (fup_comm _ _ _ (by decide)) (setO_same _ _ _ _)) hF_18 (by decide) (by decide)
      refine TT_vret hK hQ ?_ dX12_stepBit_47
      have e22_73_42 : (setO h 73 (fup (fup (h 73) 42 (((h 73) 42) + 1)) 43 0)) 73 42 = ((h 73) 42) + 1 := rd_ (sOf_eq _ _ _) ((fup_ne _ _ (by decide)).trans (fup_eq _ _ _))
      have e23_73_43 : (setO h 73 (fup (fup (h 73) 42 (((h 73) 42) + 1)) 43 0)) 73 43 = 0 := rd_ (sOf_eq _ _ _) (fup_eq _ _ _)
      have e24_73_42 : (setO h 73 (fup (fup (h 73) 42 (((h 73) 42) + 1)) 43 0)) 73 42 = ((h 73) 42) + 1 := rd_ (sOf_eq _ _ _) ((fup_ne _ _ (by decide)).trans (fup_eq _ _ _))
      have e25_73_43 : (setO h 73 (fup (fup (h 73) 42 (((h 73) 42) + 1)) 43 0)) 73 43 = 0 := rd_ (sOf_eq _ _ _) (fup_eq _ _ _)
      exact ⟨⟨hT_21, hF_21⟩, rfl, (by rewrite [e22_73_42, e23_73_43]; omega), (by rewrite [e24_73_42, e25_73_43]; first | (exfalso; omega) | exact ⟨by first | rw [if_pos (by omega)] | rw [if_neg (by omega)], by first | rw [if_pos (by omega)] | rw [if_neg (by omega)]⟩ | (constructor <;> split <;> omega))⟩
set_option maxRecDepth 20000 in
theorem s_putBits_e (s : PBS_) (v n : Int) (h : Hp_) (hT : TY h) (hv : -2147483648 ≤ v ∧ v ≤ 2147483647) (hn : 0 ≤ n ∧ n ≤ 30) (hb : 8 * (h 73 42) + (h 73 43) + n ≤ 35192) (hrb : RBR (h 73 42) (h 73 43) (h 100) s) (hpq0 : PBQ s) (hnv : 0 ≤ v ∧ n ≤ 31) : Ctr yX12_putBits cX12_putBits 4 none (rmd 1) ly ly 0 0 [vR 73, vI v, vI n] h (fun r h' => (TY h' ∧ FRM [73, 100] [42, 43] h h') ∧ r = none ∧ (8 * (h' 73 42) + (h' 73 43) = 8 * (h 73 42) + (h 73 43) + n) ∧ (RBR (h' 73 42) (h' 73 43) (h' 100) (putS v n.toNat s) ∧ PBQ (putS v n.toNat s))) := by
  refine Ctr_of (by decide) (Nat.le_of_ble_eq_true rfl) ⟨Nat.le_refl _, Nat.le_refl _⟩ (fun K hK hQ _ => ?_)
  show TT K ly 0 0 0 [(0, vR 73), (1, vI v), (2, vI n)] [] h
  have hF : FRM [73, 100] [42, 43] h h := FRM_rf _ _ _
  have hpq : PBQ (h 73 42, h 73 43, h 100) := RBR_P hrb hpq0
  refine TT_iload_n hK rfl 2 rfl dX12_putBits_0 ?_
  refine TT_iconst hK dX12_putBits_1 ?_
  refine TT_isub hK dX12_putBits_2 ?_
  refine TT_istore_n hK rfl (lv' := [(3, vI (n - 1)), (0, vR 73), (1, vI v), (2, vI n)]) (by decide) rfl dX12_putBits_3 ?_
  have L4_1 : ∀ (k1 : Nat) (k : Int) (w4_1 : Hp_), TY w4_1 → FRM [73, 100] [42, 43] h w4_1 → (-1 ≤ k ∧ k ≤ n - 1) → (8 * (w4_1 73 42) + (w4_1 73 43) = 8 * (h 73 42) + (h 73 43) + (n - 1 - k)) → (-1 ≤ k ∧ k ≤ 30) → (PBQ (((w4_1 73 42), (w4_1 73 43), (w4_1 100)) : PBS_)) → (putS v (k + 1).toNat ((w4_1 73 42), (w4_1 73 43), (w4_1 100)) = putS v n.toNat (h 73 42, h 73 43, h 100)) → (k + 1).toNat < k1 → TT K ly 0 0 4 [(0, vR 73), (1, vI v), (2, vI n), (3, vI k)] [] w4_1 := by
    intro k1
    induction k1 with
    | zero => intro k w4_1 hT4_1 hF4_1 hk hu hk1 hP hS hk1; exact absurd hk1 (Nat.not_lt_zero _)
    | succ k1 ih1 =>
      intro k w4_1 hT4_1 hF4_1 hk hu hk1 hP hS hk1
      refine TT_iload_n hK rfl 3 rfl dX12_putBits_4 ?_
      refine TT_if_lt hK (tgt := 79) (irm (by omega) (by omega)) dX12_putBits_5 (by decide) (fun hb5_2 => ?_) (fun hb5_2 => ?_)
      · refine TT_vret hK hQ ?_ dX12_putBits_79
        have e3_73_42 : w4_1 73 42 = (w4_1 73) 42 := rfl
        have e4_73_43 : w4_1 73 43 = (w4_1 73) 43 := rfl
        have e5_73_42 : w4_1 73 42 = (w4_1 73) 42 := rfl
        have e6_73_43 : w4_1 73 43 = (w4_1 73) 43 := rfl
        exact ⟨⟨hT4_1, hF4_1⟩, rfl, (by rewrite [e3_73_42, e4_73_43]; omega), (by rewrite [e5_73_42, e6_73_43]; exact RBR_put hrb hpq0 (by rw [← hS, show (k + 1).toNat = 0 by omega]; rfl))⟩
      · refine TT_aload_n hK rfl 0 rfl dX12_putBits_8 ?_
        refine gf_X12_96 hK (by decide) rfl (q := 100) rfl rfl dX12_putBits_9 ?_
        refine TT_aload_n hK rfl 0 rfl dX12_putBits_12 ?_
        refine gf_X12_311 hK (by decide) rfl (v := (w4_1 73) 42) rfl dX12_putBits_13 ?_
        have r7 := ty_73_42 (v := (w4_1 73) 42) hT4_1 rfl
        refine TT_aload_n hK rfl 0 rfl dX12_putBits_16 ?_
        refine gf_X12_314 hK (by decide) rfl (v := (w4_1 73) 43) rfl dX12_putBits_17 ?_
        have r8 := ty_73_43 (v := (w4_1 73) 43) hT4_1 rfl
        refine TT_if_ne hK (tgt := 27) (irm (by omega) (by omega)) dX12_putBits_20 (by decide) (fun hb20_9 => ?_) (fun hb20_9 => ?_)
        · refine TT_aload_n hK rfl 0 rfl dX12_putBits_27 ?_
          refine gf_X12_96 hK (by decide) rfl (q := 100) rfl rfl dX12_putBits_28 ?_
          refine TT_aload_n hK rfl 0 rfl dX12_putBits_31 ?_
          refine gf_X12_311 hK (by decide) rfl (v := (w4_1 73) 42) rfl dX12_putBits_32 ?_
          refine TT_iald hK (o := 100) (n := 4700) (by decide) rfl (by first | omega | (simp [up, setR] <;> omega)) (by first | omega | (simp [up, setR] <;> omega)) (v := (w4_1 100) ((w4_1 73) 42)) rfl dX12_putBits_35 ?_
          have r10 := ty_100 (i := (w4_1 73) 42) (v := (w4_1 100) ((w4_1 73) 42)) hT4_1 rfl (by omega) (by omega)
          refine TT_iast hK (o := 100) (n := 4700) (by decide) rfl (by omega) (by omega) dX12_putBits_36 ?_
          refine TT_hp (h' := setO w4_1 100 (fup (w4_1 100) ((w4_1 73) 42) ((w4_1 100) ((w4_1 73) 42)))) (up_can rfl rfl rfl) ?_
          have hT_11 : TY (setO w4_1 100 (fup (w4_1 100) ((w4_1 73) 42) ((w4_1 100) ((w4_1 73) 42)))) := tu_100 hT4_1 (show up w4_1 100 ((w4_1 73) 42) ((w4_1 100) ((w4_1 73) 42)) = (setO w4_1 100 (fup (w4_1 100) ((w4_1 73) 42) ((w4_1 100) ((w4_1 73) 42)))) from up_can rfl rfl rfl) (by omega)
          have hF_11 : FRM [73, 100] [42, 43] h (setO w4_1 100 (fup (w4_1 100) ((w4_1 73) 42) ((w4_1 100) ((w4_1 73) 42)))) := FRM_up (show up w4_1 100 ((w4_1 73) 42) ((w4_1 100) ((w4_1 73) 42)) = (setO w4_1 100 (fup (w4_1 100) ((w4_1 73) 42) ((w4_1 100) ((w4_1 73) 42)))) from up_can rfl rfl rfl) hF4_1 (by decide) (by decide)
          refine TT_aload_n hK rfl 0 rfl dX12_putBits_37 ?_
          refine gf_X12_96 hK (by decide) rfl (q := 100) rfl rfl dX12_putBits_38 ?_
          refine TT_aload_n hK rfl 0 rfl dX12_putBits_41 ?_
          refine gf_X12_311 hK (by decide) rfl (v := (w4_1 73) 42) (rd_ (sOf_ne _ _ (by decide)) rfl) dX12_putBits_42 ?_
          refine TT_aload_n hK rfl 0 rfl dX12_putBits_45 ?_
          refine gf_X12_96 hK (by decide) rfl (q := 100) rfl rfl dX12_putBits_46 ?_
          refine TT_aload_n hK rfl 0 rfl dX12_putBits_49 ?_
          refine gf_X12_311 hK (by decide) rfl (v := (w4_1 73) 42) (rd_ (sOf_ne _ _ (by decide)) rfl) dX12_putBits_50 ?_
          refine TT_iald hK (o := 100) (n := 4700) (by decide) rfl (by first | omega | (simp [up, setR] <;> omega)) (by first | omega | (simp [up, setR] <;> omega)) (v := (w4_1 100) ((w4_1 73) 42)) (rd_ (sOf_eq _ _ _) (fup_eq _ _ _)) dX12_putBits_53 ?_
          refine TT_iload_n hK rfl 1 rfl dX12_putBits_54 ?_
          refine TT_iload_n hK rfl 3 rfl dX12_putBits_55 ?_
          refine TT_ishr hK (irm (by omega) (by omega)) (by omega) (by omega) dX12_putBits_56 ?_
          refine TT_iconst hK dX12_putBits_57 ?_
          refine TT_iand hK dX12_putBits_58 ?_
          refine TT_cgI (iand_m (v / 2 ^ k.toNat) 1 (by decide)) ?_
          show TT K ly 0 0 59 [(0, vR 73), (1, vI v), (2, vI n), (3, vI k)] (vI ((v / 2 ^ k.toNat) % 2) :: [vI ((w4_1 100) ((w4_1 73) 42)), vI ((w4_1 73) 42), vR 100]) (setO w4_1 100 (fup (w4_1 100) ((w4_1 73) 42) ((w4_1 100) ((w4_1 73) 42))))
          refine TT_bipush hK (by decide) dX12_putBits_59 ?_
          refine TT_aload_n hK rfl 0 rfl dX12_putBits_61 ?_
          refine gf_X12_314 hK (by decide) rfl (v := (w4_1 73) 43) (rd_ (sOf_ne _ _ (by decide)) rfl) dX12_putBits_62 ?_
          refine TT_isub hK dX12_putBits_65 ?_
          refine TT_ishl hK (by omega) (by omega) dX12_putBits_66 ?_
          have bt9 := BT_r hP (v01 v k.toNat)
          first | rw [if_pos (by omega)] at bt9 | rw [if_neg (by omega)] at bt9
          refine TT_iadd hK dX12_putBits_67 ?_
          refine TT_iast hK (o := 100) (n := 4700) (by decide) rfl (by omega) (by omega) dX12_putBits_68 ?_
          refine TT_hp (h' := setO w4_1 100 (fup (w4_1 100) ((w4_1 73) 42) (((w4_1 100) ((w4_1 73) 42)) + (((v / 2 ^ k.toNat) % 2) * 2 ^ (7 - ((w4_1 73) 43)).toNat)))) (up_can (sOf_eq _ _ _) (fup_same _ _ _ _) (setO_same _ _ _ _)) ?_
          have hT_12 : TY (setO w4_1 100 (fup (w4_1 100) ((w4_1 73) 42) (((w4_1 100) ((w4_1 73) 42)) + (((v / 2 ^ k.toNat) % 2) * 2 ^ (7 - ((w4_1 73) 43)).toNat)))) := tu_100 hT_11 (show up (setO w4_1 100 (fup (w4_1 100) ((w4_1 73) 42) ((w4_1 100) ((w4_1 73) 42)))) 100 ((w4_1 73) 42) (((w4_1 100) ((w4_1 73) 42)) + (((v / 2 ^ k.toNat) % 2) * 2 ^ (7 - ((w4_1 73) 43)).toNat)) = (setO w4_1 100 (fup (w4_1 100) ((w4_1 73) 42) (((w4_1 100) ((w4_1 73) 42)) + (((v / 2 ^ k.toNat) % 2) * 2 ^ (7 - ((w4_1 73) 43)).toNat)))) from up_can (sOf_eq _ _ _) (fup_same _ _ _ _) (setO_same _ _ _ _)) (by omega)
          have hF_12 : FRM [73, 100] [42, 43] h (setO w4_1 100 (fup (w4_1 100) ((w4_1 73) 42) (((w4_1 100) ((w4_1 73) 42)) + (((v / 2 ^ k.toNat) % 2) * 2 ^ (7 - ((w4_1 73) 43)).toNat)))) := FRM_up (show up (setO w4_1 100 (fup (w4_1 100) ((w4_1 73) 42) ((w4_1 100) ((w4_1 73) 42)))) 100 ((w4_1 73) 42) (((w4_1 100) ((w4_1 73) 42)) + (((v / 2 ^ k.toNat) % 2) * 2 ^ (7 - ((w4_1 73) 43)).toNat)) = (setO w4_1 100 (fup (w4_1 100) ((w4_1 73) 42) (((w4_1 100) ((w4_1 73) 42)) + (((v / 2 ^ k.toNat) % 2) * 2 ^ (7 - ((w4_1 73) 43)).toNat)))) from up_can (sOf_eq _ _ _) (fup_same _ _ _ _) (setO_same _ _ _ _)) hF_11 (by decide) (by decide)
          refine TT_aload_n hK rfl 0 rfl dX12_putBits_69 ?_
          have e13_73_42 : (setO w4_1 100 (fup (w4_1 100) ((w4_1 73) 42) (((w4_1 100) ((w4_1 73) 42)) + (((v / 2 ^ k.toNat) % 2) * 2 ^ (7 - ((w4_1 73) 43)).toNat)))) 73 42 = (w4_1 73) 42 := rd_ (sOf_ne _ _ (by decide)) rfl
          refine iv_X12_317 hK (s_stepBit_e (setO w4_1 100 (fup (w4_1 100) ((w4_1 73) 42) (((w4_1 100) ((w4_1 73) 42)) + (((v / 2 ^ k.toNat) % 2) * 2 ^ (7 - ((w4_1 73) 43)).toNat)))) hT_12 (by rewrite [e13_73_42]; first | omega | (simp [up, setR] <;> omega))) (by decide) rfl ⟨by decide, by decide⟩ (by decide) rfl rfl (Nat.le_of_ble_eq_true rfl) ⟨by decide, by decide⟩ dX12_putBits_70 ?_
          intro r9 g70_14 hp9
          obtain ⟨⟨hT_14, hG_14⟩, hr9, p1_14, sb_14⟩ := hp9
          rw [hr9]
          have hF_14 : FRM [73, 100] [42, 43] h g70_14 := FRM_tr hF_12 hG_14 (by decide) (by decide)
          rw [show (setO w4_1 100 (fup (w4_1 100) ((w4_1 73) 42) (((w4_1 100) ((w4_1 73) 42)) + (((v / 2 ^ k.toNat) % 2) * 2 ^ (7 - ((w4_1 73) 43)).toNat)))) 73 42 = (w4_1 73) 42 from rd_ (sOf_ne _ _ (by decide)) rfl] at p1_14
          rw [show (setO w4_1 100 (fup (w4_1 100) ((w4_1 73) 42) (((w4_1 100) ((w4_1 73) 42)) + (((v / 2 ^ k.toNat) % 2) * 2 ^ (7 - ((w4_1 73) 43)).toNat)))) 73 43 = (w4_1 73) 43 from rd_ (sOf_ne _ _ (by decide)) rfl] at p1_14
          rw [show (setO w4_1 100 (fup (w4_1 100) ((w4_1 73) 42) (((w4_1 100) ((w4_1 73) 42)) + (((v / 2 ^ k.toNat) % 2) * 2 ^ (7 - ((w4_1 73) 43)).toNat)))) 73 42 = (w4_1 73) 42 from rd_ (sOf_ne _ _ (by decide)) rfl] at sb_14
          rw [show (setO w4_1 100 (fup (w4_1 100) ((w4_1 73) 42) (((w4_1 100) ((w4_1 73) 42)) + (((v / 2 ^ k.toNat) % 2) * 2 ^ (7 - ((w4_1 73) 43)).toNat)))) 73 43 = (w4_1 73) 43 from rd_ (sOf_ne _ _ (by decide)) rfl] at sb_14
          have sb_at70 := sb_14
          show TT K ly 0 0 73 [(0, vR 73), (1, vI v), (2, vI n), (3, vI k)] [] g70_14
          refine TT_iinc hK (v := k - 1) (lv' := [(3, vI (k - 1)), (0, vR 73), (1, vI v), (2, vI n)]) 3 rfl (by omega) (by decide) rfl dX12_putBits_73 ?_
          refine TT_goto hK (tgt := 4) dX12_putBits_76 (by decide) ?_
          refine TT_sub [1, 2, 3, 0] rfl ?_
          have e15_73_42 : g70_14 73 42 = (g70_14 73) 42 := rfl
          have e16_73_43 : g70_14 73 43 = (g70_14 73) 43 := rfl
          have e17_100 : g70_14 100 = fup (w4_1 100) ((w4_1 73) 42) (((w4_1 100) ((w4_1 73) 42)) + (((v / 2 ^ k.toNat) % 2) * 2 ^ (7 - ((w4_1 73) 43)).toNat)) := ((hG_14.1 100 (by decide))).trans (sOf_eq _ _ _)
          have e18_73_42 : g70_14 73 42 = (g70_14 73) 42 := rfl
          have e19_73_43 : g70_14 73 43 = (g70_14 73) 43 := rfl
          have e20_100 : g70_14 100 = fup (w4_1 100) ((w4_1 73) 42) (((w4_1 100) ((w4_1 73) 42)) + (((v / 2 ^ k.toNat) % 2) * 2 ^ (7 - ((w4_1 73) 43)).toNat)) := ((hG_14.1 100 (by decide))).trans (sOf_eq _ _ _)
          have e21_73_42 : g70_14 73 42 = (g70_14 73) 42 := rfl
          have e22_73_43 : g70_14 73 43 = (g70_14 73) 43 := rfl
          exact ih1 (k - 1) g70_14 hT_14 hF_14 (by first | omega | (simp [up, setR] <;> omega)) (by rewrite [e15_73_42, e16_73_43]; first | omega | (simp [up, setR] <;> omega)) (by first | omega | (simp [up, setR] <;> omega)) (by rewrite [e17_100, e18_73_42, e19_73_43]; exact BT_P hP sb_at70.1 sb_at70.2 (v01 v k.toNat) (by first | rw [if_pos (by omega)] | rw [if_neg (by omega)])) (by rewrite [e20_100, e21_73_42, e22_73_43]; rw [show k - 1 + 1 = k by omega]; exact BT_S (k := k.toNat) (by rw [show k.toNat + 1 = (k + 1).toNat by omega]; exact hS) sb_at70.1 sb_at70.2 (by first | rw [if_pos (by omega)] | rw [if_neg (by omega)])) (by first | omega | (simp [up, setR] <;> omega))
        · refine TT_iconst hK dX12_putBits_23 ?_
          refine TT_goto hK (tgt := 36) dX12_putBits_24 (by decide) ?_
          refine TT_iast hK (o := 100) (n := 4700) (by decide) rfl (by omega) (by omega) dX12_putBits_36 ?_
          refine TT_hp (h' := setO w4_1 100 (fup (w4_1 100) ((w4_1 73) 42) 0)) (up_can rfl rfl rfl) ?_
          have hT_23 : TY (setO w4_1 100 (fup (w4_1 100) ((w4_1 73) 42) 0)) := tu_100 hT4_1 (show up w4_1 100 ((w4_1 73) 42) 0 = (setO w4_1 100 (fup (w4_1 100) ((w4_1 73) 42) 0)) from up_can rfl rfl rfl) (by omega)
          have hF_23 : FRM [73, 100] [42, 43] h (setO w4_1 100 (fup (w4_1 100) ((w4_1 73) 42) 0)) := FRM_up (show up w4_1 100 ((w4_1 73) 42) 0 = (setO w4_1 100 (fup (w4_1 100) ((w4_1 73) 42) 0)) from up_can rfl rfl rfl) hF4_1 (by decide) (by decide)
          refine TT_aload_n hK rfl 0 rfl dX12_putBits_37 ?_
          refine gf_X12_96 hK (by decide) rfl (q := 100) rfl rfl dX12_putBits_38 ?_
          refine TT_aload_n hK rfl 0 rfl dX12_putBits_41 ?_
          refine gf_X12_311 hK (by decide) rfl (v := (w4_1 73) 42) (rd_ (sOf_ne _ _ (by decide)) rfl) dX12_putBits_42 ?_
          refine TT_aload_n hK rfl 0 rfl dX12_putBits_45 ?_
          refine gf_X12_96 hK (by decide) rfl (q := 100) rfl rfl dX12_putBits_46 ?_
          refine TT_aload_n hK rfl 0 rfl dX12_putBits_49 ?_
          refine gf_X12_311 hK (by decide) rfl (v := (w4_1 73) 42) (rd_ (sOf_ne _ _ (by decide)) rfl) dX12_putBits_50 ?_
          refine TT_iald hK (o := 100) (n := 4700) (by decide) rfl (by first | omega | (simp [up, setR] <;> omega)) (by first | omega | (simp [up, setR] <;> omega)) (v := 0) (rd_ (sOf_eq _ _ _) (fup_eq _ _ _)) dX12_putBits_53 ?_
          refine TT_iload_n hK rfl 1 rfl dX12_putBits_54 ?_
          refine TT_iload_n hK rfl 3 rfl dX12_putBits_55 ?_
          refine TT_ishr hK (irm (by omega) (by omega)) (by omega) (by omega) dX12_putBits_56 ?_
          refine TT_iconst hK dX12_putBits_57 ?_
          refine TT_iand hK dX12_putBits_58 ?_
          refine TT_cgI (iand_m (v / 2 ^ k.toNat) 1 (by decide)) ?_
          show TT K ly 0 0 59 [(0, vR 73), (1, vI v), (2, vI n), (3, vI k)] (vI ((v / 2 ^ k.toNat) % 2) :: [vI 0, vI ((w4_1 73) 42), vR 100]) (setO w4_1 100 (fup (w4_1 100) ((w4_1 73) 42) 0))
          refine TT_bipush hK (by decide) dX12_putBits_59 ?_
          refine TT_aload_n hK rfl 0 rfl dX12_putBits_61 ?_
          refine gf_X12_314 hK (by decide) rfl (v := (w4_1 73) 43) (rd_ (sOf_ne _ _ (by decide)) rfl) dX12_putBits_62 ?_
          refine TT_isub hK dX12_putBits_65 ?_
          refine TT_ishl hK (by omega) (by omega) dX12_putBits_66 ?_
          have bt9 := BT_r hP (v01 v k.toNat)
          first | rw [if_pos (by omega)] at bt9 | rw [if_neg (by omega)] at bt9
          refine TT_iadd hK dX12_putBits_67 ?_
          refine TT_iast hK (o := 100) (n := 4700) (by decide) rfl (by omega) (by omega) dX12_putBits_68 ?_
          refine TT_hp (h' := setO w4_1 100 (fup (w4_1 100) ((w4_1 73) 42) (0 + (((v / 2 ^ k.toNat) % 2) * 2 ^ (7 - ((w4_1 73) 43)).toNat)))) (up_can (sOf_eq _ _ _) (fup_same _ _ _ _) (setO_same _ _ _ _)) ?_
          have hT_24 : TY (setO w4_1 100 (fup (w4_1 100) ((w4_1 73) 42) (0 + (((v / 2 ^ k.toNat) % 2) * 2 ^ (7 - ((w4_1 73) 43)).toNat)))) := tu_100 hT_23 (show up (setO w4_1 100 (fup (w4_1 100) ((w4_1 73) 42) 0)) 100 ((w4_1 73) 42) (0 + (((v / 2 ^ k.toNat) % 2) * 2 ^ (7 - ((w4_1 73) 43)).toNat)) = (setO w4_1 100 (fup (w4_1 100) ((w4_1 73) 42) (0 + (((v / 2 ^ k.toNat) % 2) * 2 ^ (7 - ((w4_1 73) 43)).toNat)))) from up_can (sOf_eq _ _ _) (fup_same _ _ _ _) (setO_same _ _ _ _)) (by omega)
          have hF_24 : FRM [73, 100] [42, 43] h (setO w4_1 100 (fup (w4_1 100) ((w4_1 73) 42) (0 + (((v / 2 ^ k.toNat) % 2) * 2 ^ (7 - ((w4_1 73) 43)).toNat)))) := FRM_up (show up (setO w4_1 100 (fup (w4_1 100) ((w4_1 73) 42) 0)) 100 ((w4_1 73) 42) (0 + (((v / 2 ^ k.toNat) % 2) * 2 ^ (7 - ((w4_1 73) 43)).toNat)) = (setO w4_1 100 (fup (w4_1 100) ((w4_1 73) 42) (0 + (((v / 2 ^ k.toNat) % 2) * 2 ^ (7 - ((w4_1 73) 43)).toNat)))) from up_can (sOf_eq _ _ _) (fup_same _ _ _ _) (setO_same _ _ _ _)) hF_23 (by decide) (by decide)
          refine TT_aload_n hK rfl 0 rfl dX12_putBits_69 ?_
          have e25_73_42 : (setO w4_1 100 (fup (w4_1 100) ((w4_1 73) 42) (0 + (((v / 2 ^ k.toNat) % 2) * 2 ^ (7 - ((w4_1 73) 43)).toNat)))) 73 42 = (w4_1 73) 42 := rd_ (sOf_ne _ _ (by decide)) rfl
          refine iv_X12_317 hK (s_stepBit_e (setO w4_1 100 (fup (w4_1 100) ((w4_1 73) 42) (0 + (((v / 2 ^ k.toNat) % 2) * 2 ^ (7 - ((w4_1 73) 43)).toNat)))) hT_24 (by rewrite [e25_73_42]; first | omega | (simp [up, setR] <;> omega))) (by decide) rfl ⟨by decide, by decide⟩ (by decide) rfl rfl (Nat.le_of_ble_eq_true rfl) ⟨by decide, by decide⟩ dX12_putBits_70 ?_
          intro r9 g70_26 hp9
          obtain ⟨⟨hT_26, hG_26⟩, hr9, p1_26, sb_26⟩ := hp9
          rw [hr9]
          have hF_26 : FRM [73, 100] [42, 43] h g70_26 := FRM_tr hF_24 hG_26 (by decide) (by decide)
          rw [show (setO w4_1 100 (fup (w4_1 100) ((w4_1 73) 42) (0 + (((v / 2 ^ k.toNat) % 2) * 2 ^ (7 - ((w4_1 73) 43)).toNat)))) 73 42 = (w4_1 73) 42 from rd_ (sOf_ne _ _ (by decide)) rfl] at p1_26
          rw [show (setO w4_1 100 (fup (w4_1 100) ((w4_1 73) 42) (0 + (((v / 2 ^ k.toNat) % 2) * 2 ^ (7 - ((w4_1 73) 43)).toNat)))) 73 43 = (w4_1 73) 43 from rd_ (sOf_ne _ _ (by decide)) rfl] at p1_26
          rw [show (setO w4_1 100 (fup (w4_1 100) ((w4_1 73) 42) (0 + (((v / 2 ^ k.toNat) % 2) * 2 ^ (7 - ((w4_1 73) 43)).toNat)))) 73 42 = (w4_1 73) 42 from rd_ (sOf_ne _ _ (by decide)) rfl] at sb_26
          rw [show (setO w4_1 100 (fup (w4_1 100) ((w4_1 73) 42) (0 + (((v / 2 ^ k.toNat) % 2) * 2 ^ (7 - ((w4_1 73) 43)).toNat)))) 73 43 = (w4_1 73) 43 from rd_ (sOf_ne _ _ (by decide)) rfl] at sb_26
          have sb_at70 := sb_26
          show TT K ly 0 0 73 [(0, vR 73), (1, vI v), (2, vI n), (3, vI k)] [] g70_26
          refine TT_iinc hK (v := k - 1) (lv' := [(3, vI (k - 1)), (0, vR 73), (1, vI v), (2, vI n)]) 3 rfl (by omega) (by decide) rfl dX12_putBits_73 ?_
          refine TT_goto hK (tgt := 4) dX12_putBits_76 (by decide) ?_
          refine TT_sub [1, 2, 3, 0] rfl ?_
          have e27_73_42 : g70_26 73 42 = (g70_26 73) 42 := rfl
          have e28_73_43 : g70_26 73 43 = (g70_26 73) 43 := rfl
          have e29_100 : g70_26 100 = fup (w4_1 100) ((w4_1 73) 42) (0 + (((v / 2 ^ k.toNat) % 2) * 2 ^ (7 - ((w4_1 73) 43)).toNat)) := ((hG_26.1 100 (by decide))).trans (sOf_eq _ _ _)
          have e30_73_42 : g70_26 73 42 = (g70_26 73) 42 := rfl
          have e31_73_43 : g70_26 73 43 = (g70_26 73) 43 := rfl
          have e32_100 : g70_26 100 = fup (w4_1 100) ((w4_1 73) 42) (0 + (((v / 2 ^ k.toNat) % 2) * 2 ^ (7 - ((w4_1 73) 43)).toNat)) := ((hG_26.1 100 (by decide))).trans (sOf_eq _ _ _)
          have e33_73_42 : g70_26 73 42 = (g70_26 73) 42 := rfl
          have e34_73_43 : g70_26 73 43 = (g70_26 73) 43 := rfl
          exact ih1 (k - 1) g70_26 hT_26 hF_26 (by first | omega | (simp [up, setR] <;> omega)) (by rewrite [e27_73_42, e28_73_43]; first | omega | (simp [up, setR] <;> omega)) (by first | omega | (simp [up, setR] <;> omega)) (by rewrite [e29_100, e30_73_42, e31_73_43]; exact BT_P hP sb_at70.1 sb_at70.2 (v01 v k.toNat) (by first | rw [if_pos (by omega)] | rw [if_neg (by omega)])) (by rewrite [e32_100, e33_73_42, e34_73_43]; rw [show k - 1 + 1 = k by omega]; exact BT_S (k := k.toNat) (by rw [show k.toNat + 1 = (k + 1).toNat by omega]; exact hS) sb_at70.1 sb_at70.2 (by first | rw [if_pos (by omega)] | rw [if_neg (by omega)])) (by first | omega | (simp [up, setR] <;> omega))
  refine TT_sub [1, 2, 3, 0] rfl ?_
  have e35_73_42 : h 73 42 = (h 73) 42 := rfl
  have e36_73_43 : h 73 43 = (h 73) 43 := rfl
  have e37_73_42 : h 73 42 = (h 73) 42 := rfl
  have e38_73_43 : h 73 43 = (h 73) 43 := rfl
  have e39_73_42 : h 73 42 = (h 73) 42 := rfl
  have e40_73_43 : h 73 43 = (h 73) 43 := rfl
  exact L4_1 ((((n - 1) + 1).toNat) + 1) (n - 1) h hT hF (by first | omega | (simp [up, setR] <;> omega)) (by rewrite [e35_73_42, e36_73_43]; first | omega | (simp [up, setR] <;> omega)) (by first | omega | (simp [up, setR] <;> omega)) (by rewrite [e37_73_42, e38_73_43]; exact hpq) (by rewrite [e39_73_42, e40_73_43]; rw [show n - 1 + 1 = n by omega]) (Nat.lt_succ_self _)

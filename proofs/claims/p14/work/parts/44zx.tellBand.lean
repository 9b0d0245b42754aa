noncomputable def TLp (M : Int → Int) (s : TS_) (w g kd q p : Int) : List (Int × Int) := (psN M kd w g q p.toNat s).2.2.2
def LSX (M : Int → Int) (s : TS_) (w g kd q : Int) (B ll : Int → Int) (o n : Int) : Prop := ∀ j : Int, 1 ≤ j → j < n → LSP B (TLp M s w g kd q j) (ll (o + j))
theorem TL_pre {M : Int → Int} {s : TS_} {w g kd q p r : Int} (h0 : 0 ≤ p) (h : p ≤ r) : ∃ l : List (Int × Int), TLp M s w g kd q r = TLp M s w g kd q p ++ l := by
  have k := PX_psN M kd w g q s p.toNat (r.toNat - p.toNat)
  rw [show p.toNat + (r.toNat - p.toNat) = r.toNat by omega] at k
  exact k
theorem LSX_0 {M : Int → Int} {s : TS_} {w g kd q : Int} {B ll : Int → Int} {o : Int} (hq : q = 0) : LSX M s w g kd q B ll o (pas q + 1) := by
  intro j h1 h2
  exfalso
  rw [hq] at h2
  have e : pas 0 = 0 := if_pos rfl
  omega
theorem LSX_s {M : Int → Int} {s : TS_} {w g kd q : Int} {B ll : Int → Int} {o p v : Int} (h : LSX M s w g kd q B ll o p) (hp : 1 ≤ p) (hv : LSP B (TLp M s w g kd q p) v) : LSX M s w g kd q B (fup ll (o + p) v) o (p + 1) := by
  intro j h1 h2
  by_cases e : j = p
  · rw [e, fup_eq]
    exact hv
  · rw [fup_ne _ _ (by omega)]
    exact h j h1 (by omega)
theorem LSX_u {M : Int → Int} {s : TS_} {w g kd q : Int} {B ll : Int → Int} {o p r : Int} (h : LSX M s w g kd q B ll o p) (hr : r = p) : LSX M s w g kd q B ll o r := by
  rw [hr]; exact h
theorem RT_up {M : Int → Int} {s : TS_} {w g kd q m p : Int} {B : Int → Int} (hp : 0 ≤ p) (h : RTM B m (TLp M s w g kd q (p + 1))) : RTM B m (TLp M s w g kd q p) := by
  obtain ⟨l, e⟩ := TL_pre (M := M) (s := s) (w := w) (g := g) (kd := kd) (q := q) hp (show p ≤ p + 1 by omega)
  rw [e] at h
  exact RTM_p h
theorem RT_le {M : Int → Int} {s : TS_} {w g kd q m p r : Int} {B : Int → Int} (hp : 0 ≤ p) (hr : p ≤ r) (h : RTM B m (TLp M s w g kd q r)) : RTM B m (TLp M s w g kd q p) := by
  obtain ⟨l, e⟩ := TL_pre (M := M) (s := s) (w := w) (g := g) (kd := kd) (q := q) hp hr
  rw [e] at h
  exact RTM_p h
theorem SRB_c {M : Int → Int} {s : TS_} {w g kd q L m : Int} {B s1 : Int → Int} (hC : CWR M s w g kd q B L) (hq : q ≠ 0) (hs : ∀ j : Int, 0 ≤ j → j < L → s1 j = B j) (hm : m ≤ L) : SRB s1 m := by
  obtain ⟨E, hE, hW⟩ := hC.2 hq
  intro j j0 j1
  rw [hs j j0 (by omega)]
  exact WRD_by hE hW j j0 (by omega)
/-- a whole word: all its passes, and so each of the first -/
theorem WRT {M : Int → Int} {s : TS_} {w g kd q L p : Int} {B : Int → Int} (hs : TS0 s) (hC : CWR M s w g kd q B L) (hq : q ≠ 0) (hp : 0 ≤ p ∧ p ≤ pas q) : RTM B L (TLp M s w g kd q p) := by
  obtain ⟨E, hE, hW⟩ := hC.2 hq
  have k : RTM B L (TLp M s w g kd q (pas q)) := WORD (w := 0) hE (fun z hz => EVR_ps M kd w g q _ (EVR_0 hs) z hz) hW (fun _ _ _ => rfl) (fun _ _ _ => rfl)
  obtain ⟨l, e⟩ := TL_pre (M := M) (s := s) (w := w) (g := g) (kd := kd) (q := q) hp.1 hp.2
  rw [e] at k
  exact RTM_p k
theorem BG_D {a c t p m : Int} {s1 sd ld : Int → Int} (ha : a = 32768) (e : ((c, t, p) : Int × Int × Int) = ((inS s1 m (65536 * byS s1 m 0) 0).1 * 128, (inS s1 m (65536 * byS s1 m 0) 0).2.1 - 7, (inS s1 m (65536 * byS s1 m 0) 0).2.2)) : (a, c, t, p, sd, ld) = bgD s1 m sd ld := by
  have e1 : c = (inS s1 m (65536 * byS s1 m 0) 0).1 * 128 := congrArg (fun u => u.1) e
  have e2 : t = (inS s1 m (65536 * byS s1 m 0) 0).2.1 - 7 := congrArg (fun u => u.2.1) e
  have e3 : p = (inS s1 m (65536 * byS s1 m 0) 0).2.2 := congrArg (fun u => u.2.2) e
  unfold bgD
  rw [ha, e1, e2, e3]
theorem CQ_b3 {E0 : ES_} {h : Hp_} {v a c t p n : Int} {st lk s1 : Int → Int} (e28 : h 73 28 = v) (e29 : h 73 29 = 2) (e32 : h 73 32 = a) (e33 : h 73 33 = c) (e34 : h 73 34 = t) (e39 : h 73 39 = p) (e38 : h 73 38 = n) (e96 : h 96 = st) (e97 : h 97 = lk) (e99 : h 99 = s1) (hS : SRB s1 n) (hq : RQ_ n a t p) (hc : 0 ≤ c) : CQ 2 E0 (v, (a, c, t, p, st, lk)) h [] := by
  refine ⟨e29, fun q => by omega, fun _ => ?_⟩
  rw [e28, e32, e33, e34, e39, e38, e96, e97, e99]
  exact ⟨hS, fun _ => ⟨rfl, hq, hc⟩⟩
theorem TRY_c {g : Hp_} {M : Int → Int} {s : TS_} {w gg kd q L m p a c t pp : Int} {B s1 sd ld : Int → Int} (hs : TS0 s) (hC : CWR M s w gg kd q B L) (hq : q ≠ 0) (hp : 0 ≤ p ∧ p ≤ pas q) (hm : 0 ≤ m ∧ m ≤ L) (hs1 : ∀ j : Int, 0 ≤ j → j < L → s1 j = B j) (hsd : ∀ j : Int, 0 ≤ j → j < 19 → sd j = st0 j) (hld : ∀ j : Int, 0 ≤ j → j < 19 → ld j = 0)
    (hD : (a, c, t, pp, sd, ld) = bgD s1 m sd ld) (hQ : CQ 2 E00 (0, (a, c, t, pp, sd, ld)) g (TLp M s w gg kd q p)) (e99 : g 99 = s1) (e38 : g 73 38 = m) : g 73 28 = 0 ↔ RTM B m (TLp M s w gg kd q p) := by
  obtain ⟨E, hE, hW⟩ := hC.2 hq
  obtain ⟨l, e⟩ := TL_pre (M := M) (s := s) (w := w) (g := gg) (kd := kd) (q := q) hp.1 hp.2
  exact TRY_r hE (Ta := TLp M s w gg kd q (pas q)) (fun z hz => EVR_ps M kd w gg q _ (EVR_0 hs) z hz) e hW hm (fun j j0 j1 => hs1 j j0 (by omega)) hsd hld hD hQ e99 e38
theorem MSQ_c5 {M a b85 c85 : Int → Int} {b w g : Int} (h : MSQ M a b85 b w g) (e : ∀ j : Int, j < 640 → c85 j = b85 j) (hb : b ≤ 9) (hw : w ≤ 8) (hg : g ≤ 8) : MSQ M a c85 b w g := by
  intro x y x0 x1 y0 y1
  have k := h x y x0 x1 y0 y1
  rw [e _ (by omega)]
  exact k
set_option maxRecDepth 20000 in
theorem s_tellBand_y (M : Int → Int) (s : TS_) (b f : Int) (h : Hp_) (hT : TY h) (hb : 0 ≤ b ∧ b ≤ 9) (hf : 0 ≤ f ∧ f + 48 * ((h 80) b * (h 81) b) + 30 ≤ 4400) (htb : TBL (h 74) (h 75)) (hmi : MIQ (h 90) (h 91)) (hlq : LQ (h 83) (h 91) (h 92) b) (hs0 : TS0 s) (hms : MSQ M (h 84) (h 85) b ((h 80) b) ((h 81) b)) : Ctr yX12_tellBand cX12_tellBand 5 none (rmd 9) ly ly 0 0 [vR 73, vI b, vI f] h (fun r h' => (TY h' ∧ FRM [73, 83, 85, 89, 90, 91, 92, 93, 94, 95, 96, 97, 98, 99] [26, 27, 28, 29, 32, 33, 34, 36, 38, 39] h h') ∧ r = none ∧ ((h' 91) b ≤ 48 * ((h 80) b * (h 81) b) + 30) ∧ (MIQ (h' 90) (h' 91)) ∧ (LQ (h' 83) (h' 91) (h' 92) (b + 1)) ∧ (∀ j : Int, j ≠ b → (h' 91) j = (h 91) j) ∧ (∀ j : Int, j < 640 → (h' 84) j = (h 84) j ∧ (h' 85) j = (h 85) j) ∧ (CWR M s ((h 80) b) ((h 81) b) ((h 82) b) ((h' 83) b) (fun i => (h' 89) (f + i)) ((h' 91) b)) ∧ (PZQ (h 84) b (64 * b + 64) ((h' 83) b)) ∧ (∀ j : Int, j < f → (h' 89) j = (h 89) j) ∧ ((h' 90) = fup (h 90) b f) ∧ (∀ j : Int, j ≠ b → (h' 83) j = (h 83) j) ∧ (LSX M s ((h 80) b) ((h 81) b) ((h 82) b) ((h' 83) b) (fun i => (h' 89) (f + i)) (h' 92) (35 * b) (pas ((h' 83) b) + 1)) ∧ (∀ j : Int, j < 35 * b → (h' 92) j = (h 92) j) ∧ ((h' 92) (35 * b) = 0)) := by
  refine Ctr_of (by decide) (Nat.le_of_ble_eq_true rfl) ⟨Nat.le_refl _, Nat.le_refl _⟩ (fun K hK hQ _ => ?_)
  show TT K ly 0 0 0 [(0, vR 73), (1, vI b), (2, vI f)] [] h
  have hF : FRM [73, 83, 85, 89, 90, 91, 92, 93, 94, 95, 96, 97, 98, 99] [26, 27, 28, 29, 32, 33, 34, 36, 38, 39] h h := FRM_rf _ _ _
  have rw0 := ty_80 (i := b) (v := h 80 b) hT rfl (by omega) (by omega)
  have re0 := ty_81 (i := b) (v := h 81 b) hT rfl (by omega) (by omega)
  have ra0 : 0 ≤ h 80 b * h 81 b := Int.mul_nonneg rw0.1 re0.1
  have ra1 := A64 rw0 re0
  refine TT_aload_n hK rfl 0 rfl dX12_tellBand_0 ?_
  refine TT_iload_n hK rfl 1 rfl dX12_tellBand_1 ?_
  refine iv_X12_290 hK (s_findPlanes_e b h hT (by first | omega | (simp [up, setR] <;> omega)) (by intro j h1 h2; exact (ty_84 (i := j) (v := h 84 j) hT rfl (by omega) (by omega)).2 (by omega))) (by decide) rfl ⟨by decide, by decide⟩ (by decide) rfl rfl (Nat.le_of_ble_eq_true rfl) ⟨by decide, by decide⟩ dX12_tellBand_2 ?_
  intro r9 g2_1 hp9
  obtain ⟨⟨hT_1, hG_1⟩, hr9, q1_1, pz9_1⟩ := hp9
  rw [hr9]
  have hF_1 : FRM [73, 83, 85, 89, 90, 91, 92, 93, 94, 95, 96, 97, 98, 99] [26, 27, 28, 29, 32, 33, 34, 36, 38, 39] h g2_1 := FRM_tr hF hG_1 (by decide) (by decide)
  have q1_at2 := q1_1
  have pz9_at2 := pz9_1
  show TT K ly 0 0 5 [(0, vR 73), (1, vI b), (2, vI f)] [] g2_1
  refine TT_aload_n hK rfl 0 rfl dX12_tellBand_5 ?_
  refine gf_X12_66 hK (by decide) rfl (q := 90) rfl rfl dX12_tellBand_6 ?_
  refine TT_iload_n hK rfl 1 rfl dX12_tellBand_9 ?_
  refine TT_iload_n hK rfl 2 rfl dX12_tellBand_10 ?_
  refine TT_iast hK (o := 90) (n := 10) (by decide) rfl (by omega) (by omega) dX12_tellBand_11 ?_
  refine TT_hp (h' := setO g2_1 90 (fup (h 90) b f)) (up_can (hG_1.1 90 (by decide)) rfl rfl) ?_
  have hT_2 : TY (setO g2_1 90 (fup (h 90) b f)) := tu_90 hT_1 (show up g2_1 90 b f = (setO g2_1 90 (fup (h 90) b f)) from up_can (hG_1.1 90 (by decide)) rfl rfl) (by omega)
  have hF_2 : FRM [73, 83, 85, 89, 90, 91, 92, 93, 94, 95, 96, 97, 98, 99] [26, 27, 28, 29, 32, 33, 34, 36, 38, 39] h (setO g2_1 90 (fup (h 90) b f)) := FRM_up (show up g2_1 90 b f = (setO g2_1 90 (fup (h 90) b f)) from up_can (hG_1.1 90 (by decide)) rfl rfl) hF_1 (by decide) (by decide)
  refine TT_aload_n hK rfl 0 rfl dX12_tellBand_12 ?_
  refine gf_X12_69 hK (by decide) rfl (q := 91) rfl rfl dX12_tellBand_13 ?_
  refine TT_iload_n hK rfl 1 rfl dX12_tellBand_16 ?_
  refine TT_iconst hK dX12_tellBand_17 ?_
  refine TT_iast hK (o := 91) (n := 10) (by decide) rfl (by omega) (by omega) dX12_tellBand_18 ?_
  refine TT_hp (h' := setO (setO g2_1 90 (fup (h 90) b f)) 91 (fup (h 91) b 0)) (up_can ((sOf_ne _ _ (by decide)).trans (hG_1.1 91 (by decide))) rfl rfl) ?_
  have hT_3 : TY (setO (setO g2_1 90 (fup (h 90) b f)) 91 (fup (h 91) b 0)) := tu_91 hT_2 (show up (setO g2_1 90 (fup (h 90) b f)) 91 b 0 = (setO (setO g2_1 90 (fup (h 90) b f)) 91 (fup (h 91) b 0)) from up_can ((sOf_ne _ _ (by decide)).trans (hG_1.1 91 (by decide))) rfl rfl) (by omega)
  have hF_3 : FRM [73, 83, 85, 89, 90, 91, 92, 93, 94, 95, 96, 97, 98, 99] [26, 27, 28, 29, 32, 33, 34, 36, 38, 39] h (setO (setO g2_1 90 (fup (h 90) b f)) 91 (fup (h 91) b 0)) := FRM_up (show up (setO g2_1 90 (fup (h 90) b f)) 91 b 0 = (setO (setO g2_1 90 (fup (h 90) b f)) 91 (fup (h 91) b 0)) from up_can ((sOf_ne _ _ (by decide)).trans (hG_1.1 91 (by decide))) rfl rfl) hF_2 (by decide) (by decide)
  refine TT_aload_n hK rfl 0 rfl dX12_tellBand_19 ?_
  refine gf_X12_72 hK (by decide) rfl (q := 92) rfl rfl dX12_tellBand_20 ?_
  refine TT_bipush hK (by decide) dX12_tellBand_23 ?_
  refine TT_iload_n hK rfl 1 rfl dX12_tellBand_25 ?_
  refine TT_imul hK dX12_tellBand_26 ?_
  refine TT_iconst hK dX12_tellBand_27 ?_
  refine TT_iast hK (o := 92) (n := 350) (by decide) rfl (by omega) (by omega) dX12_tellBand_28 ?_
  refine TT_hp (h' := setO (setO (setO g2_1 90 (fup (h 90) b f)) 91 (fup (h 91) b 0)) 92 (fup (h 92) (35 * b) 0)) (up_can ((sOf_ne _ _ (by decide)).trans ((sOf_ne _ _ (by decide)).trans (hG_1.1 92 (by decide)))) rfl rfl) ?_
  have hT_4 : TY (setO (setO (setO g2_1 90 (fup (h 90) b f)) 91 (fup (h 91) b 0)) 92 (fup (h 92) (35 * b) 0)) := tu_92 hT_3 (show up (setO (setO g2_1 90 (fup (h 90) b f)) 91 (fup (h 91) b 0)) 92 (35 * b) 0 = (setO (setO (setO g2_1 90 (fup (h 90) b f)) 91 (fup (h 91) b 0)) 92 (fup (h 92) (35 * b) 0)) from up_can ((sOf_ne _ _ (by decide)).trans ((sOf_ne _ _ (by decide)).trans (hG_1.1 92 (by decide)))) rfl rfl) (by omega)
  have hF_4 : FRM [73, 83, 85, 89, 90, 91, 92, 93, 94, 95, 96, 97, 98, 99] [26, 27, 28, 29, 32, 33, 34, 36, 38, 39] h (setO (setO (setO g2_1 90 (fup (h 90) b f)) 91 (fup (h 91) b 0)) 92 (fup (h 92) (35 * b) 0)) := FRM_up (show up (setO (setO g2_1 90 (fup (h 90) b f)) 91 (fup (h 91) b 0)) 92 (35 * b) 0 = (setO (setO (setO g2_1 90 (fup (h 90) b f)) 91 (fup (h 91) b 0)) 92 (fup (h 92) (35 * b) 0)) from up_can ((sOf_ne _ _ (by decide)).trans ((sOf_ne _ _ (by decide)).trans (hG_1.1 92 (by decide)))) rfl rfl) hF_3 (by decide) (by decide)
  refine TT_aload_n hK rfl 0 rfl dX12_tellBand_29 ?_
  refine gf_X12_44 hK (by decide) rfl (q := 83) rfl rfl dX12_tellBand_30 ?_
  refine TT_iload_n hK rfl 1 rfl dX12_tellBand_33 ?_
  refine TT_iald hK (o := 83) (n := 20) (by decide) rfl (by first | omega | (simp [up, setR] <;> omega)) (by first | omega | (simp [up, setR] <;> omega)) (v := (g2_1 83) b) (rd_ ((sOf_ne _ _ (by decide)).trans ((sOf_ne _ _ (by decide)).trans (sOf_ne _ _ (by decide)))) rfl) dX12_tellBand_34 ?_
  have r5 := ty_83 (i := b) (v := (g2_1 83) b) hT_4 (rd_ ((sOf_ne _ _ (by decide)).trans ((sOf_ne _ _ (by decide)).trans (sOf_ne _ _ (by decide)))) rfl) (by omega) (by omega)
  refine TT_if_ne hK (tgt := 39) (irm (by omega) (by omega)) dX12_tellBand_35 (by decide) (fun hb35_6 => ?_) (fun hb35_6 => ?_)
  · have q12 := pz9_at2.1
    refine TT_aload_n hK rfl 0 rfl dX12_tellBand_39 ?_
    refine iv_X12_293 hK (s_begT_e (setO (setO (setO g2_1 90 (fup (h 90) b f)) 91 (fup (h 91) b 0)) 92 (fup (h 92) (35 * b) 0)) hT_4 ) (by decide) rfl ⟨by decide, by decide⟩ (by decide) rfl rfl (Nat.le_of_ble_eq_true rfl) ⟨by decide, by decide⟩ dX12_tellBand_40 ?_
    intro r9 g40_7 hp9
    obtain ⟨⟨hT_7, hG_7⟩, hr9, p1_7, p2_7, p3_7, p4_7, b0_7⟩ := hp9
    rw [hr9]
    have hF_7 : FRM [73, 83, 85, 89, 90, 91, 92, 93, 94, 95, 96, 97, 98, 99] [26, 27, 28, 29, 32, 33, 34, 36, 38, 39] h g40_7 := FRM_tr hF_4 hG_7 (by decide) (by decide)
    have b0_at40 := b0_7
    show TT K ly 0 0 43 [(0, vR 73), (1, vI b), (2, vI f)] [] g40_7
    refine TT_aload_n hK rfl 0 rfl dX12_tellBand_43 ?_
    refine TT_iload_n hK rfl 1 rfl dX12_tellBand_44 ?_
    refine TT_aload_n hK rfl 0 rfl dX12_tellBand_45 ?_
    refine TT_iload_n hK rfl 1 rfl dX12_tellBand_46 ?_
    refine iv_X12_296 hK (s_passesOf_x b g40_7 hT_7 (by first | omega | (simp [up, setR] <;> omega))) (by decide) rfl ⟨by decide, by decide⟩ (by decide) rfl rfl (Nat.le_of_ble_eq_true rfl) ⟨by decide, by decide⟩ dX12_tellBand_47 ?_
    intro r9 g47_8 hp9
    obtain ⟨⟨hT_8, hG_8⟩, z47_8, hr9, hz_8, p1_8, p2_8⟩ := hp9
    rw [hr9]
    have hE_8 : g40_7 = g47_8 := (funext (fun o9 => hG_8.1 o9 (List.not_mem_nil))).symm
    subst hE_8
    rw [show g40_7 83 = g2_1 83 from ((hG_7.1 83 (by decide))).trans ((sOf_ne _ _ (by decide)).trans ((sOf_ne _ _ (by decide)).trans (sOf_ne _ _ (by decide))))] at p2_8
    have p2_at47 := p2_8
    show TT K ly 0 0 50 [(0, vR 73), (1, vI b), (2, vI f)] [vI z47_8, vI b, vR 73] g40_7
    have z1 := PhS_r (g40_7 96)
    have v1 : z47_8 * (h 80 b * h 81 b) ≤ 34 * (h 80 b * h 81 b) := Int.mul_le_mul_of_nonneg_right (by omega) ra0
    have e9_74 : g40_7 74 = h 74 := ((hG_7.1 74 (by decide))).trans ((sOf_ne _ _ (by decide)).trans ((sOf_ne _ _ (by decide)).trans ((sOf_ne _ _ (by decide)).trans (hG_1.1 74 (by decide)))))
    have e10_75 : g40_7 75 = h 75 := ((hG_7.1 75 (by decide))).trans ((sOf_ne _ _ (by decide)).trans ((sOf_ne _ _ (by decide)).trans ((sOf_ne _ _ (by decide)).trans (hG_1.1 75 (by decide)))))
    have e11_73_32 : g40_7 73 32 = (g40_7 73) 32 := rfl
    have e12_73_29 : g40_7 73 29 = (g40_7 73) 29 := rfl
    have e13_73_29 : g40_7 73 29 = (g40_7 73) 29 := rfl
    have e14_73_34 : g40_7 73 34 = (g40_7 73) 34 := rfl
    have e15_73_36 : g40_7 73 36 = (g40_7 73) 36 := rfl
    have e16_80 : g40_7 80 = h 80 := ((hG_7.1 80 (by decide))).trans ((sOf_ne _ _ (by decide)).trans ((sOf_ne _ _ (by decide)).trans ((sOf_ne _ _ (by decide)).trans (hG_1.1 80 (by decide)))))
    have e17_81 : g40_7 81 = h 81 := ((hG_7.1 81 (by decide))).trans ((sOf_ne _ _ (by decide)).trans ((sOf_ne _ _ (by decide)).trans ((sOf_ne _ _ (by decide)).trans (hG_1.1 81 (by decide)))))
    have e18_80 : g40_7 80 = h 80 := ((hG_7.1 80 (by decide))).trans ((sOf_ne _ _ (by decide)).trans ((sOf_ne _ _ (by decide)).trans ((sOf_ne _ _ (by decide)).trans (hG_1.1 80 (by decide)))))
    have e19_81 : g40_7 81 = h 81 := ((hG_7.1 81 (by decide))).trans ((sOf_ne _ _ (by decide)).trans ((sOf_ne _ _ (by decide)).trans ((sOf_ne _ _ (by decide)).trans (hG_1.1 81 (by decide)))))
    have e20_84 : g40_7 84 = h 84 := ((hG_7.1 84 (by decide))).trans ((sOf_ne _ _ (by decide)).trans ((sOf_ne _ _ (by decide)).trans ((sOf_ne _ _ (by decide)).trans (hG_1.1 84 (by decide)))))
    have e21_85 : g40_7 85 = h 85 := ((hG_7.1 85 (by decide))).trans ((sOf_ne _ _ (by decide)).trans ((sOf_ne _ _ (by decide)).trans ((sOf_ne _ _ (by decide)).trans (hG_1.1 85 (by decide)))))
    have e22_83 : g40_7 83 = g2_1 83 := ((hG_7.1 83 (by decide))).trans ((sOf_ne _ _ (by decide)).trans ((sOf_ne _ _ (by decide)).trans (sOf_ne _ _ (by decide))))
    have e23_83 : g40_7 83 = g2_1 83 := ((hG_7.1 83 (by decide))).trans ((sOf_ne _ _ (by decide)).trans ((sOf_ne _ _ (by decide)).trans (sOf_ne _ _ (by decide))))
    refine iv_X12_299 hK (s_walk_x 0 (((g40_7 73) 32, (g40_7 73) 33, (g40_7 73) 34, (g40_7 73) 36, g40_7 96, g40_7 97, g40_7 98) : ES_) D00 M s b z47_8 g40_7 hT_7 (by first | omega | (simp [up, setR] <;> omega)) (by first | omega | (simp [up, setR] <;> omega)) (by rewrite [e9_74, e10_75]; first | assumption | exact htb) (by rewrite [e11_73_32]; first | omega | (simp [up, setR] <;> omega)) (by rewrite [e12_73_29]; first | omega | (simp [up, setR] <;> omega)) (by rewrite [e13_73_29, e14_73_34, e15_73_36, e16_80, e17_81]; first | omega | (simp [up, setR] <;> omega)) (by exact Or.inl rfl) (by exact hs0) (by rewrite [e18_80, e19_81, e20_84, e21_85]; exact hms) (by exact CQ_b b0_at40 (by omega) rfl) (by first | omega | (simp [up, setR] <;> omega)) (by rewrite [e22_83]; first | omega | (simp [up, setR] <;> omega)) (by rewrite [e23_83]; first | omega | (simp [up, setR] <;> omega))) (by decide) rfl ⟨by decide, by decide⟩ (by decide) rfl rfl (Nat.le_of_ble_eq_true rfl) ⟨by decide, by decide⟩ dX12_tellBand_50 ?_
    intro r9 g50_24 hp9
    obtain ⟨⟨hT_24, hG_24⟩, hr9, pa_24, pm_24, pk_24, wk9_24⟩ := hp9
    rw [hr9]
    have hF_24 : FRM [73, 83, 85, 89, 90, 91, 92, 93, 94, 95, 96, 97, 98, 99] [26, 27, 28, 29, 32, 33, 34, 36, 38, 39] h g50_24 := FRM_tr hF_7 hG_24 (by decide) (by decide)
    rw [show g40_7 73 29 = (g40_7 73) 29 from rfl] at pm_24
    rw [show g40_7 73 34 = (g40_7 73) 34 from rfl] at pm_24
    rw [show g40_7 73 36 = (g40_7 73) 36 from rfl] at pm_24
    rw [show g40_7 80 = h 80 from ((hG_7.1 80 (by decide))).trans ((sOf_ne _ _ (by decide)).trans ((sOf_ne _ _ (by decide)).trans ((sOf_ne _ _ (by decide)).trans (hG_1.1 80 (by decide)))))] at pm_24
    rw [show g40_7 81 = h 81 from ((hG_7.1 81 (by decide))).trans ((sOf_ne _ _ (by decide)).trans ((sOf_ne _ _ (by decide)).trans ((sOf_ne _ _ (by decide)).trans (hG_1.1 81 (by decide)))))] at pm_24
    rw [show g40_7 84 = h 84 from ((hG_7.1 84 (by decide))).trans ((sOf_ne _ _ (by decide)).trans ((sOf_ne _ _ (by decide)).trans ((sOf_ne _ _ (by decide)).trans (hG_1.1 84 (by decide)))))] at pk_24
    rw [show g40_7 85 = h 85 from ((hG_7.1 85 (by decide))).trans ((sOf_ne _ _ (by decide)).trans ((sOf_ne _ _ (by decide)).trans ((sOf_ne _ _ (by decide)).trans (hG_1.1 85 (by decide)))))] at pk_24
    rw [show g40_7 80 = h 80 from ((hG_7.1 80 (by decide))).trans ((sOf_ne _ _ (by decide)).trans ((sOf_ne _ _ (by decide)).trans ((sOf_ne _ _ (by decide)).trans (hG_1.1 80 (by decide)))))] at wk9_24
    rw [show g40_7 81 = h 81 from ((hG_7.1 81 (by decide))).trans ((sOf_ne _ _ (by decide)).trans ((sOf_ne _ _ (by decide)).trans ((sOf_ne _ _ (by decide)).trans (hG_1.1 81 (by decide)))))] at wk9_24
    rw [show g40_7 82 = h 82 from ((hG_7.1 82 (by decide))).trans ((sOf_ne _ _ (by decide)).trans ((sOf_ne _ _ (by decide)).trans ((sOf_ne _ _ (by decide)).trans (hG_1.1 82 (by decide)))))] at wk9_24
    rw [show g40_7 83 = g2_1 83 from ((hG_7.1 83 (by decide))).trans ((sOf_ne _ _ (by decide)).trans ((sOf_ne _ _ (by decide)).trans (sOf_ne _ _ (by decide))))] at wk9_24
    have pk_at50 := pk_24
    have wk9_at50 := wk9_24
    show TT K ly 0 0 53 [(0, vR 73), (1, vI b), (2, vI f)] [] g50_24
    refine TT_aload_n hK rfl 0 rfl dX12_tellBand_53 ?_
    have z2 := PhS_r (g50_24 96)
    have q34 := ty_73_34 (v := g50_24 73 34) hT_24 rfl
    have e25_73_36 : g50_24 73 36 = (g50_24 73) 36 := rfl
    have e26_73_32 : g50_24 73 32 = (g50_24 73) 32 := rfl
    have e27_73_33 : g50_24 73 33 = (g50_24 73) 33 := rfl
    have e28_73_34 : g50_24 73 34 = (g50_24 73) 34 := rfl
    have e29_73_36 : g50_24 73 36 = (g50_24 73) 36 := rfl
    have e30_73_32 : g50_24 73 32 = (g50_24 73) 32 := rfl
    refine iv_X12_302 hK (s_endT_e g50_24 hT_24 (by rewrite [e25_73_36]; first | omega | (simp [up, setR] <;> omega)) (by rewrite [e26_73_32, e27_73_33, e28_73_34, e29_73_36]; exact CQ_mq wk9_at50 rfl) (by rewrite [e30_73_32]; first | omega | (simp [up, setR] <;> omega))) (by decide) rfl ⟨by decide, by decide⟩ (by decide) rfl rfl (Nat.le_of_ble_eq_true rfl) ⟨by decide, by decide⟩ dX12_tellBand_54 ?_
    intro r9 g54_31 hp9
    obtain ⟨⟨hT_31, hG_31⟩, hr9, p1_31, et_31⟩ := hp9
    rw [hr9]
    have hF_31 : FRM [73, 83, 85, 89, 90, 91, 92, 93, 94, 95, 96, 97, 98, 99] [26, 27, 28, 29, 32, 33, 34, 36, 38, 39] h g54_31 := FRM_tr hF_24 hG_31 (by decide) (by decide)
    rw [show g50_24 73 36 = (g50_24 73) 36 from rfl] at p1_31
    rw [show g50_24 73 32 = (g50_24 73) 32 from rfl] at et_31
    rw [show g50_24 73 33 = (g50_24 73) 33 from rfl] at et_31
    rw [show g50_24 73 34 = (g50_24 73) 34 from rfl] at et_31
    rw [show g50_24 73 36 = (g50_24 73) 36 from rfl] at et_31
    have et_at54 := et_31
    show TT K ly 0 0 57 [(0, vR 73), (1, vI b), (2, vI f)] [] g54_31
    refine TT_aload_n hK rfl 0 rfl dX12_tellBand_57 ?_
    refine gf_X12_69 hK (by decide) rfl (q := 91) rfl rfl dX12_tellBand_58 ?_
    refine TT_iload_n hK rfl 1 rfl dX12_tellBand_61 ?_
    refine TT_aload_n hK rfl 0 rfl dX12_tellBand_62 ?_
    refine gf_X12_166 hK (by decide) rfl (v := (g54_31 73) 36) rfl dX12_tellBand_63 ?_
    have r32 := ty_73_36 (v := (g54_31 73) 36) hT_31 rfl
    refine TT_iconst hK dX12_tellBand_66 ?_
    refine TT_isub hK dX12_tellBand_67 ?_
    refine TT_iast hK (o := 91) (n := 10) (by decide) rfl (by omega) (by omega) dX12_tellBand_68 ?_
    refine TT_hp (h' := setO g54_31 91 (fup (h 91) b (((g54_31 73) 36) - 1))) (up_can (((hG_31.1 91 (by decide))).trans (((hG_24.1 91 (by decide))).trans (((hG_7.1 91 (by decide))).trans ((sOf_ne _ _ (by decide)).trans (sOf_eq _ _ _))))) (fup_same _ _ _ _) rfl) ?_
    have hT_33 : TY (setO g54_31 91 (fup (h 91) b (((g54_31 73) 36) - 1))) := tu_91 hT_31 (show up g54_31 91 b (((g54_31 73) 36) - 1) = (setO g54_31 91 (fup (h 91) b (((g54_31 73) 36) - 1))) from up_can (((hG_31.1 91 (by decide))).trans (((hG_24.1 91 (by decide))).trans (((hG_7.1 91 (by decide))).trans ((sOf_ne _ _ (by decide)).trans (sOf_eq _ _ _))))) (fup_same _ _ _ _) rfl) (by omega)
    have hF_33 : FRM [73, 83, 85, 89, 90, 91, 92, 93, 94, 95, 96, 97, 98, 99] [26, 27, 28, 29, 32, 33, 34, 36, 38, 39] h (setO g54_31 91 (fup (h 91) b (((g54_31 73) 36) - 1))) := FRM_up (show up g54_31 91 b (((g54_31 73) 36) - 1) = (setO g54_31 91 (fup (h 91) b (((g54_31 73) 36) - 1))) from up_can (((hG_31.1 91 (by decide))).trans (((hG_24.1 91 (by decide))).trans (((hG_7.1 91 (by decide))).trans ((sOf_ne _ _ (by decide)).trans (sOf_eq _ _ _))))) (fup_same _ _ _ _) rfl) hF_31 (by decide) (by decide)
    refine TT_iconst hK dX12_tellBand_69 ?_
    refine TT_istore_n hK rfl (lv' := [(3, vI 1), (0, vR 73), (1, vI b), (2, vI f)]) (by decide) rfl dX12_tellBand_70 ?_
    have L71_34 : ∀ (k34 : Nat) (k : Int) (w71_34 : Hp_), TY w71_34 → FRM [73, 83, 85, 89, 90, 91, 92, 93, 94, 95, 96, 97, 98, 99] [26, 27, 28, 29, 32, 33, 34, 36, 38, 39] h w71_34 → (1 ≤ k ∧ k ≤ (w71_34 73 36)) → ((w71_34 73 36) ≤ 48 * (h 80 b * h 81 b) + 31) → ((w71_34 91) b + 1 = (w71_34 73 36)) → ((w71_34 90) b = f) → (MIQ (w71_34 90) (w71_34 91)) → (LQ (w71_34 83) (w71_34 91) (w71_34 92) b) → ((w71_34 92) (35 * b) = 0) → (∀ j : Int, j ≠ b → (w71_34 91) j = h 91 j) → (∀ j : Int, j < 640 → (w71_34 84) j = h 84 j ∧ (w71_34 85) j = h 85 j) → (PZQ (h 84) b (64 * b + 64) ((w71_34 83) b)) → (∀ j : Int, j ≠ b → (w71_34 83) j = h 83 j) → ((w71_34 83) b ≠ 0) → ((w71_34 90) = fup (h 90) b f) → (∀ j : Int, j < f → (w71_34 89) j = h 89 j) → (ETQ M s (h 80 b) (h 81 b) (h 82 b) ((w71_34 83) b) (w71_34 98) (w71_34 73 36)) → (∀ j : Int, 1 ≤ j → j < k → (w71_34 89) (f + j - 1) = (w71_34 98) j) → (∀ j : Int, j < 35 * b → (w71_34 92) j = h 92 j) → ((3200 : Int) - k).toNat < k34 → TT K ly 0 0 71 [(0, vR 73), (1, vI b), (2, vI f), (3, vI k)] [] w71_34 := by
      intro k34
      induction k34 with
      | zero => intro k w71_34 hT71_34 hF71_34 hk ho hwb hwf hmi hlq hl0 h91f pki hP9 k83f hq0 k90 hWk hE9 hW k92 hk34; exact absurd hk34 (Nat.not_lt_zero _)
      | succ k34 ih34 =>
        intro k w71_34 hT71_34 hF71_34 hk ho hwb hwf hmi hlq hl0 h91f pki hP9 k83f hq0 k90 hWk hE9 hW k92 hk34
        refine TT_iload_n hK rfl 3 rfl dX12_tellBand_71 ?_
        refine TT_aload_n hK rfl 0 rfl dX12_tellBand_72 ?_
        refine gf_X12_166 hK (by decide) rfl (v := (w71_34 73) 36) rfl dX12_tellBand_73 ?_
        have r35 := ty_73_36 (v := (w71_34 73) 36) hT71_34 rfl
        refine TT_icmp_ge hK (tgt := 101) (irm (by omega) (by omega)) (irm (by omega) (by omega)) dX12_tellBand_76 (by decide) (fun hb76_36 => ?_) (fun hb76_36 => ?_)
        · refine TT_aload_n hK rfl 0 rfl dX12_tellBand_101 ?_
          refine TT_iload_n hK rfl 1 rfl dX12_tellBand_102 ?_
          refine iv_X12_305 hK (s_useWord_e b w71_34 hT71_34 (by first | omega | (simp [up, setR] <;> omega)) (by have := hmi b (by omega) (by omega); omega)) (by decide) rfl ⟨by decide, by decide⟩ (by decide) rfl rfl (Nat.le_of_ble_eq_true rfl) ⟨by decide, by decide⟩ dX12_tellBand_103 ?_
          intro r9 g103_37 hp9
          obtain ⟨⟨hT_37, hG_37⟩, hr9, uw_37⟩ := hp9
          rw [hr9]
          have hF_37 : FRM [73, 83, 85, 89, 90, 91, 92, 93, 94, 95, 96, 97, 98, 99] [26, 27, 28, 29, 32, 33, 34, 36, 38, 39] h g103_37 := FRM_tr hF71_34 hG_37 (by decide) (by decide)
          have uw_at103 := uw_37
          show TT K ly 0 0 106 [(0, vR 73), (1, vI b), (2, vI f), (3, vI k)] [] g103_37
          refine TT_iconst hK dX12_tellBand_106 ?_
          refine TT_istore_n hK rfl (lv' := [(3, vI 0), (0, vR 73), (1, vI b), (2, vI f)]) (by decide) rfl dX12_tellBand_107 ?_
          refine TT_iconst hK dX12_tellBand_108 ?_
          refine TT_istore hK (lv' := [(4, vI 1), (3, vI 0), (0, vR 73), (1, vI b), (2, vI f)]) (by decide) rfl dX12_tellBand_109 ?_
          have L111_38 : ∀ (k38 : Nat) (n : Int) (p : Int) (w111_38 : Hp_), TY w111_38 → FRM [73, 83, 85, 89, 90, 91, 92, 93, 94, 95, 96, 97, 98, 99] [26, 27, 28, 29, 32, 33, 34, 36, 38, 39] h w111_38 → (1 ≤ p ∧ p ≤ 40) → (0 ≤ n ∧ n ≤ (w111_38 91) b) → ((w111_38 91) b ≤ 48 * (h 80 b * h 81 b) + 30) → (MIQ (w111_38 90) (w111_38 91)) → (LQ (w111_38 83) (w111_38 91) (w111_38 92) b) → (∀ j : Int, j ≠ b → (w111_38 91) j = h 91 j) → (∀ i j : Int, 0 ≤ i → i ≤ j → j < p → (w111_38 92) (35 * b + i) ≤ (w111_38 92) (35 * b + j) ∧ (w111_38 92) (35 * b + j) ≤ n) → (∀ j : Int, j < 640 → (w111_38 84) j = h 84 j ∧ (w111_38 85) j = h 85 j) → (PZQ (h 84) b (64 * b + 64) ((w111_38 83) b)) → (∀ j : Int, j ≠ b → (w111_38 83) j = h 83 j) → ((w111_38 90) = fup (h 90) b f) → (∀ j : Int, j < f → (w111_38 89) j = h 89 j) → (CWR M s (h 80 b) (h 81 b) (h 82 b) ((w111_38 83) b) (fun i => (w111_38 89) (f + i)) ((w111_38 91) b)) → (p ≤ pas ((w111_38 83) b) + 1) → ((w111_38 83) b ≠ 0) → (∀ j : Int, j < 35 * b → (w111_38 92) j = h 92 j) → ((w111_38 92) (35 * b) = 0) → (∀ j : Int, 0 ≤ j → j < (w111_38 91) b → (w111_38 99) j = (fun i => (w111_38 89) (f + i)) j) → (LSX M s (h 80 b) (h 81 b) (h 82 b) ((w111_38 83) b) (fun i => (w111_38 89) (f + i)) (w111_38 92) (35 * b) p) → (∀ m : Int, 0 ≤ m → m < n → ¬ RTM (fun i => (w111_38 89) (f + i)) m (TLp M s (h 80 b) (h 81 b) (h 82 b) ((w111_38 83) b) p)) → ((40 : Int) - p).toNat < k38 → TT K ly 0 0 111 [(0, vR 73), (1, vI b), (2, vI f), (3, vI n), (4, vI p)] [] w111_38 := by
            intro k38
            induction k38 with
            | zero => intro n p w111_38 hT111_38 hF111_38 hp hn hws hmi hlq h91f hlb pki hP9 k83f k90 hWk hC9 hpl1 hq0 k92 hl0 h99 hls hnm hk38; exact absurd hk38 (Nat.not_lt_zero _)
            | succ k38 ih38 =>
              intro n p w111_38 hT111_38 hF111_38 hp hn hws hmi hlq h91f hlb pki hP9 k83f k90 hWk hC9 hpl1 hq0 k92 hl0 h99 hls hnm hk38
              refine TT_iload hK 4 rfl dX12_tellBand_111 ?_
              refine TT_aload_n hK rfl 0 rfl dX12_tellBand_113 ?_
              refine TT_iload_n hK rfl 1 rfl dX12_tellBand_114 ?_
              refine iv_X12_296 hK (s_passesOf_x b w111_38 hT111_38 (by first | omega | (simp [up, setR] <;> omega))) (by decide) rfl ⟨by decide, by decide⟩ (by decide) rfl rfl (Nat.le_of_ble_eq_true rfl) ⟨by decide, by decide⟩ dX12_tellBand_115 ?_
              intro r9 g115_39 hp9
              obtain ⟨⟨hT_39, hG_39⟩, z115_39, hr9, hz_39, p1_39, p2_39⟩ := hp9
              rw [hr9]
              have hE_39 : w111_38 = g115_39 := (funext (fun o9 => hG_39.1 o9 (List.not_mem_nil))).symm
              subst hE_39
              have p2_at115 := p2_39
              show TT K ly 0 0 118 [(0, vR 73), (1, vI b), (2, vI f), (3, vI n), (4, vI p)] [vI z115_39, vI p] w111_38
              refine TT_icmp_gt hK (tgt := 216) (irm (by omega) (by omega)) (irm (by omega) (by omega)) dX12_tellBand_118 (by decide) (fun hb118_40 => ?_) (fun hb118_40 => ?_)
              · refine TT_vret hK hQ ?_ dX12_tellBand_216
                have e41_84 : w111_38 84 = h 84 := (hF111_38.1 84 (by decide))
                exact ⟨⟨hT111_38, hF111_38⟩, rfl, (by first | omega | (rw [fup_eq]; omega)), (by first | assumption | exact MIQ_up hmi (by omega)), (by first | exact LQ_0 hlq (by assumption) (by assumption) | exact LQ_s hlq (fun i j h1 h2 h3 => by have k9 := hlb i j h1 h2 (by omega); omega)), (by first | exact h91f | (intro j hj; exact fup_ne _ _ hj)), (by rewrite [e41_84]; first | (first | (first | exact pki | (intro j hj; exact ⟨rfl, rfl⟩)) | (intro j hj; exact ⟨rfl, (pk_at50 j hj).2.trans (pki j hj).2⟩) | (intro j hj; exact ⟨rfl, (pk_at50 j hj).2⟩) | (intro j hj; exact ⟨rfl, (pki j hj).2⟩) | (intro j hj; exact ⟨rfl, rfl⟩)) | (intro j hj; exact ⟨rfl, (pk_at50 j hj).2.trans (pki j hj).2⟩) | (intro j hj; exact ⟨rfl, (pk_at50 j hj).2⟩) | (intro j hj; exact ⟨rfl, (pki j hj).2⟩) | (intro j hj; exact ⟨rfl, rfl⟩)), (by first | exact hC9 | exact CWR_0 (by omega) (fup_eq _ _ _)), (by first | exact hP9 | exact pz9_at2), (by first | exact hWk | (intro j hj; rfl)), (by first | rfl | exact k90), (by first | exact k83f | exact q1_at2), (by first | exact LSX_u hls (by omega) | exact LSX_0 (by assumption)), (by first | exact k92 | (intro j hj; exact fup_ne _ _ (by omega))), (by first | exact hl0 | exact fup_eq _ _ _)⟩
              · refine TT_aload_n hK rfl 0 rfl dX12_tellBand_121 ?_
                refine TT_iconst hK dX12_tellBand_122 ?_
                refine pf_X12_227 hK (by decide) rfl (by first | decide | omega) dX12_tellBand_123 ?_
                refine TT_hp (h' := setO w111_38 73 (fup (w111_38 73) 28 1)) (up_can rfl rfl rfl) ?_
                have hT_42 : TY (setO w111_38 73 (fup (w111_38 73) 28 1)) := tu_73_28 hT111_38 (show up w111_38 73 28 1 = (setO w111_38 73 (fup (w111_38 73) 28 1)) from up_can rfl rfl rfl) (by omega)
                have hF_42 : FRM [73, 83, 85, 89, 90, 91, 92, 93, 94, 95, 96, 97, 98, 99] [26, 27, 28, 29, 32, 33, 34, 36, 38, 39] h (setO w111_38 73 (fup (w111_38 73) 28 1)) := FRM_f (show up w111_38 73 28 1 = (setO w111_38 73 (fup (w111_38 73) 28 1)) from up_can rfl rfl rfl) hF111_38 (by decide) (by decide)
                refine TT_iload_n hK rfl 3 rfl dX12_tellBand_126 ?_
                refine TT_iconst hK dX12_tellBand_127 ?_
                refine TT_isub hK dX12_tellBand_128 ?_
                refine TT_istore_n hK rfl (lv' := [(3, vI (n - 1)), (0, vR 73), (1, vI b), (2, vI f), (4, vI p)]) (by decide) rfl dX12_tellBand_129 ?_
                have L130_43 : ∀ (k43 : Nat) (n2 : Int) (w130_43 : Hp_), TY w130_43 → FRM [73, 83, 85, 89, 90, 91, 92, 93, 94, 95, 96, 97, 98, 99] [26, 27, 28, 29, 32, 33, 34, 36, 38, 39] h w130_43 → (-1 ≤ n2 ∧ n2 ≤ (w130_43 91) b) → ((w130_43 73 28) = 1 → n2 < (w130_43 91) b) → (n - 1 ≤ n2) → ((w130_43 73 28) = 0 → n ≤ n2) → ((w130_43 91) b ≤ 48 * (h 80 b * h 81 b) + 30) → (MIQ (w130_43 90) (w130_43 91)) → (LQ (w130_43 83) (w130_43 91) (w130_43 92) b) → (∀ j : Int, j ≠ b → (w130_43 91) j = h 91 j) → (∀ i j : Int, 0 ≤ i → i ≤ j → j < p → (w130_43 92) (35 * b + i) ≤ (w130_43 92) (35 * b + j) ∧ (w130_43 92) (35 * b + j) ≤ n) → (∀ j : Int, j < 640 → (w130_43 84) j = h 84 j ∧ (w130_43 85) j = h 85 j) → (PZQ (h 84) b (64 * b + 64) ((w130_43 83) b)) → (∀ j : Int, j ≠ b → (w130_43 83) j = h 83 j) → ((w130_43 90) = fup (h 90) b f) → (∀ j : Int, j < f → (w130_43 89) j = h 89 j) → (CWR M s (h 80 b) (h 81 b) (h 82 b) ((w130_43 83) b) (fun i => (w130_43 89) (f + i)) ((w130_43 91) b)) → ((w130_43 83) b ≠ 0) → (∀ j : Int, j < 35 * b → (w130_43 92) j = h 92 j) → ((w130_43 92) (35 * b) = 0) → (∀ j : Int, 0 ≤ j → j < (w130_43 91) b → (w130_43 99) j = (fun i => (w130_43 89) (f + i)) j) → (LSX M s (h 80 b) (h 81 b) (h 82 b) ((w130_43 83) b) (fun i => (w130_43 89) (f + i)) (w130_43 92) (35 * b) p) → (p ≤ pas ((w130_43 83) b)) → ((w130_43 73 28) = 0 → RTM (fun i => (w130_43 89) (f + i)) n2 (TLp M s (h 80 b) (h 81 b) (h 82 b) ((w130_43 83) b) p)) → (∀ m : Int, 0 ≤ m → m ≤ n2 → (m = n2 → (w130_43 73 28) ≠ 0) → ¬ RTM (fun i => (w130_43 89) (f + i)) m (TLp M s (h 80 b) (h 81 b) (h 82 b) ((w130_43 83) b) p)) → ((4401 : Int) - n2).toNat < k43 → TT K ly 0 0 130 [(0, vR 73), (1, vI b), (2, vI f), (3, vI n2), (4, vI p)] [] w130_43 := by
                  intro k43
                  induction k43 with
                  | zero => intro n2 w130_43 hT130_43 hF130_43 hn2 hn3 hn5 hn4 hws hmi hlq h91f hlb pki hP9 k83f k90 hWk hC9 hq0 k92 hl0 h99 hls hpp hw1 hw2 hk43; exact absurd hk43 (Nat.not_lt_zero _)
                  | succ k43 ih43 =>
                    intro n2 w130_43 hT130_43 hF130_43 hn2 hn3 hn5 hn4 hws hmi hlq h91f hlb pki hP9 k83f k90 hWk hC9 hq0 k92 hl0 h99 hls hpp hw1 hw2 hk43
                    refine TT_aload_n hK rfl 0 rfl dX12_tellBand_130 ?_
                    refine gf_X12_227 hK (by decide) rfl (v := (w130_43 73) 28) rfl dX12_tellBand_131 ?_
                    have r44 := ty_73_28 (v := (w130_43 73) 28) hT130_43 rfl
                    refine TT_if_eq hK (tgt := 197) (irm (by omega) (by omega)) dX12_tellBand_134 (by decide) (fun hb134_45 => ?_) (fun hb134_45 => ?_)
                    · refine TT_aload_n hK rfl 0 rfl dX12_tellBand_197 ?_
                      refine gf_X12_72 hK (by decide) rfl (q := 92) rfl rfl dX12_tellBand_198 ?_
                      refine TT_bipush hK (by decide) dX12_tellBand_201 ?_
                      refine TT_iload_n hK rfl 1 rfl dX12_tellBand_203 ?_
                      refine TT_imul hK dX12_tellBand_204 ?_
                      refine TT_iload hK 4 rfl dX12_tellBand_205 ?_
                      refine TT_iadd hK dX12_tellBand_207 ?_
                      refine TT_iload_n hK rfl 3 rfl dX12_tellBand_208 ?_
                      refine TT_iast hK (o := 92) (n := 350) (by decide) rfl (by omega) (by omega) dX12_tellBand_209 ?_
                      refine TT_hp (h' := setO w130_43 92 (fup (w130_43 92) ((35 * b) + p) n2)) (up_can rfl rfl rfl) ?_
                      have hT_46 : TY (setO w130_43 92 (fup (w130_43 92) ((35 * b) + p) n2)) := tu_92 hT130_43 (show up w130_43 92 ((35 * b) + p) n2 = (setO w130_43 92 (fup (w130_43 92) ((35 * b) + p) n2)) from up_can rfl rfl rfl) (by omega)
                      have hF_46 : FRM [73, 83, 85, 89, 90, 91, 92, 93, 94, 95, 96, 97, 98, 99] [26, 27, 28, 29, 32, 33, 34, 36, 38, 39] h (setO w130_43 92 (fup (w130_43 92) ((35 * b) + p) n2)) := FRM_up (show up w130_43 92 ((35 * b) + p) n2 = (setO w130_43 92 (fup (w130_43 92) ((35 * b) + p) n2)) from up_can rfl rfl rfl) hF130_43 (by decide) (by decide)
                      refine TT_iinc hK (v := p + 1) (lv' := [(4, vI (p + 1)), (0, vR 73), (1, vI b), (2, vI f), (3, vI n2)]) 4 rfl rfl (by decide) rfl dX12_tellBand_210 ?_
                      refine TT_goto hK (tgt := 111) dX12_tellBand_213 (by decide) ?_
                      refine TT_sub [1, 2, 3, 4, 0] rfl ?_
                      have e47_91 : (setO w130_43 92 (fup (w130_43 92) ((35 * b) + p) n2)) 91 = w130_43 91 := sOf_ne _ _ (by decide)
                      have e48_91 : (setO w130_43 92 (fup (w130_43 92) ((35 * b) + p) n2)) 91 = w130_43 91 := sOf_ne _ _ (by decide)
                      have e49_90 : (setO w130_43 92 (fup (w130_43 92) ((35 * b) + p) n2)) 90 = w130_43 90 := sOf_ne _ _ (by decide)
                      have e50_91 : (setO w130_43 92 (fup (w130_43 92) ((35 * b) + p) n2)) 91 = w130_43 91 := sOf_ne _ _ (by decide)
                      have e51_83 : (setO w130_43 92 (fup (w130_43 92) ((35 * b) + p) n2)) 83 = w130_43 83 := sOf_ne _ _ (by decide)
                      have e52_91 : (setO w130_43 92 (fup (w130_43 92) ((35 * b) + p) n2)) 91 = w130_43 91 := sOf_ne _ _ (by decide)
                      have e53_92 : (setO w130_43 92 (fup (w130_43 92) ((35 * b) + p) n2)) 92 = fup (w130_43 92) ((35 * b) + p) n2 := sOf_eq _ _ _
                      have e54_91 : (setO w130_43 92 (fup (w130_43 92) ((35 * b) + p) n2)) 91 = w130_43 91 := sOf_ne _ _ (by decide)
                      have e55_92 : (setO w130_43 92 (fup (w130_43 92) ((35 * b) + p) n2)) 92 = fup (w130_43 92) ((35 * b) + p) n2 := sOf_eq _ _ _
                      have e56_84 : (setO w130_43 92 (fup (w130_43 92) ((35 * b) + p) n2)) 84 = h 84 := (sOf_ne _ _ (by decide)).trans (hF130_43.1 84 (by decide))
                      have e57_85 : (setO w130_43 92 (fup (w130_43 92) ((35 * b) + p) n2)) 85 = w130_43 85 := sOf_ne _ _ (by decide)
                      have e58_83 : (setO w130_43 92 (fup (w130_43 92) ((35 * b) + p) n2)) 83 = w130_43 83 := sOf_ne _ _ (by decide)
                      have e59_83 : (setO w130_43 92 (fup (w130_43 92) ((35 * b) + p) n2)) 83 = w130_43 83 := sOf_ne _ _ (by decide)
                      have e60_90 : (setO w130_43 92 (fup (w130_43 92) ((35 * b) + p) n2)) 90 = w130_43 90 := sOf_ne _ _ (by decide)
                      have e61_89 : (setO w130_43 92 (fup (w130_43 92) ((35 * b) + p) n2)) 89 = w130_43 89 := sOf_ne _ _ (by decide)
                      have e62_83 : (setO w130_43 92 (fup (w130_43 92) ((35 * b) + p) n2)) 83 = w130_43 83 := sOf_ne _ _ (by decide)
                      have e63_89 : (setO w130_43 92 (fup (w130_43 92) ((35 * b) + p) n2)) 89 = w130_43 89 := sOf_ne _ _ (by decide)
                      have e64_91 : (setO w130_43 92 (fup (w130_43 92) ((35 * b) + p) n2)) 91 = w130_43 91 := sOf_ne _ _ (by decide)
                      have e65_83 : (setO w130_43 92 (fup (w130_43 92) ((35 * b) + p) n2)) 83 = w130_43 83 := sOf_ne _ _ (by decide)
                      have e66_83 : (setO w130_43 92 (fup (w130_43 92) ((35 * b) + p) n2)) 83 = w130_43 83 := sOf_ne _ _ (by decide)
                      have e67_92 : (setO w130_43 92 (fup (w130_43 92) ((35 * b) + p) n2)) 92 = fup (w130_43 92) ((35 * b) + p) n2 := sOf_eq _ _ _
                      have e68_92 : (setO w130_43 92 (fup (w130_43 92) ((35 * b) + p) n2)) 92 = fup (w130_43 92) ((35 * b) + p) n2 := sOf_eq _ _ _
                      have e69_89 : (setO w130_43 92 (fup (w130_43 92) ((35 * b) + p) n2)) 89 = w130_43 89 := sOf_ne _ _ (by decide)
                      have e70_91 : (setO w130_43 92 (fup (w130_43 92) ((35 * b) + p) n2)) 91 = w130_43 91 := sOf_ne _ _ (by decide)
                      have e71_99 : (setO w130_43 92 (fup (w130_43 92) ((35 * b) + p) n2)) 99 = w130_43 99 := sOf_ne _ _ (by decide)
                      have e72_83 : (setO w130_43 92 (fup (w130_43 92) ((35 * b) + p) n2)) 83 = w130_43 83 := sOf_ne _ _ (by decide)
                      have e73_89 : (setO w130_43 92 (fup (w130_43 92) ((35 * b) + p) n2)) 89 = w130_43 89 := sOf_ne _ _ (by decide)
                      have e74_92 : (setO w130_43 92 (fup (w130_43 92) ((35 * b) + p) n2)) 92 = fup (w130_43 92) ((35 * b) + p) n2 := sOf_eq _ _ _
                      have e75_83 : (setO w130_43 92 (fup (w130_43 92) ((35 * b) + p) n2)) 83 = w130_43 83 := sOf_ne _ _ (by decide)
                      have e76_89 : (setO w130_43 92 (fup (w130_43 92) ((35 * b) + p) n2)) 89 = w130_43 89 := sOf_ne _ _ (by decide)
                      exact ih38 n2 (p + 1) (setO w130_43 92 (fup (w130_43 92) ((35 * b) + p) n2)) hT_46 hF_46 (by first | omega | (simp [up, setR] <;> omega)) (by rewrite [e47_91]; first | omega | (simp [up, setR] <;> omega)) (by rewrite [e48_91]; first | omega | (simp [up, setR] <;> omega)) (by rewrite [e49_90, e50_91]; first | assumption | exact hmi) (by rewrite [e51_83, e52_91, e53_92]; exact LQ_2 hlq (by omega)) (by rewrite [e54_91]; exact h91f) (by rewrite [e55_92]; intro i j h1 h2 h3; by_cases e2 : j = p; (rw [e2, fup_eq]; by_cases e1 : i = p; (rw [e1, fup_eq]; omega); (rw [fup_ne _ _ (show 35 * b + i ≠ 35 * b + p by omega)]; have k9 := hlb i i h1 (by omega) (by omega); omega)); (rw [fup_ne _ _ (show 35 * b + i ≠ 35 * b + p by omega), fup_ne _ _ (show 35 * b + j ≠ 35 * b + p by omega)]; have k9 := hlb i j h1 h2 (by omega); omega)) (by rewrite [e56_84, e57_85]; first | (first | (exact pki) | (intro j hj; exact ⟨rfl, (pk_at50 j hj).2.trans (pki j hj).2⟩) | (intro j hj; exact ⟨rfl, (pk_at50 j hj).2⟩) | (intro j hj; exact ⟨rfl, (pki j hj).2⟩) | (intro j hj; exact ⟨rfl, rfl⟩)) | (intro j hj; exact ⟨rfl, (pk_at50 j hj).2.trans (pki j hj).2⟩) | (intro j hj; exact ⟨rfl, (pk_at50 j hj).2⟩) | (intro j hj; exact ⟨rfl, (pki j hj).2⟩) | (intro j hj; exact ⟨rfl, rfl⟩)) (by rewrite [e58_83]; exact hP9) (by rewrite [e59_83]; exact k83f) (by rewrite [e60_90]; first | rfl | exact k90) (by rewrite [e61_89]; exact hWk) (by rewrite [e62_83, e63_89, e64_91]; exact hC9) (by rewrite [e65_83]; omega) (by rewrite [e66_83]; exact hq0) (by rewrite [e67_92]; first | exact k92 | (intro j hj; rw [fup_ne _ _ (by omega)]; exact k92 j hj)) (by rewrite [e68_92]; first | exact hl0 | (rw [fup_ne _ _ (by omega)]; exact hl0)) (by rewrite [e69_89, e70_91, e71_99]; exact h99) (by rewrite [e72_83, e73_89, e74_92]; exact LSX_s hls (by omega) ⟨by omega, hw1 (by omega), fun m h1 h2 => hw2 m h1 (by omega) (fun e => by exfalso; omega)⟩) (by rewrite [e75_83, e76_89]; intro m h1 h2 r9; exact hw2 m h1 (by omega) (fun e => by exfalso; omega) (RT_up (by omega) r9)) (by first | omega | (simp [up, setR] <;> omega))
                    · refine TT_iinc hK (v := n2 + 1) (lv' := [(3, vI (n2 + 1)), (0, vR 73), (1, vI b), (2, vI f), (4, vI p)]) 3 rfl rfl (by decide) rfl dX12_tellBand_137 ?_
                      refine TT_iload_n hK rfl 0 rfl dX12_tellBand_140 ?_
                      refine TT_if_ge hK (tgt := 148) (irm (by omega) (by omega)) dX12_tellBand_141 (by decide) (fun hb141_77 => ?_) (fun hb141_77 => ?_)
                      · refine TT_iload_n hK rfl 0 rfl dX12_tellBand_148 ?_
                        refine TT_istore_n hK rfl (lv' := [(3, vI (n2 + 1)), (0, vR 73), (1, vI b), (2, vI f), (4, vI p)]) (by decide) rfl dX12_tellBand_149 ?_
                        refine TT_aload_n hK rfl 1 rfl dX12_tellBand_150 ?_
                        refine TT_iload_n hK rfl 0 rfl dX12_tellBand_151 ?_
                        refine TT_iconst hK dX12_tellBand_152 ?_
                        refine iv_X12_308 hK (s_beginR_e (n2 + 1) 2 w130_43 hT130_43 (by first | omega | (simp [up, setR] <;> omega)) (by first | omega | (simp [up, setR] <;> omega))) (by decide) rfl ⟨by decide, by decide⟩ (by decide) rfl rfl (Nat.le_of_ble_eq_true rfl) ⟨by decide, by decide⟩ dX12_tellBand_153 ?_
                        intro r9 g153_78 hp9
                        obtain ⟨⟨hT_78, hG_78⟩, hr9, p1_78, p2_78, b38_78, st_78, lk_78, bg_78⟩ := hp9
                        rw [hr9]
                        have hF_78 : FRM [73, 83, 85, 89, 90, 91, 92, 93, 94, 95, 96, 97, 98, 99] [26, 27, 28, 29, 32, 33, 34, 36, 38, 39] h g153_78 := FRM_tr hF130_43 hG_78 (by decide) (by decide)
                        have p1_at153 := p1_78
                        have p2_at153 := p2_78
                        have b38_at153 := b38_78
                        have st_at153 := st_78
                        have lk_at153 := lk_78
                        have bg_at153 := bg_78
                        show TT K ly 0 0 156 [(3, vI (n2 + 1)), (0, vR 73), (1, vI b), (2, vI f), (4, vI p)] [] g153_78
                        refine TT_aload_n hK rfl 1 rfl dX12_tellBand_156 ?_
                        refine TT_iconst hK dX12_tellBand_157 ?_
                        refine pf_X12_227 hK (by decide) rfl (by first | decide | omega) dX12_tellBand_158 ?_
                        refine TT_hp (h' := setO g153_78 73 (fup (g153_78 73) 28 0)) (up_can rfl rfl rfl) ?_
                        have hT_79 : TY (setO g153_78 73 (fup (g153_78 73) 28 0)) := tu_73_28 hT_78 (show up g153_78 73 28 0 = (setO g153_78 73 (fup (g153_78 73) 28 0)) from up_can rfl rfl rfl) (by omega)
                        have hF_79 : FRM [73, 83, 85, 89, 90, 91, 92, 93, 94, 95, 96, 97, 98, 99] [26, 27, 28, 29, 32, 33, 34, 36, 38, 39] h (setO g153_78 73 (fup (g153_78 73) 28 0)) := FRM_f (show up g153_78 73 28 0 = (setO g153_78 73 (fup (g153_78 73) 28 0)) from up_can rfl rfl rfl) hF_78 (by decide) (by decide)
                        have hsr9 : SRB (w130_43 99) (n2 + 1) := SRB_c hC9 hq0 h99 (by omega)
                        have bg9 := bg_at153 hsr9
                        refine TT_aload_n hK rfl 1 rfl dX12_tellBand_161 ?_
                        refine TT_iload_n hK rfl 2 rfl dX12_tellBand_162 ?_
                        refine TT_iload hK 4 rfl dX12_tellBand_163 ?_
                        have e80_74 : (setO g153_78 73 (fup (g153_78 73) 28 0)) 74 = h 74 := (sOf_ne _ _ (by decide)).trans (((hG_78.1 74 (by decide))).trans (hF130_43.1 74 (by decide)))
                        have e81_75 : (setO g153_78 73 (fup (g153_78 73) 28 0)) 75 = h 75 := (sOf_ne _ _ (by decide)).trans (((hG_78.1 75 (by decide))).trans (hF130_43.1 75 (by decide)))
                        have e82_73_32 : (setO g153_78 73 (fup (g153_78 73) 28 0)) 73 32 = (g153_78 73) 32 := rd_ (sOf_eq _ _ _) (fup_ne _ _ (by decide))
                        have e83_73_29 : (setO g153_78 73 (fup (g153_78 73) 28 0)) 73 29 = (g153_78 73) 29 := rd_ (sOf_eq _ _ _) (fup_ne _ _ (by decide))
                        have e84_73_29 : (setO g153_78 73 (fup (g153_78 73) 28 0)) 73 29 = (g153_78 73) 29 := rd_ (sOf_eq _ _ _) (fup_ne _ _ (by decide))
                        have e85_73_34 : (setO g153_78 73 (fup (g153_78 73) 28 0)) 73 34 = (g153_78 73) 34 := rd_ (sOf_eq _ _ _) (fup_ne _ _ (by decide))
                        have e86_73_36 : (setO g153_78 73 (fup (g153_78 73) 28 0)) 73 36 = (w130_43 73) 36 := (rd_ (sOf_eq _ _ _) (fup_ne _ _ (by decide))).trans (hG_78.2 36 (by decide))
                        have e87_80 : (setO g153_78 73 (fup (g153_78 73) 28 0)) 80 = h 80 := (sOf_ne _ _ (by decide)).trans (((hG_78.1 80 (by decide))).trans (hF130_43.1 80 (by decide)))
                        have e88_81 : (setO g153_78 73 (fup (g153_78 73) 28 0)) 81 = h 81 := (sOf_ne _ _ (by decide)).trans (((hG_78.1 81 (by decide))).trans (hF130_43.1 81 (by decide)))
                        have e89_96 : (setO g153_78 73 (fup (g153_78 73) 28 0)) 96 = g153_78 96 := sOf_ne _ _ (by decide)
                        have e90_80 : (setO g153_78 73 (fup (g153_78 73) 28 0)) 80 = h 80 := (sOf_ne _ _ (by decide)).trans (((hG_78.1 80 (by decide))).trans (hF130_43.1 80 (by decide)))
                        have e91_81 : (setO g153_78 73 (fup (g153_78 73) 28 0)) 81 = h 81 := (sOf_ne _ _ (by decide)).trans (((hG_78.1 81 (by decide))).trans (hF130_43.1 81 (by decide)))
                        have e92_84 : (setO g153_78 73 (fup (g153_78 73) 28 0)) 84 = h 84 := (sOf_ne _ _ (by decide)).trans (((hG_78.1 84 (by decide))).trans (hF130_43.1 84 (by decide)))
                        have e93_85 : (setO g153_78 73 (fup (g153_78 73) 28 0)) 85 = w130_43 85 := (sOf_ne _ _ (by decide)).trans (hG_78.1 85 (by decide))
                        have e94_83 : (setO g153_78 73 (fup (g153_78 73) 28 0)) 83 = w130_43 83 := (sOf_ne _ _ (by decide)).trans (hG_78.1 83 (by decide))
                        have e95_83 : (setO g153_78 73 (fup (g153_78 73) 28 0)) 83 = w130_43 83 := (sOf_ne _ _ (by decide)).trans (hG_78.1 83 (by decide))
                        refine iv_X12_299 hK (s_walk_x 2 E00 ((0, ((g153_78 73) 32, (g153_78 73) 33, (g153_78 73) 34, (g153_78 73) 39, g153_78 96, g153_78 97)) : Int × DS_) M s b p (setO g153_78 73 (fup (g153_78 73) 28 0)) hT_79 (by first | omega | (simp [up, setR] <;> omega)) (by first | omega | (simp [up, setR] <;> omega)) (by rewrite [e80_74, e81_75]; first | assumption | exact htb) (by rewrite [e82_73_32]; first | omega | (simp [up, setR] <;> omega)) (by rewrite [e83_73_29]; first | omega | (simp [up, setR] <;> omega)) (by rewrite [e84_73_29, e85_73_34, e86_73_36, e87_80, e88_81, e89_96]; first | omega | (simp [up, setR] <;> omega)) (by exact Or.inr rfl) (by exact hs0) (by rewrite [e90_80, e91_81, e92_84, e93_85]; first | exact hms | exact MSQ_c5 hms (fun j hj => (pki j hj).2) (by omega) rw0.2 re0.2) (by exact CQ_b3 (rd_ (sOf_eq _ _ _) (fup_eq _ _ _)) ((rd_ (sOf_eq _ _ _) (fup_ne _ _ (by decide))).trans p2_at153) (rd_ (sOf_eq _ _ _) (fup_ne _ _ (by decide))) (rd_ (sOf_eq _ _ _) (fup_ne _ _ (by decide))) (rd_ (sOf_eq _ _ _) (fup_ne _ _ (by decide))) (rd_ (sOf_eq _ _ _) (fup_ne _ _ (by decide))) ((rd_ (sOf_eq _ _ _) (fup_ne _ _ (by decide))).trans b38_at153) (sOf_ne _ _ (by decide)) (sOf_ne _ _ (by decide)) ((sOf_ne _ _ (by decide)).trans (hG_78.1 99 (by decide))) hsr9 (by rw [p1_at153]; exact bg9.2.1) bg9.2.2) (by omega) (by rewrite [e94_83]; omega) (by rewrite [e95_83]; have r9 := ty_83 (i := b) (v := (w130_43 83) b) hT_79 (congrFun ((sOf_ne _ _ (by decide)).trans (hG_78.1 83 (by decide))) b) (by omega) (by omega); omega)) (by decide) rfl ⟨by decide, by decide⟩ (by decide) rfl rfl (Nat.le_of_ble_eq_true rfl) ⟨by decide, by decide⟩ dX12_tellBand_165 ?_
                        intro r9 g165_96 hp9
                        obtain ⟨⟨hT_96, hG_96⟩, hr9, pa_96, pm_96, pk_96, wk9_96⟩ := hp9
                        rw [hr9]
                        have hF_96 : FRM [73, 83, 85, 89, 90, 91, 92, 93, 94, 95, 96, 97, 98, 99] [26, 27, 28, 29, 32, 33, 34, 36, 38, 39] h g165_96 := FRM_tr hF_79 hG_96 (by decide) (by decide)
                        rw [show (setO g153_78 73 (fup (g153_78 73) 28 0)) 73 29 = (g153_78 73) 29 from rd_ (sOf_eq _ _ _) (fup_ne _ _ (by decide))] at pm_96
                        rw [show (setO g153_78 73 (fup (g153_78 73) 28 0)) 73 34 = (g153_78 73) 34 from rd_ (sOf_eq _ _ _) (fup_ne _ _ (by decide))] at pm_96
                        rw [show (setO g153_78 73 (fup (g153_78 73) 28 0)) 73 36 = (w130_43 73) 36 from (rd_ (sOf_eq _ _ _) (fup_ne _ _ (by decide))).trans (hG_78.2 36 (by decide))] at pm_96
                        rw [show (setO g153_78 73 (fup (g153_78 73) 28 0)) 80 = h 80 from (sOf_ne _ _ (by decide)).trans (((hG_78.1 80 (by decide))).trans (hF130_43.1 80 (by decide)))] at pm_96
                        rw [show (setO g153_78 73 (fup (g153_78 73) 28 0)) 81 = h 81 from (sOf_ne _ _ (by decide)).trans (((hG_78.1 81 (by decide))).trans (hF130_43.1 81 (by decide)))] at pm_96
                        rw [show (setO g153_78 73 (fup (g153_78 73) 28 0)) 96 = g153_78 96 from sOf_ne _ _ (by decide)] at pm_96
                        rw [show (setO g153_78 73 (fup (g153_78 73) 28 0)) 84 = h 84 from (sOf_ne _ _ (by decide)).trans (((hG_78.1 84 (by decide))).trans (hF130_43.1 84 (by decide)))] at pk_96
                        rw [show (setO g153_78 73 (fup (g153_78 73) 28 0)) 85 = w130_43 85 from (sOf_ne _ _ (by decide)).trans (hG_78.1 85 (by decide))] at pk_96
                        rw [show (setO g153_78 73 (fup (g153_78 73) 28 0)) 80 = h 80 from (sOf_ne _ _ (by decide)).trans (((hG_78.1 80 (by decide))).trans (hF130_43.1 80 (by decide)))] at wk9_96
                        rw [show (setO g153_78 73 (fup (g153_78 73) 28 0)) 81 = h 81 from (sOf_ne _ _ (by decide)).trans (((hG_78.1 81 (by decide))).trans (hF130_43.1 81 (by decide)))] at wk9_96
                        rw [show (setO g153_78 73 (fup (g153_78 73) 28 0)) 82 = h 82 from (sOf_ne _ _ (by decide)).trans (((hG_78.1 82 (by decide))).trans (hF130_43.1 82 (by decide)))] at wk9_96
                        rw [show (setO g153_78 73 (fup (g153_78 73) 28 0)) 83 = w130_43 83 from (sOf_ne _ _ (by decide)).trans (hG_78.1 83 (by decide))] at wk9_96
                        have pk_at165 := pk_96
                        have wk9_at165 := wk9_96
                        show TT K ly 0 0 168 [(3, vI (n2 + 1)), (0, vR 73), (1, vI b), (2, vI f), (4, vI p)] [] g165_96
                        have rw9 := WRT (p := p) hs0 hC9 hq0 (by omega)
                        have tr9 := TRY_c (p := p) hs0 hC9 hq0 (by omega) (by omega) h99 st_at153 lk_at153 (BG_D p1_at153 bg9.1) wk9_at165 (((hG_96.1 99 (by decide))).trans ((sOf_ne _ _ (by decide)).trans (hG_78.1 99 (by decide)))) ((((hG_96.2 38 (by decide))).trans (rd_ (sOf_eq _ _ _) (fup_ne _ _ (by decide)))).trans b38_at153)
                        refine TT_aload_n hK rfl 1 rfl dX12_tellBand_168 ?_
                        refine TT_aload_n hK rfl 1 rfl dX12_tellBand_169 ?_
                        refine gf_X12_227 hK (by decide) rfl (v := (g165_96 73) 28) rfl dX12_tellBand_170 ?_
                        have r97 := ty_73_28 (v := (g165_96 73) 28) hT_96 rfl
                        refine TT_if_eq hK (tgt := 190) (irm (by omega) (by omega)) dX12_tellBand_173 (by decide) (fun hb173_98 => ?_) (fun hb173_98 => ?_)
                        · refine TT_iconst hK dX12_tellBand_190 ?_
                          refine pf_X12_227 hK (by decide) rfl (by first | decide | omega) dX12_tellBand_191 ?_
                          refine TT_hp (h' := setO g165_96 73 (fup (g165_96 73) 28 0)) (up_can rfl rfl rfl) ?_
                          have hT_99 : TY (setO g165_96 73 (fup (g165_96 73) 28 0)) := tu_73_28 hT_96 (show up g165_96 73 28 0 = (setO g165_96 73 (fup (g165_96 73) 28 0)) from up_can rfl rfl rfl) (by omega)
                          have hF_99 : FRM [73, 83, 85, 89, 90, 91, 92, 93, 94, 95, 96, 97, 98, 99] [26, 27, 28, 29, 32, 33, 34, 36, 38, 39] h (setO g165_96 73 (fup (g165_96 73) 28 0)) := FRM_f (show up g165_96 73 28 0 = (setO g165_96 73 (fup (g165_96 73) 28 0)) from up_can rfl rfl rfl) hF_96 (by decide) (by decide)
                          refine TT_goto hK (tgt := 130) dX12_tellBand_194 (by decide) ?_
                          refine TT_sub [1, 2, 3, 0, 4] rfl ?_
                          have e100_91 : (setO g165_96 73 (fup (g165_96 73) 28 0)) 91 = w130_43 91 := (sOf_ne _ _ (by decide)).trans (((hG_96.1 91 (by decide))).trans ((sOf_ne _ _ (by decide)).trans (hG_78.1 91 (by decide))))
                          have e101_73_28 : (setO g165_96 73 (fup (g165_96 73) 28 0)) 73 28 = 0 := rd_ (sOf_eq _ _ _) (fup_eq _ _ _)
                          have e102_91 : (setO g165_96 73 (fup (g165_96 73) 28 0)) 91 = w130_43 91 := (sOf_ne _ _ (by decide)).trans (((hG_96.1 91 (by decide))).trans ((sOf_ne _ _ (by decide)).trans (hG_78.1 91 (by decide))))
                          have e103_73_28 : (setO g165_96 73 (fup (g165_96 73) 28 0)) 73 28 = 0 := rd_ (sOf_eq _ _ _) (fup_eq _ _ _)
                          have e104_91 : (setO g165_96 73 (fup (g165_96 73) 28 0)) 91 = w130_43 91 := (sOf_ne _ _ (by decide)).trans (((hG_96.1 91 (by decide))).trans ((sOf_ne _ _ (by decide)).trans (hG_78.1 91 (by decide))))
                          have e105_90 : (setO g165_96 73 (fup (g165_96 73) 28 0)) 90 = w130_43 90 := (sOf_ne _ _ (by decide)).trans (((hG_96.1 90 (by decide))).trans ((sOf_ne _ _ (by decide)).trans (hG_78.1 90 (by decide))))
                          have e106_91 : (setO g165_96 73 (fup (g165_96 73) 28 0)) 91 = w130_43 91 := (sOf_ne _ _ (by decide)).trans (((hG_96.1 91 (by decide))).trans ((sOf_ne _ _ (by decide)).trans (hG_78.1 91 (by decide))))
                          have e107_83 : (setO g165_96 73 (fup (g165_96 73) 28 0)) 83 = w130_43 83 := (sOf_ne _ _ (by decide)).trans (((hG_96.1 83 (by decide))).trans ((sOf_ne _ _ (by decide)).trans (hG_78.1 83 (by decide))))
                          have e108_91 : (setO g165_96 73 (fup (g165_96 73) 28 0)) 91 = w130_43 91 := (sOf_ne _ _ (by decide)).trans (((hG_96.1 91 (by decide))).trans ((sOf_ne _ _ (by decide)).trans (hG_78.1 91 (by decide))))
                          have e109_92 : (setO g165_96 73 (fup (g165_96 73) 28 0)) 92 = w130_43 92 := (sOf_ne _ _ (by decide)).trans (((hG_96.1 92 (by decide))).trans ((sOf_ne _ _ (by decide)).trans (hG_78.1 92 (by decide))))
                          have e110_91 : (setO g165_96 73 (fup (g165_96 73) 28 0)) 91 = w130_43 91 := (sOf_ne _ _ (by decide)).trans (((hG_96.1 91 (by decide))).trans ((sOf_ne _ _ (by decide)).trans (hG_78.1 91 (by decide))))
                          have e111_92 : (setO g165_96 73 (fup (g165_96 73) 28 0)) 92 = w130_43 92 := (sOf_ne _ _ (by decide)).trans (((hG_96.1 92 (by decide))).trans ((sOf_ne _ _ (by decide)).trans (hG_78.1 92 (by decide))))
                          have e112_84 : (setO g165_96 73 (fup (g165_96 73) 28 0)) 84 = h 84 := (sOf_ne _ _ (by decide)).trans (((hG_96.1 84 (by decide))).trans ((sOf_ne _ _ (by decide)).trans (((hG_78.1 84 (by decide))).trans (hF130_43.1 84 (by decide)))))
                          have e113_85 : (setO g165_96 73 (fup (g165_96 73) 28 0)) 85 = g165_96 85 := sOf_ne _ _ (by decide)
                          have e114_83 : (setO g165_96 73 (fup (g165_96 73) 28 0)) 83 = w130_43 83 := (sOf_ne _ _ (by decide)).trans (((hG_96.1 83 (by decide))).trans ((sOf_ne _ _ (by decide)).trans (hG_78.1 83 (by decide))))
                          have e115_83 : (setO g165_96 73 (fup (g165_96 73) 28 0)) 83 = w130_43 83 := (sOf_ne _ _ (by decide)).trans (((hG_96.1 83 (by decide))).trans ((sOf_ne _ _ (by decide)).trans (hG_78.1 83 (by decide))))
                          have e116_90 : (setO g165_96 73 (fup (g165_96 73) 28 0)) 90 = w130_43 90 := (sOf_ne _ _ (by decide)).trans (((hG_96.1 90 (by decide))).trans ((sOf_ne _ _ (by decide)).trans (hG_78.1 90 (by decide))))
                          have e117_89 : (setO g165_96 73 (fup (g165_96 73) 28 0)) 89 = w130_43 89 := (sOf_ne _ _ (by decide)).trans (((hG_96.1 89 (by decide))).trans ((sOf_ne _ _ (by decide)).trans (hG_78.1 89 (by decide))))
                          have e118_83 : (setO g165_96 73 (fup (g165_96 73) 28 0)) 83 = w130_43 83 := (sOf_ne _ _ (by decide)).trans (((hG_96.1 83 (by decide))).trans ((sOf_ne _ _ (by decide)).trans (hG_78.1 83 (by decide))))
                          have e119_89 : (setO g165_96 73 (fup (g165_96 73) 28 0)) 89 = w130_43 89 := (sOf_ne _ _ (by decide)).trans (((hG_96.1 89 (by decide))).trans ((sOf_ne _ _ (by decide)).trans (hG_78.1 89 (by decide))))
                          have e120_91 : (setO g165_96 73 (fup (g165_96 73) 28 0)) 91 = w130_43 91 := (sOf_ne _ _ (by decide)).trans (((hG_96.1 91 (by decide))).trans ((sOf_ne _ _ (by decide)).trans (hG_78.1 91 (by decide))))
                          have e121_83 : (setO g165_96 73 (fup (g165_96 73) 28 0)) 83 = w130_43 83 := (sOf_ne _ _ (by decide)).trans (((hG_96.1 83 (by decide))).trans ((sOf_ne _ _ (by decide)).trans (hG_78.1 83 (by decide))))
                          have e122_92 : (setO g165_96 73 (fup (g165_96 73) 28 0)) 92 = w130_43 92 := (sOf_ne _ _ (by decide)).trans (((hG_96.1 92 (by decide))).trans ((sOf_ne _ _ (by decide)).trans (hG_78.1 92 (by decide))))
                          have e123_92 : (setO g165_96 73 (fup (g165_96 73) 28 0)) 92 = w130_43 92 := (sOf_ne _ _ (by decide)).trans (((hG_96.1 92 (by decide))).trans ((sOf_ne _ _ (by decide)).trans (hG_78.1 92 (by decide))))
                          have e124_89 : (setO g165_96 73 (fup (g165_96 73) 28 0)) 89 = w130_43 89 := (sOf_ne _ _ (by decide)).trans (((hG_96.1 89 (by decide))).trans ((sOf_ne _ _ (by decide)).trans (hG_78.1 89 (by decide))))
                          have e125_91 : (setO g165_96 73 (fup (g165_96 73) 28 0)) 91 = w130_43 91 := (sOf_ne _ _ (by decide)).trans (((hG_96.1 91 (by decide))).trans ((sOf_ne _ _ (by decide)).trans (hG_78.1 91 (by decide))))
                          have e126_99 : (setO g165_96 73 (fup (g165_96 73) 28 0)) 99 = w130_43 99 := (sOf_ne _ _ (by decide)).trans (((hG_96.1 99 (by decide))).trans ((sOf_ne _ _ (by decide)).trans (hG_78.1 99 (by decide))))
                          have e127_83 : (setO g165_96 73 (fup (g165_96 73) 28 0)) 83 = w130_43 83 := (sOf_ne _ _ (by decide)).trans (((hG_96.1 83 (by decide))).trans ((sOf_ne _ _ (by decide)).trans (hG_78.1 83 (by decide))))
                          have e128_89 : (setO g165_96 73 (fup (g165_96 73) 28 0)) 89 = w130_43 89 := (sOf_ne _ _ (by decide)).trans (((hG_96.1 89 (by decide))).trans ((sOf_ne _ _ (by decide)).trans (hG_78.1 89 (by decide))))
                          have e129_92 : (setO g165_96 73 (fup (g165_96 73) 28 0)) 92 = w130_43 92 := (sOf_ne _ _ (by decide)).trans (((hG_96.1 92 (by decide))).trans ((sOf_ne _ _ (by decide)).trans (hG_78.1 92 (by decide))))
                          have e130_83 : (setO g165_96 73 (fup (g165_96 73) 28 0)) 83 = w130_43 83 := (sOf_ne _ _ (by decide)).trans (((hG_96.1 83 (by decide))).trans ((sOf_ne _ _ (by decide)).trans (hG_78.1 83 (by decide))))
                          have e131_73_28 : (setO g165_96 73 (fup (g165_96 73) 28 0)) 73 28 = 0 := rd_ (sOf_eq _ _ _) (fup_eq _ _ _)
                          have e132_83 : (setO g165_96 73 (fup (g165_96 73) 28 0)) 83 = w130_43 83 := (sOf_ne _ _ (by decide)).trans (((hG_96.1 83 (by decide))).trans ((sOf_ne _ _ (by decide)).trans (hG_78.1 83 (by decide))))
                          have e133_89 : (setO g165_96 73 (fup (g165_96 73) 28 0)) 89 = w130_43 89 := (sOf_ne _ _ (by decide)).trans (((hG_96.1 89 (by decide))).trans ((sOf_ne _ _ (by decide)).trans (hG_78.1 89 (by decide))))
                          have e134_73_28 : (setO g165_96 73 (fup (g165_96 73) 28 0)) 73 28 = 0 := rd_ (sOf_eq _ _ _) (fup_eq _ _ _)
                          have e135_83 : (setO g165_96 73 (fup (g165_96 73) 28 0)) 83 = w130_43 83 := (sOf_ne _ _ (by decide)).trans (((hG_96.1 83 (by decide))).trans ((sOf_ne _ _ (by decide)).trans (hG_78.1 83 (by decide))))
                          have e136_89 : (setO g165_96 73 (fup (g165_96 73) 28 0)) 89 = w130_43 89 := (sOf_ne _ _ (by decide)).trans (((hG_96.1 89 (by decide))).trans ((sOf_ne _ _ (by decide)).trans (hG_78.1 89 (by decide))))
                          exact ih43 (n2 + 1) (setO g165_96 73 (fup (g165_96 73) 28 0)) hT_99 hF_99 (by rewrite [e100_91]; first | omega | (simp [up, setR] <;> omega)) (by rewrite [e101_73_28, e102_91]; first | omega | (simp [up, setR] <;> omega)) (by first | omega | (simp [up, setR] <;> omega)) (by rewrite [e103_73_28]; first | omega | (simp [up, setR] <;> omega)) (by rewrite [e104_91]; first | omega | (simp [up, setR] <;> omega)) (by rewrite [e105_90, e106_91]; first | assumption | exact hmi) (by rewrite [e107_83, e108_91, e109_92]; first | assumption | exact hlq) (by rewrite [e110_91]; exact h91f) (by rewrite [e111_92]; exact hlb) (by rewrite [e112_84, e113_85]; first | (first | ((intro j hj; have k1 := pk_at165 j hj; have k2 := pki j hj; exact ⟨k1.1.trans k2.1, k1.2.trans k2.2⟩)) | (intro j hj; exact ⟨rfl, (pk_at50 j hj).2.trans (pki j hj).2⟩) | (intro j hj; exact ⟨rfl, (pk_at165 j hj).2.trans (pki j hj).2⟩) | (intro j hj; exact ⟨rfl, (pk_at50 j hj).2⟩) | (intro j hj; exact ⟨rfl, (pk_at165 j hj).2⟩) | (intro j hj; exact ⟨rfl, (pki j hj).2⟩) | (intro j hj; exact ⟨rfl, rfl⟩)) | (intro j hj; exact ⟨rfl, (pk_at165 j hj).2.trans (pki j hj).2⟩) | (intro j hj; exact ⟨rfl, (pk_at50 j hj).2.trans (pki j hj).2⟩) | (intro j hj; exact ⟨rfl, (pk_at165 j hj).2⟩) | (intro j hj; exact ⟨rfl, (pk_at50 j hj).2⟩) | (intro j hj; exact ⟨rfl, (pki j hj).2⟩) | (intro j hj; exact ⟨rfl, rfl⟩)) (by rewrite [e114_83]; exact hP9) (by rewrite [e115_83]; exact k83f) (by rewrite [e116_90]; first | rfl | exact k90) (by rewrite [e117_89]; exact hWk) (by rewrite [e118_83, e119_89, e120_91]; exact hC9) (by rewrite [e121_83]; exact hq0) (by rewrite [e122_92]; first | exact k92 | (intro j hj; rw [fup_ne _ _ (by omega)]; exact k92 j hj)) (by rewrite [e123_92]; first | exact hl0 | (rw [fup_ne _ _ (by omega)]; exact hl0)) (by rewrite [e124_89, e125_91, e126_99]; exact h99) (by rewrite [e127_83, e128_89, e129_92]; exact hls) (by rewrite [e130_83]; first | omega | (simp [up, setR] <;> omega)) (by rewrite [e131_73_28, e132_83, e133_89]; intro q9; first | (exfalso; omega) | exact tr9.1 (by omega) | (rw [show n2 + 1 = (w130_43 91) b by omega]; exact rw9)) (by rewrite [e134_73_28, e135_83, e136_89]; intro m h1 h2 h3; by_cases e : m = n2 + 1; (rw [e]; intro r9; first | exact absurd (tr9.2 r9) (by omega) | exact absurd rfl (h3 e)); exact hw2 m h1 (by omega) (fun _ => by omega)) (by first | omega | (simp [up, setR] <;> omega))
                        · refine TT_iload_n hK rfl 0 rfl dX12_tellBand_176 ?_
                          refine TT_aload_n hK rfl 1 rfl dX12_tellBand_177 ?_
                          refine gf_X12_69 hK (by decide) rfl (q := 91) rfl rfl dX12_tellBand_178 ?_
                          refine TT_iload_n hK rfl 2 rfl dX12_tellBand_181 ?_
                          refine TT_iald hK (o := 91) (n := 10) (by decide) rfl (by first | omega | (simp [up, setR] <;> omega)) (by first | omega | (simp [up, setR] <;> omega)) (v := (w130_43 91) b) (rd_ (((hG_96.1 91 (by decide))).trans ((sOf_ne _ _ (by decide)).trans (hG_78.1 91 (by decide)))) rfl) dX12_tellBand_182 ?_
                          have r137 := ty_91 (i := b) (v := (w130_43 91) b) hT_96 (rd_ (((hG_96.1 91 (by decide))).trans ((sOf_ne _ _ (by decide)).trans (hG_78.1 91 (by decide)))) rfl) (by omega) (by omega)
                          refine TT_icmp_ge hK (tgt := 190) (irm (by omega) (by omega)) (irm (by omega) (by omega)) dX12_tellBand_183 (by decide) (fun hb183_138 => ?_) (fun hb183_138 => ?_)
                          · refine TT_iconst hK dX12_tellBand_190 ?_
                            refine pf_X12_227 hK (by decide) rfl (by first | decide | omega) dX12_tellBand_191 ?_
                            refine TT_hp (h' := setO g165_96 73 (fup (g165_96 73) 28 0)) (up_can rfl rfl rfl) ?_
                            have hT_139 : TY (setO g165_96 73 (fup (g165_96 73) 28 0)) := tu_73_28 hT_96 (show up g165_96 73 28 0 = (setO g165_96 73 (fup (g165_96 73) 28 0)) from up_can rfl rfl rfl) (by omega)
                            have hF_139 : FRM [73, 83, 85, 89, 90, 91, 92, 93, 94, 95, 96, 97, 98, 99] [26, 27, 28, 29, 32, 33, 34, 36, 38, 39] h (setO g165_96 73 (fup (g165_96 73) 28 0)) := FRM_f (show up g165_96 73 28 0 = (setO g165_96 73 (fup (g165_96 73) 28 0)) from up_can rfl rfl rfl) hF_96 (by decide) (by decide)
                            refine TT_goto hK (tgt := 130) dX12_tellBand_194 (by decide) ?_
                            refine TT_sub [1, 2, 3, 0, 4] rfl ?_
                            have e140_91 : (setO g165_96 73 (fup (g165_96 73) 28 0)) 91 = w130_43 91 := (sOf_ne _ _ (by decide)).trans (((hG_96.1 91 (by decide))).trans ((sOf_ne _ _ (by decide)).trans (hG_78.1 91 (by decide))))
                            have e141_73_28 : (setO g165_96 73 (fup (g165_96 73) 28 0)) 73 28 = 0 := rd_ (sOf_eq _ _ _) (fup_eq _ _ _)
                            have e142_91 : (setO g165_96 73 (fup (g165_96 73) 28 0)) 91 = w130_43 91 := (sOf_ne _ _ (by decide)).trans (((hG_96.1 91 (by decide))).trans ((sOf_ne _ _ (by decide)).trans (hG_78.1 91 (by decide))))
                            have e143_73_28 : (setO g165_96 73 (fup (g165_96 73) 28 0)) 73 28 = 0 := rd_ (sOf_eq _ _ _) (fup_eq _ _ _)
                            have e144_91 : (setO g165_96 73 (fup (g165_96 73) 28 0)) 91 = w130_43 91 := (sOf_ne _ _ (by decide)).trans (((hG_96.1 91 (by decide))).trans ((sOf_ne _ _ (by decide)).trans (hG_78.1 91 (by decide))))
                            have e145_90 : (setO g165_96 73 (fup (g165_96 73) 28 0)) 90 = w130_43 90 := (sOf_ne _ _ (by decide)).trans (((hG_96.1 90 (by decide))).trans ((sOf_ne _ _ (by decide)).trans (hG_78.1 90 (by decide))))
                            have e146_91 : (setO g165_96 73 (fup (g165_96 73) 28 0)) 91 = w130_43 91 := (sOf_ne _ _ (by decide)).trans (((hG_96.1 91 (by decide))).trans ((sOf_ne _ _ (by decide)).trans (hG_78.1 91 (by decide))))
                            have e147_83 : (setO g165_96 73 (fup (g165_96 73) 28 0)) 83 = w130_43 83 := (sOf_ne _ _ (by decide)).trans (((hG_96.1 83 (by decide))).trans ((sOf_ne _ _ (by decide)).trans (hG_78.1 83 (by decide))))
                            have e148_91 : (setO g165_96 73 (fup (g165_96 73) 28 0)) 91 = w130_43 91 := (sOf_ne _ _ (by decide)).trans (((hG_96.1 91 (by decide))).trans ((sOf_ne _ _ (by decide)).trans (hG_78.1 91 (by decide))))
                            have e149_92 : (setO g165_96 73 (fup (g165_96 73) 28 0)) 92 = w130_43 92 := (sOf_ne _ _ (by decide)).trans (((hG_96.1 92 (by decide))).trans ((sOf_ne _ _ (by decide)).trans (hG_78.1 92 (by decide))))
                            have e150_91 : (setO g165_96 73 (fup (g165_96 73) 28 0)) 91 = w130_43 91 := (sOf_ne _ _ (by decide)).trans (((hG_96.1 91 (by decide))).trans ((sOf_ne _ _ (by decide)).trans (hG_78.1 91 (by decide))))
                            have e151_92 : (setO g165_96 73 (fup (g165_96 73) 28 0)) 92 = w130_43 92 := (sOf_ne _ _ (by decide)).trans (((hG_96.1 92 (by decide))).trans ((sOf_ne _ _ (by decide)).trans (hG_78.1 92 (by decide))))
                            have e152_84 : (setO g165_96 73 (fup (g165_96 73) 28 0)) 84 = h 84 := (sOf_ne _ _ (by decide)).trans (((hG_96.1 84 (by decide))).trans ((sOf_ne _ _ (by decide)).trans (((hG_78.1 84 (by decide))).trans (hF130_43.1 84 (by decide)))))
                            have e153_85 : (setO g165_96 73 (fup (g165_96 73) 28 0)) 85 = g165_96 85 := sOf_ne _ _ (by decide)
                            have e154_83 : (setO g165_96 73 (fup (g165_96 73) 28 0)) 83 = w130_43 83 := (sOf_ne _ _ (by decide)).trans (((hG_96.1 83 (by decide))).trans ((sOf_ne _ _ (by decide)).trans (hG_78.1 83 (by decide))))
                            have e155_83 : (setO g165_96 73 (fup (g165_96 73) 28 0)) 83 = w130_43 83 := (sOf_ne _ _ (by decide)).trans (((hG_96.1 83 (by decide))).trans ((sOf_ne _ _ (by decide)).trans (hG_78.1 83 (by decide))))
                            have e156_90 : (setO g165_96 73 (fup (g165_96 73) 28 0)) 90 = w130_43 90 := (sOf_ne _ _ (by decide)).trans (((hG_96.1 90 (by decide))).trans ((sOf_ne _ _ (by decide)).trans (hG_78.1 90 (by decide))))
                            have e157_89 : (setO g165_96 73 (fup (g165_96 73) 28 0)) 89 = w130_43 89 := (sOf_ne _ _ (by decide)).trans (((hG_96.1 89 (by decide))).trans ((sOf_ne _ _ (by decide)).trans (hG_78.1 89 (by decide))))
                            have e158_83 : (setO g165_96 73 (fup (g165_96 73) 28 0)) 83 = w130_43 83 := (sOf_ne _ _ (by decide)).trans (((hG_96.1 83 (by decide))).trans ((sOf_ne _ _ (by decide)).trans (hG_78.1 83 (by decide))))
                            have e159_89 : (setO g165_96 73 (fup (g165_96 73) 28 0)) 89 = w130_43 89 := (sOf_ne _ _ (by decide)).trans (((hG_96.1 89 (by decide))).trans ((sOf_ne _ _ (by decide)).trans (hG_78.1 89 (by decide))))
                            have e160_91 : (setO g165_96 73 (fup (g165_96 73) 28 0)) 91 = w130_43 91 := (sOf_ne _ _ (by decide)).trans (((hG_96.1 91 (by decide))).trans ((sOf_ne _ _ (by decide)).trans (hG_78.1 91 (by decide))))
                            have e161_83 : (setO g165_96 73 (fup (g165_96 73) 28 0)) 83 = w130_43 83 := (sOf_ne _ _ (by decide)).trans (((hG_96.1 83 (by decide))).trans ((sOf_ne _ _ (by decide)).trans (hG_78.1 83 (by decide))))
                            have e162_92 : (setO g165_96 73 (fup (g165_96 73) 28 0)) 92 = w130_43 92 := (sOf_ne _ _ (by decide)).trans (((hG_96.1 92 (by decide))).trans ((sOf_ne _ _ (by decide)).trans (hG_78.1 92 (by decide))))
                            have e163_92 : (setO g165_96 73 (fup (g165_96 73) 28 0)) 92 = w130_43 92 := (sOf_ne _ _ (by decide)).trans (((hG_96.1 92 (by decide))).trans ((sOf_ne _ _ (by decide)).trans (hG_78.1 92 (by decide))))
                            have e164_89 : (setO g165_96 73 (fup (g165_96 73) 28 0)) 89 = w130_43 89 := (sOf_ne _ _ (by decide)).trans (((hG_96.1 89 (by decide))).trans ((sOf_ne _ _ (by decide)).trans (hG_78.1 89 (by decide))))
                            have e165_91 : (setO g165_96 73 (fup (g165_96 73) 28 0)) 91 = w130_43 91 := (sOf_ne _ _ (by decide)).trans (((hG_96.1 91 (by decide))).trans ((sOf_ne _ _ (by decide)).trans (hG_78.1 91 (by decide))))
                            have e166_99 : (setO g165_96 73 (fup (g165_96 73) 28 0)) 99 = w130_43 99 := (sOf_ne _ _ (by decide)).trans (((hG_96.1 99 (by decide))).trans ((sOf_ne _ _ (by decide)).trans (hG_78.1 99 (by decide))))
                            have e167_83 : (setO g165_96 73 (fup (g165_96 73) 28 0)) 83 = w130_43 83 := (sOf_ne _ _ (by decide)).trans (((hG_96.1 83 (by decide))).trans ((sOf_ne _ _ (by decide)).trans (hG_78.1 83 (by decide))))
                            have e168_89 : (setO g165_96 73 (fup (g165_96 73) 28 0)) 89 = w130_43 89 := (sOf_ne _ _ (by decide)).trans (((hG_96.1 89 (by decide))).trans ((sOf_ne _ _ (by decide)).trans (hG_78.1 89 (by decide))))
                            have e169_92 : (setO g165_96 73 (fup (g165_96 73) 28 0)) 92 = w130_43 92 := (sOf_ne _ _ (by decide)).trans (((hG_96.1 92 (by decide))).trans ((sOf_ne _ _ (by decide)).trans (hG_78.1 92 (by decide))))
                            have e170_83 : (setO g165_96 73 (fup (g165_96 73) 28 0)) 83 = w130_43 83 := (sOf_ne _ _ (by decide)).trans (((hG_96.1 83 (by decide))).trans ((sOf_ne _ _ (by decide)).trans (hG_78.1 83 (by decide))))
                            have e171_73_28 : (setO g165_96 73 (fup (g165_96 73) 28 0)) 73 28 = 0 := rd_ (sOf_eq _ _ _) (fup_eq _ _ _)
                            have e172_83 : (setO g165_96 73 (fup (g165_96 73) 28 0)) 83 = w130_43 83 := (sOf_ne _ _ (by decide)).trans (((hG_96.1 83 (by decide))).trans ((sOf_ne _ _ (by decide)).trans (hG_78.1 83 (by decide))))
                            have e173_89 : (setO g165_96 73 (fup (g165_96 73) 28 0)) 89 = w130_43 89 := (sOf_ne _ _ (by decide)).trans (((hG_96.1 89 (by decide))).trans ((sOf_ne _ _ (by decide)).trans (hG_78.1 89 (by decide))))
                            have e174_73_28 : (setO g165_96 73 (fup (g165_96 73) 28 0)) 73 28 = 0 := rd_ (sOf_eq _ _ _) (fup_eq _ _ _)
                            have e175_83 : (setO g165_96 73 (fup (g165_96 73) 28 0)) 83 = w130_43 83 := (sOf_ne _ _ (by decide)).trans (((hG_96.1 83 (by decide))).trans ((sOf_ne _ _ (by decide)).trans (hG_78.1 83 (by decide))))
                            have e176_89 : (setO g165_96 73 (fup (g165_96 73) 28 0)) 89 = w130_43 89 := (sOf_ne _ _ (by decide)).trans (((hG_96.1 89 (by decide))).trans ((sOf_ne _ _ (by decide)).trans (hG_78.1 89 (by decide))))
                            exact ih43 (n2 + 1) (setO g165_96 73 (fup (g165_96 73) 28 0)) hT_139 hF_139 (by rewrite [e140_91]; first | omega | (simp [up, setR] <;> omega)) (by rewrite [e141_73_28, e142_91]; first | omega | (simp [up, setR] <;> omega)) (by first | omega | (simp [up, setR] <;> omega)) (by rewrite [e143_73_28]; first | omega | (simp [up, setR] <;> omega)) (by rewrite [e144_91]; first | omega | (simp [up, setR] <;> omega)) (by rewrite [e145_90, e146_91]; first | assumption | exact hmi) (by rewrite [e147_83, e148_91, e149_92]; first | assumption | exact hlq) (by rewrite [e150_91]; exact h91f) (by rewrite [e151_92]; exact hlb) (by rewrite [e152_84, e153_85]; first | (first | ((intro j hj; have k1 := pk_at165 j hj; have k2 := pki j hj; exact ⟨k1.1.trans k2.1, k1.2.trans k2.2⟩)) | (intro j hj; exact ⟨rfl, (pk_at50 j hj).2.trans (pki j hj).2⟩) | (intro j hj; exact ⟨rfl, (pk_at165 j hj).2.trans (pki j hj).2⟩) | (intro j hj; exact ⟨rfl, (pk_at50 j hj).2⟩) | (intro j hj; exact ⟨rfl, (pk_at165 j hj).2⟩) | (intro j hj; exact ⟨rfl, (pki j hj).2⟩) | (intro j hj; exact ⟨rfl, rfl⟩)) | (intro j hj; exact ⟨rfl, (pk_at165 j hj).2.trans (pki j hj).2⟩) | (intro j hj; exact ⟨rfl, (pk_at50 j hj).2.trans (pki j hj).2⟩) | (intro j hj; exact ⟨rfl, (pk_at165 j hj).2⟩) | (intro j hj; exact ⟨rfl, (pk_at50 j hj).2⟩) | (intro j hj; exact ⟨rfl, (pki j hj).2⟩) | (intro j hj; exact ⟨rfl, rfl⟩)) (by rewrite [e154_83]; exact hP9) (by rewrite [e155_83]; exact k83f) (by rewrite [e156_90]; first | rfl | exact k90) (by rewrite [e157_89]; exact hWk) (by rewrite [e158_83, e159_89, e160_91]; exact hC9) (by rewrite [e161_83]; exact hq0) (by rewrite [e162_92]; first | exact k92 | (intro j hj; rw [fup_ne _ _ (by omega)]; exact k92 j hj)) (by rewrite [e163_92]; first | exact hl0 | (rw [fup_ne _ _ (by omega)]; exact hl0)) (by rewrite [e164_89, e165_91, e166_99]; exact h99) (by rewrite [e167_83, e168_89, e169_92]; exact hls) (by rewrite [e170_83]; first | omega | (simp [up, setR] <;> omega)) (by rewrite [e171_73_28, e172_83, e173_89]; intro q9; first | (exfalso; omega) | exact tr9.1 (by omega) | (rw [show n2 + 1 = (w130_43 91) b by omega]; exact rw9)) (by rewrite [e174_73_28, e175_83, e176_89]; intro m h1 h2 h3; by_cases e : m = n2 + 1; (rw [e]; intro r9; first | exact absurd (tr9.2 r9) (by omega) | exact absurd rfl (h3 e)); exact hw2 m h1 (by omega) (fun _ => by omega)) (by first | omega | (simp [up, setR] <;> omega))
                          · refine TT_iconst hK dX12_tellBand_186 ?_
                            refine TT_goto hK (tgt := 191) dX12_tellBand_187 (by decide) ?_
                            refine pf_X12_227 hK (by decide) rfl (by first | decide | omega) dX12_tellBand_191 ?_
                            refine TT_hp (h' := setO g165_96 73 (fup (g165_96 73) 28 1)) (up_can rfl rfl rfl) ?_
                            have hT_177 : TY (setO g165_96 73 (fup (g165_96 73) 28 1)) := tu_73_28 hT_96 (show up g165_96 73 28 1 = (setO g165_96 73 (fup (g165_96 73) 28 1)) from up_can rfl rfl rfl) (by omega)
                            have hF_177 : FRM [73, 83, 85, 89, 90, 91, 92, 93, 94, 95, 96, 97, 98, 99] [26, 27, 28, 29, 32, 33, 34, 36, 38, 39] h (setO g165_96 73 (fup (g165_96 73) 28 1)) := FRM_f (show up g165_96 73 28 1 = (setO g165_96 73 (fup (g165_96 73) 28 1)) from up_can rfl rfl rfl) hF_96 (by decide) (by decide)
                            refine TT_goto hK (tgt := 130) dX12_tellBand_194 (by decide) ?_
                            refine TT_sub [1, 2, 3, 0, 4] rfl ?_
                            have e178_91 : (setO g165_96 73 (fup (g165_96 73) 28 1)) 91 = w130_43 91 := (sOf_ne _ _ (by decide)).trans (((hG_96.1 91 (by decide))).trans ((sOf_ne _ _ (by decide)).trans (hG_78.1 91 (by decide))))
                            have e179_73_28 : (setO g165_96 73 (fup (g165_96 73) 28 1)) 73 28 = 1 := rd_ (sOf_eq _ _ _) (fup_eq _ _ _)
                            have e180_91 : (setO g165_96 73 (fup (g165_96 73) 28 1)) 91 = w130_43 91 := (sOf_ne _ _ (by decide)).trans (((hG_96.1 91 (by decide))).trans ((sOf_ne _ _ (by decide)).trans (hG_78.1 91 (by decide))))
                            have e181_73_28 : (setO g165_96 73 (fup (g165_96 73) 28 1)) 73 28 = 1 := rd_ (sOf_eq _ _ _) (fup_eq _ _ _)
                            have e182_91 : (setO g165_96 73 (fup (g165_96 73) 28 1)) 91 = w130_43 91 := (sOf_ne _ _ (by decide)).trans (((hG_96.1 91 (by decide))).trans ((sOf_ne _ _ (by decide)).trans (hG_78.1 91 (by decide))))
                            have e183_90 : (setO g165_96 73 (fup (g165_96 73) 28 1)) 90 = w130_43 90 := (sOf_ne _ _ (by decide)).trans (((hG_96.1 90 (by decide))).trans ((sOf_ne _ _ (by decide)).trans (hG_78.1 90 (by decide))))
                            have e184_91 : (setO g165_96 73 (fup (g165_96 73) 28 1)) 91 = w130_43 91 := (sOf_ne _ _ (by decide)).trans (((hG_96.1 91 (by decide))).trans ((sOf_ne _ _ (by decide)).trans (hG_78.1 91 (by decide))))
                            have e185_83 : (setO g165_96 73 (fup (g165_96 73) 28 1)) 83 = w130_43 83 := (sOf_ne _ _ (by decide)).trans (((hG_96.1 83 (by decide))).trans ((sOf_ne _ _ (by decide)).trans (hG_78.1 83 (by decide))))
                            have e186_91 : (setO g165_96 73 (fup (g165_96 73) 28 1)) 91 = w130_43 91 := (sOf_ne _ _ (by decide)).trans (((hG_96.1 91 (by decide))).trans ((sOf_ne _ _ (by decide)).trans (hG_78.1 91 (by decide))))
                            have e187_92 : (setO g165_96 73 (fup (g165_96 73) 28 1)) 92 = w130_43 92 := (sOf_ne _ _ (by decide)).trans (((hG_96.1 92 (by decide))).trans ((sOf_ne _ _ (by decide)).trans (hG_78.1 92 (by decide))))
                            have e188_91 : (setO g165_96 73 (fup (g165_96 73) 28 1)) 91 = w130_43 91 := (sOf_ne _ _ (by decide)).trans (((hG_96.1 91 (by decide))).trans ((sOf_ne _ _ (by decide)).trans (hG_78.1 91 (by decide))))
                            have e189_92 : (setO g165_96 73 (fup (g165_96 73) 28 1)) 92 = w130_43 92 := (sOf_ne _ _ (by decide)).trans (((hG_96.1 92 (by decide))).trans ((sOf_ne _ _ (by decide)).trans (hG_78.1 92 (by decide))))
                            have e190_84 : (setO g165_96 73 (fup (g165_96 73) 28 1)) 84 = h 84 := (sOf_ne _ _ (by decide)).trans (((hG_96.1 84 (by decide))).trans ((sOf_ne _ _ (by decide)).trans (((hG_78.1 84 (by decide))).trans (hF130_43.1 84 (by decide)))))
                            have e191_85 : (setO g165_96 73 (fup (g165_96 73) 28 1)) 85 = g165_96 85 := sOf_ne _ _ (by decide)
                            have e192_83 : (setO g165_96 73 (fup (g165_96 73) 28 1)) 83 = w130_43 83 := (sOf_ne _ _ (by decide)).trans (((hG_96.1 83 (by decide))).trans ((sOf_ne _ _ (by decide)).trans (hG_78.1 83 (by decide))))
                            have e193_83 : (setO g165_96 73 (fup (g165_96 73) 28 1)) 83 = w130_43 83 := (sOf_ne _ _ (by decide)).trans (((hG_96.1 83 (by decide))).trans ((sOf_ne _ _ (by decide)).trans (hG_78.1 83 (by decide))))
                            have e194_90 : (setO g165_96 73 (fup (g165_96 73) 28 1)) 90 = w130_43 90 := (sOf_ne _ _ (by decide)).trans (((hG_96.1 90 (by decide))).trans ((sOf_ne _ _ (by decide)).trans (hG_78.1 90 (by decide))))
                            have e195_89 : (setO g165_96 73 (fup (g165_96 73) 28 1)) 89 = w130_43 89 := (sOf_ne _ _ (by decide)).trans (((hG_96.1 89 (by decide))).trans ((sOf_ne _ _ (by decide)).trans (hG_78.1 89 (by decide))))
                            have e196_83 : (setO g165_96 73 (fup (g165_96 73) 28 1)) 83 = w130_43 83 := (sOf_ne _ _ (by decide)).trans (((hG_96.1 83 (by decide))).trans ((sOf_ne _ _ (by decide)).trans (hG_78.1 83 (by decide))))
                            have e197_89 : (setO g165_96 73 (fup (g165_96 73) 28 1)) 89 = w130_43 89 := (sOf_ne _ _ (by decide)).trans (((hG_96.1 89 (by decide))).trans ((sOf_ne _ _ (by decide)).trans (hG_78.1 89 (by decide))))
                            have e198_91 : (setO g165_96 73 (fup (g165_96 73) 28 1)) 91 = w130_43 91 := (sOf_ne _ _ (by decide)).trans (((hG_96.1 91 (by decide))).trans ((sOf_ne _ _ (by decide)).trans (hG_78.1 91 (by decide))))
                            have e199_83 : (setO g165_96 73 (fup (g165_96 73) 28 1)) 83 = w130_43 83 := (sOf_ne _ _ (by decide)).trans (((hG_96.1 83 (by decide))).trans ((sOf_ne _ _ (by decide)).trans (hG_78.1 83 (by decide))))
                            have e200_92 : (setO g165_96 73 (fup (g165_96 73) 28 1)) 92 = w130_43 92 := (sOf_ne _ _ (by decide)).trans (((hG_96.1 92 (by decide))).trans ((sOf_ne _ _ (by decide)).trans (hG_78.1 92 (by decide))))
                            have e201_92 : (setO g165_96 73 (fup (g165_96 73) 28 1)) 92 = w130_43 92 := (sOf_ne _ _ (by decide)).trans (((hG_96.1 92 (by decide))).trans ((sOf_ne _ _ (by decide)).trans (hG_78.1 92 (by decide))))
                            have e202_89 : (setO g165_96 73 (fup (g165_96 73) 28 1)) 89 = w130_43 89 := (sOf_ne _ _ (by decide)).trans (((hG_96.1 89 (by decide))).trans ((sOf_ne _ _ (by decide)).trans (hG_78.1 89 (by decide))))
                            have e203_91 : (setO g165_96 73 (fup (g165_96 73) 28 1)) 91 = w130_43 91 := (sOf_ne _ _ (by decide)).trans (((hG_96.1 91 (by decide))).trans ((sOf_ne _ _ (by decide)).trans (hG_78.1 91 (by decide))))
                            have e204_99 : (setO g165_96 73 (fup (g165_96 73) 28 1)) 99 = w130_43 99 := (sOf_ne _ _ (by decide)).trans (((hG_96.1 99 (by decide))).trans ((sOf_ne _ _ (by decide)).trans (hG_78.1 99 (by decide))))
                            have e205_83 : (setO g165_96 73 (fup (g165_96 73) 28 1)) 83 = w130_43 83 := (sOf_ne _ _ (by decide)).trans (((hG_96.1 83 (by decide))).trans ((sOf_ne _ _ (by decide)).trans (hG_78.1 83 (by decide))))
                            have e206_89 : (setO g165_96 73 (fup (g165_96 73) 28 1)) 89 = w130_43 89 := (sOf_ne _ _ (by decide)).trans (((hG_96.1 89 (by decide))).trans ((sOf_ne _ _ (by decide)).trans (hG_78.1 89 (by decide))))
                            have e207_92 : (setO g165_96 73 (fup (g165_96 73) 28 1)) 92 = w130_43 92 := (sOf_ne _ _ (by decide)).trans (((hG_96.1 92 (by decide))).trans ((sOf_ne _ _ (by decide)).trans (hG_78.1 92 (by decide))))
                            have e208_83 : (setO g165_96 73 (fup (g165_96 73) 28 1)) 83 = w130_43 83 := (sOf_ne _ _ (by decide)).trans (((hG_96.1 83 (by decide))).trans ((sOf_ne _ _ (by decide)).trans (hG_78.1 83 (by decide))))
                            have e209_73_28 : (setO g165_96 73 (fup (g165_96 73) 28 1)) 73 28 = 1 := rd_ (sOf_eq _ _ _) (fup_eq _ _ _)
                            have e210_83 : (setO g165_96 73 (fup (g165_96 73) 28 1)) 83 = w130_43 83 := (sOf_ne _ _ (by decide)).trans (((hG_96.1 83 (by decide))).trans ((sOf_ne _ _ (by decide)).trans (hG_78.1 83 (by decide))))
                            have e211_89 : (setO g165_96 73 (fup (g165_96 73) 28 1)) 89 = w130_43 89 := (sOf_ne _ _ (by decide)).trans (((hG_96.1 89 (by decide))).trans ((sOf_ne _ _ (by decide)).trans (hG_78.1 89 (by decide))))
                            have e212_73_28 : (setO g165_96 73 (fup (g165_96 73) 28 1)) 73 28 = 1 := rd_ (sOf_eq _ _ _) (fup_eq _ _ _)
                            have e213_83 : (setO g165_96 73 (fup (g165_96 73) 28 1)) 83 = w130_43 83 := (sOf_ne _ _ (by decide)).trans (((hG_96.1 83 (by decide))).trans ((sOf_ne _ _ (by decide)).trans (hG_78.1 83 (by decide))))
                            have e214_89 : (setO g165_96 73 (fup (g165_96 73) 28 1)) 89 = w130_43 89 := (sOf_ne _ _ (by decide)).trans (((hG_96.1 89 (by decide))).trans ((sOf_ne _ _ (by decide)).trans (hG_78.1 89 (by decide))))
                            exact ih43 (n2 + 1) (setO g165_96 73 (fup (g165_96 73) 28 1)) hT_177 hF_177 (by rewrite [e178_91]; first | omega | (simp [up, setR] <;> omega)) (by rewrite [e179_73_28, e180_91]; first | omega | (simp [up, setR] <;> omega)) (by first | omega | (simp [up, setR] <;> omega)) (by rewrite [e181_73_28]; first | omega | (simp [up, setR] <;> omega)) (by rewrite [e182_91]; first | omega | (simp [up, setR] <;> omega)) (by rewrite [e183_90, e184_91]; first | assumption | exact hmi) (by rewrite [e185_83, e186_91, e187_92]; first | assumption | exact hlq) (by rewrite [e188_91]; exact h91f) (by rewrite [e189_92]; exact hlb) (by rewrite [e190_84, e191_85]; first | (first | ((intro j hj; have k1 := pk_at165 j hj; have k2 := pki j hj; exact ⟨k1.1.trans k2.1, k1.2.trans k2.2⟩)) | (intro j hj; exact ⟨rfl, (pk_at50 j hj).2.trans (pki j hj).2⟩) | (intro j hj; exact ⟨rfl, (pk_at165 j hj).2.trans (pki j hj).2⟩) | (intro j hj; exact ⟨rfl, (pk_at50 j hj).2⟩) | (intro j hj; exact ⟨rfl, (pk_at165 j hj).2⟩) | (intro j hj; exact ⟨rfl, (pki j hj).2⟩) | (intro j hj; exact ⟨rfl, rfl⟩)) | (intro j hj; exact ⟨rfl, (pk_at165 j hj).2.trans (pki j hj).2⟩) | (intro j hj; exact ⟨rfl, (pk_at50 j hj).2.trans (pki j hj).2⟩) | (intro j hj; exact ⟨rfl, (pk_at165 j hj).2⟩) | (intro j hj; exact ⟨rfl, (pk_at50 j hj).2⟩) | (intro j hj; exact ⟨rfl, (pki j hj).2⟩) | (intro j hj; exact ⟨rfl, rfl⟩)) (by rewrite [e192_83]; exact hP9) (by rewrite [e193_83]; exact k83f) (by rewrite [e194_90]; first | rfl | exact k90) (by rewrite [e195_89]; exact hWk) (by rewrite [e196_83, e197_89, e198_91]; exact hC9) (by rewrite [e199_83]; exact hq0) (by rewrite [e200_92]; first | exact k92 | (intro j hj; rw [fup_ne _ _ (by omega)]; exact k92 j hj)) (by rewrite [e201_92]; first | exact hl0 | (rw [fup_ne _ _ (by omega)]; exact hl0)) (by rewrite [e202_89, e203_91, e204_99]; exact h99) (by rewrite [e205_83, e206_89, e207_92]; exact hls) (by rewrite [e208_83]; first | omega | (simp [up, setR] <;> omega)) (by rewrite [e209_73_28, e210_83, e211_89]; intro q9; first | (exfalso; omega) | exact tr9.1 (by omega) | (rw [show n2 + 1 = (w130_43 91) b by omega]; exact rw9)) (by rewrite [e212_73_28, e213_83, e214_89]; intro m h1 h2 h3; by_cases e : m = n2 + 1; (rw [e]; intro r9; first | exact absurd (tr9.2 r9) (by omega) | exact absurd rfl (h3 e)); exact hw2 m h1 (by omega) (fun _ => by omega)) (by first | omega | (simp [up, setR] <;> omega))
                      · exfalso; omega
                refine TT_sub [1, 2, 3, 0, 4] rfl ?_
                have e215_91 : (setO w111_38 73 (fup (w111_38 73) 28 1)) 91 = w111_38 91 := sOf_ne _ _ (by decide)
                have e216_73_28 : (setO w111_38 73 (fup (w111_38 73) 28 1)) 73 28 = 1 := rd_ (sOf_eq _ _ _) (fup_eq _ _ _)
                have e217_91 : (setO w111_38 73 (fup (w111_38 73) 28 1)) 91 = w111_38 91 := sOf_ne _ _ (by decide)
                have e218_73_28 : (setO w111_38 73 (fup (w111_38 73) 28 1)) 73 28 = 1 := rd_ (sOf_eq _ _ _) (fup_eq _ _ _)
                have e219_91 : (setO w111_38 73 (fup (w111_38 73) 28 1)) 91 = w111_38 91 := sOf_ne _ _ (by decide)
                have e220_90 : (setO w111_38 73 (fup (w111_38 73) 28 1)) 90 = w111_38 90 := sOf_ne _ _ (by decide)
                have e221_91 : (setO w111_38 73 (fup (w111_38 73) 28 1)) 91 = w111_38 91 := sOf_ne _ _ (by decide)
                have e222_83 : (setO w111_38 73 (fup (w111_38 73) 28 1)) 83 = w111_38 83 := sOf_ne _ _ (by decide)
                have e223_91 : (setO w111_38 73 (fup (w111_38 73) 28 1)) 91 = w111_38 91 := sOf_ne _ _ (by decide)
                have e224_92 : (setO w111_38 73 (fup (w111_38 73) 28 1)) 92 = w111_38 92 := sOf_ne _ _ (by decide)
                have e225_91 : (setO w111_38 73 (fup (w111_38 73) 28 1)) 91 = w111_38 91 := sOf_ne _ _ (by decide)
                have e226_92 : (setO w111_38 73 (fup (w111_38 73) 28 1)) 92 = w111_38 92 := sOf_ne _ _ (by decide)
                have e227_84 : (setO w111_38 73 (fup (w111_38 73) 28 1)) 84 = h 84 := (sOf_ne _ _ (by decide)).trans (hF111_38.1 84 (by decide))
                have e228_85 : (setO w111_38 73 (fup (w111_38 73) 28 1)) 85 = w111_38 85 := sOf_ne _ _ (by decide)
                have e229_83 : (setO w111_38 73 (fup (w111_38 73) 28 1)) 83 = w111_38 83 := sOf_ne _ _ (by decide)
                have e230_83 : (setO w111_38 73 (fup (w111_38 73) 28 1)) 83 = w111_38 83 := sOf_ne _ _ (by decide)
                have e231_90 : (setO w111_38 73 (fup (w111_38 73) 28 1)) 90 = w111_38 90 := sOf_ne _ _ (by decide)
                have e232_89 : (setO w111_38 73 (fup (w111_38 73) 28 1)) 89 = w111_38 89 := sOf_ne _ _ (by decide)
                have e233_83 : (setO w111_38 73 (fup (w111_38 73) 28 1)) 83 = w111_38 83 := sOf_ne _ _ (by decide)
                have e234_89 : (setO w111_38 73 (fup (w111_38 73) 28 1)) 89 = w111_38 89 := sOf_ne _ _ (by decide)
                have e235_91 : (setO w111_38 73 (fup (w111_38 73) 28 1)) 91 = w111_38 91 := sOf_ne _ _ (by decide)
                have e236_83 : (setO w111_38 73 (fup (w111_38 73) 28 1)) 83 = w111_38 83 := sOf_ne _ _ (by decide)
                have e237_92 : (setO w111_38 73 (fup (w111_38 73) 28 1)) 92 = w111_38 92 := sOf_ne _ _ (by decide)
                have e238_92 : (setO w111_38 73 (fup (w111_38 73) 28 1)) 92 = w111_38 92 := sOf_ne _ _ (by decide)
                have e239_89 : (setO w111_38 73 (fup (w111_38 73) 28 1)) 89 = w111_38 89 := sOf_ne _ _ (by decide)
                have e240_91 : (setO w111_38 73 (fup (w111_38 73) 28 1)) 91 = w111_38 91 := sOf_ne _ _ (by decide)
                have e241_99 : (setO w111_38 73 (fup (w111_38 73) 28 1)) 99 = w111_38 99 := sOf_ne _ _ (by decide)
                have e242_83 : (setO w111_38 73 (fup (w111_38 73) 28 1)) 83 = w111_38 83 := sOf_ne _ _ (by decide)
                have e243_89 : (setO w111_38 73 (fup (w111_38 73) 28 1)) 89 = w111_38 89 := sOf_ne _ _ (by decide)
                have e244_92 : (setO w111_38 73 (fup (w111_38 73) 28 1)) 92 = w111_38 92 := sOf_ne _ _ (by decide)
                have e245_83 : (setO w111_38 73 (fup (w111_38 73) 28 1)) 83 = w111_38 83 := sOf_ne _ _ (by decide)
                have e246_73_28 : (setO w111_38 73 (fup (w111_38 73) 28 1)) 73 28 = 1 := rd_ (sOf_eq _ _ _) (fup_eq _ _ _)
                have e247_83 : (setO w111_38 73 (fup (w111_38 73) 28 1)) 83 = w111_38 83 := sOf_ne _ _ (by decide)
                have e248_89 : (setO w111_38 73 (fup (w111_38 73) 28 1)) 89 = w111_38 89 := sOf_ne _ _ (by decide)
                have e249_73_28 : (setO w111_38 73 (fup (w111_38 73) 28 1)) 73 28 = 1 := rd_ (sOf_eq _ _ _) (fup_eq _ _ _)
                have e250_83 : (setO w111_38 73 (fup (w111_38 73) 28 1)) 83 = w111_38 83 := sOf_ne _ _ (by decide)
                have e251_89 : (setO w111_38 73 (fup (w111_38 73) 28 1)) 89 = w111_38 89 := sOf_ne _ _ (by decide)
                exact L130_43 ((((4401 : Int) - (n - 1)).toNat) + 1) (n - 1) (setO w111_38 73 (fup (w111_38 73) 28 1)) hT_42 hF_42 (by rewrite [e215_91]; first | omega | (simp [up, setR] <;> omega)) (by rewrite [e216_73_28, e217_91]; first | omega | (simp [up, setR] <;> omega)) (by first | omega | (simp [up, setR] <;> omega)) (by rewrite [e218_73_28]; first | omega | (simp [up, setR] <;> omega)) (by rewrite [e219_91]; first | omega | (simp [up, setR] <;> omega)) (by rewrite [e220_90, e221_91]; first | assumption | exact hmi) (by rewrite [e222_83, e223_91, e224_92]; first | assumption | exact hlq) (by rewrite [e225_91]; first | exact h91f | (intro j hj; exact fup_ne _ _ hj)) (by rewrite [e226_92]; exact hlb) (by rewrite [e227_84, e228_85]; first | (first | (exact pki) | (intro j hj; exact ⟨rfl, (pk_at50 j hj).2.trans (pki j hj).2⟩) | (intro j hj; exact ⟨rfl, (pk_at50 j hj).2⟩) | (intro j hj; exact ⟨rfl, (pki j hj).2⟩) | (intro j hj; exact ⟨rfl, rfl⟩)) | (intro j hj; exact ⟨rfl, (pk_at50 j hj).2.trans (pki j hj).2⟩) | (intro j hj; exact ⟨rfl, (pk_at50 j hj).2⟩) | (intro j hj; exact ⟨rfl, (pki j hj).2⟩) | (intro j hj; exact ⟨rfl, rfl⟩)) (by rewrite [e229_83]; exact hP9) (by rewrite [e230_83]; exact k83f) (by rewrite [e231_90]; first | rfl | exact k90) (by rewrite [e232_89]; exact hWk) (by rewrite [e233_83, e234_89, e235_91]; exact hC9) (by rewrite [e236_83]; exact hq0) (by rewrite [e237_92]; first | exact k92 | (intro j hj; exact fup_ne _ _ (by omega))) (by rewrite [e238_92]; first | exact hl0 | exact fup_eq _ _ _) (by rewrite [e239_89, e240_91, e241_99]; exact h99) (by rewrite [e242_83, e243_89, e244_92]; exact hls) (by rewrite [e245_83]; first | omega | (simp [up, setR] <;> omega)) (by rewrite [e246_73_28, e247_83, e248_89]; intro q9; exfalso; omega) (by rewrite [e249_73_28, e250_83, e251_89]; intro m h1 h2 h3; exact hnm m h1 (by omega)) (Nat.lt_succ_self _)
          refine TT_sub [2, 3, 4, 1, 0] rfl ?_
          have e252_91 : g103_37 91 = w71_34 91 := (hG_37.1 91 (by decide))
          have e253_91 : g103_37 91 = w71_34 91 := (hG_37.1 91 (by decide))
          have e254_90 : g103_37 90 = w71_34 90 := (hG_37.1 90 (by decide))
          have e255_91 : g103_37 91 = w71_34 91 := (hG_37.1 91 (by decide))
          have e256_83 : g103_37 83 = w71_34 83 := (hG_37.1 83 (by decide))
          have e257_91 : g103_37 91 = w71_34 91 := (hG_37.1 91 (by decide))
          have e258_92 : g103_37 92 = w71_34 92 := (hG_37.1 92 (by decide))
          have e259_91 : g103_37 91 = w71_34 91 := (hG_37.1 91 (by decide))
          have e260_92 : g103_37 92 = w71_34 92 := (hG_37.1 92 (by decide))
          have e261_84 : g103_37 84 = h 84 := ((hG_37.1 84 (by decide))).trans (hF71_34.1 84 (by decide))
          have e262_85 : g103_37 85 = w71_34 85 := (hG_37.1 85 (by decide))
          have e263_83 : g103_37 83 = w71_34 83 := (hG_37.1 83 (by decide))
          have e264_83 : g103_37 83 = w71_34 83 := (hG_37.1 83 (by decide))
          have e265_90 : g103_37 90 = w71_34 90 := (hG_37.1 90 (by decide))
          have e266_89 : g103_37 89 = w71_34 89 := (hG_37.1 89 (by decide))
          have e267_83 : g103_37 83 = w71_34 83 := (hG_37.1 83 (by decide))
          have e268_89 : g103_37 89 = w71_34 89 := (hG_37.1 89 (by decide))
          have e269_91 : g103_37 91 = w71_34 91 := (hG_37.1 91 (by decide))
          have e270_83 : g103_37 83 = w71_34 83 := (hG_37.1 83 (by decide))
          have e271_83 : g103_37 83 = w71_34 83 := (hG_37.1 83 (by decide))
          have e272_92 : g103_37 92 = w71_34 92 := (hG_37.1 92 (by decide))
          have e273_92 : g103_37 92 = w71_34 92 := (hG_37.1 92 (by decide))
          have e274_89 : g103_37 89 = w71_34 89 := (hG_37.1 89 (by decide))
          have e275_91 : g103_37 91 = w71_34 91 := (hG_37.1 91 (by decide))
          have e276_83 : g103_37 83 = w71_34 83 := (hG_37.1 83 (by decide))
          have e277_89 : g103_37 89 = w71_34 89 := (hG_37.1 89 (by decide))
          have e278_92 : g103_37 92 = w71_34 92 := (hG_37.1 92 (by decide))
          have e279_83 : g103_37 83 = w71_34 83 := (hG_37.1 83 (by decide))
          have e280_89 : g103_37 89 = w71_34 89 := (hG_37.1 89 (by decide))
          exact L111_38 ((((40 : Int) - 1).toNat) + 1) 0 1 g103_37 hT_37 hF_37 (by first | omega | (simp [up, setR] <;> omega)) (by rewrite [e252_91]; first | omega | (simp [up, setR] <;> omega)) (by rewrite [e253_91]; first | omega | (simp [up, setR] <;> omega)) (by rewrite [e254_90, e255_91]; first | assumption | exact hmi) (by rewrite [e256_83, e257_91, e258_92]; exact hlq) (by rewrite [e259_91]; first | exact h91f | (intro j hj; exact fup_ne _ _ hj)) (by rewrite [e260_92]; intro i j h1 h2 h3; rw [show i = 0 by omega, show j = 0 by omega, Int.add_zero, hl0]; omega) (by rewrite [e261_84, e262_85]; first | (first | (exact pki) | (intro j hj; exact ⟨rfl, (pk_at50 j hj).2.trans (pki j hj).2⟩) | (intro j hj; exact ⟨rfl, (pk_at50 j hj).2⟩) | (intro j hj; exact ⟨rfl, (pki j hj).2⟩) | (intro j hj; exact ⟨rfl, rfl⟩)) | (intro j hj; exact ⟨rfl, (pk_at50 j hj).2.trans (pki j hj).2⟩) | (intro j hj; exact ⟨rfl, (pk_at50 j hj).2⟩) | (intro j hj; exact ⟨rfl, (pki j hj).2⟩) | (intro j hj; exact ⟨rfl, rfl⟩)) (by rewrite [e263_83]; exact hP9) (by rewrite [e264_83]; exact k83f) (by rewrite [e265_90]; first | rfl | exact k90) (by rewrite [e266_89]; exact hWk) (by rewrite [e267_83, e268_89, e269_91]; exact CWR_1 hq0 hE9 hwb hW (by omega)) (by rewrite [e270_83]; have r9 := ty_83 (i := b) (v := (w71_34 83) b) hT_37 (congrFun (hG_37.1 83 (by decide)) b) (by omega) (by omega); have p9 := pas_r (x := (w71_34 83) b) (by omega); omega) (by rewrite [e271_83]; exact hq0) (by rewrite [e272_92]; first | exact k92 | (intro j hj; exact fup_ne _ _ (by omega))) (by rewrite [e273_92]; first | exact hl0 | exact fup_eq _ _ _) (by rewrite [e274_89, e275_91]; intro j h1 h2; rw [uw_at103 j h1 h2, hwf]) (by rewrite [e276_83, e277_89, e278_92]; intro j h1 h2; exfalso; omega) (by rewrite [e279_83, e280_89]; intro m h1 h2; exfalso; omega) (Nat.lt_succ_self _)
        · refine TT_aload_n hK rfl 0 rfl dX12_tellBand_79 ?_
          refine gf_X12_63 hK (by decide) rfl (q := 89) rfl rfl dX12_tellBand_80 ?_
          refine TT_iload_n hK rfl 2 rfl dX12_tellBand_83 ?_
          refine TT_iload_n hK rfl 3 rfl dX12_tellBand_84 ?_
          refine TT_iadd hK dX12_tellBand_85 ?_
          refine TT_iconst hK dX12_tellBand_86 ?_
          refine TT_isub hK dX12_tellBand_87 ?_
          refine TT_aload_n hK rfl 0 rfl dX12_tellBand_88 ?_
          refine gf_X12_90 hK (by decide) rfl (q := 98) rfl rfl dX12_tellBand_89 ?_
          refine TT_iload_n hK rfl 3 rfl dX12_tellBand_92 ?_
          refine TT_iald hK (o := 98) (n := 3200) (by decide) rfl (by first | omega | (simp [up, setR] <;> omega)) (by first | omega | (simp [up, setR] <;> omega)) (v := (w71_34 98) k) rfl dX12_tellBand_93 ?_
          have r281 := ty_98 (i := k) (v := (w71_34 98) k) hT71_34 rfl (by omega) (by omega)
          refine TT_iast hK (o := 89) (n := 4400) (by decide) rfl (by omega) (by omega) dX12_tellBand_94 ?_
          refine TT_hp (h' := setO w71_34 89 (fup (w71_34 89) ((f + k) - 1) ((w71_34 98) k))) (up_can rfl rfl rfl) ?_
          have hT_282 : TY (setO w71_34 89 (fup (w71_34 89) ((f + k) - 1) ((w71_34 98) k))) := tu_89 hT71_34 (show up w71_34 89 ((f + k) - 1) ((w71_34 98) k) = (setO w71_34 89 (fup (w71_34 89) ((f + k) - 1) ((w71_34 98) k))) from up_can rfl rfl rfl) (by omega)
          have hF_282 : FRM [73, 83, 85, 89, 90, 91, 92, 93, 94, 95, 96, 97, 98, 99] [26, 27, 28, 29, 32, 33, 34, 36, 38, 39] h (setO w71_34 89 (fup (w71_34 89) ((f + k) - 1) ((w71_34 98) k))) := FRM_up (show up w71_34 89 ((f + k) - 1) ((w71_34 98) k) = (setO w71_34 89 (fup (w71_34 89) ((f + k) - 1) ((w71_34 98) k))) from up_can rfl rfl rfl) hF71_34 (by decide) (by decide)
          refine TT_iinc hK (v := k + 1) (lv' := [(3, vI (k + 1)), (0, vR 73), (1, vI b), (2, vI f)]) 3 rfl rfl (by decide) rfl dX12_tellBand_95 ?_
          refine TT_goto hK (tgt := 71) dX12_tellBand_98 (by decide) ?_
          refine TT_sub [1, 2, 3, 0] rfl ?_
          have e283_73_36 : (setO w71_34 89 (fup (w71_34 89) ((f + k) - 1) ((w71_34 98) k))) 73 36 = (w71_34 73) 36 := rd_ (sOf_ne _ _ (by decide)) rfl
          have e284_73_36 : (setO w71_34 89 (fup (w71_34 89) ((f + k) - 1) ((w71_34 98) k))) 73 36 = (w71_34 73) 36 := rd_ (sOf_ne _ _ (by decide)) rfl
          have e285_73_36 : (setO w71_34 89 (fup (w71_34 89) ((f + k) - 1) ((w71_34 98) k))) 73 36 = (w71_34 73) 36 := rd_ (sOf_ne _ _ (by decide)) rfl
          have e286_91 : (setO w71_34 89 (fup (w71_34 89) ((f + k) - 1) ((w71_34 98) k))) 91 = w71_34 91 := sOf_ne _ _ (by decide)
          have e287_90 : (setO w71_34 89 (fup (w71_34 89) ((f + k) - 1) ((w71_34 98) k))) 90 = w71_34 90 := sOf_ne _ _ (by decide)
          have e288_90 : (setO w71_34 89 (fup (w71_34 89) ((f + k) - 1) ((w71_34 98) k))) 90 = w71_34 90 := sOf_ne _ _ (by decide)
          have e289_91 : (setO w71_34 89 (fup (w71_34 89) ((f + k) - 1) ((w71_34 98) k))) 91 = w71_34 91 := sOf_ne _ _ (by decide)
          have e290_83 : (setO w71_34 89 (fup (w71_34 89) ((f + k) - 1) ((w71_34 98) k))) 83 = w71_34 83 := sOf_ne _ _ (by decide)
          have e291_91 : (setO w71_34 89 (fup (w71_34 89) ((f + k) - 1) ((w71_34 98) k))) 91 = w71_34 91 := sOf_ne _ _ (by decide)
          have e292_92 : (setO w71_34 89 (fup (w71_34 89) ((f + k) - 1) ((w71_34 98) k))) 92 = w71_34 92 := sOf_ne _ _ (by decide)
          have e293_92 : (setO w71_34 89 (fup (w71_34 89) ((f + k) - 1) ((w71_34 98) k))) 92 = w71_34 92 := sOf_ne _ _ (by decide)
          have e294_91 : (setO w71_34 89 (fup (w71_34 89) ((f + k) - 1) ((w71_34 98) k))) 91 = w71_34 91 := sOf_ne _ _ (by decide)
          have e295_84 : (setO w71_34 89 (fup (w71_34 89) ((f + k) - 1) ((w71_34 98) k))) 84 = h 84 := (sOf_ne _ _ (by decide)).trans (hF71_34.1 84 (by decide))
          have e296_85 : (setO w71_34 89 (fup (w71_34 89) ((f + k) - 1) ((w71_34 98) k))) 85 = w71_34 85 := sOf_ne _ _ (by decide)
          have e297_83 : (setO w71_34 89 (fup (w71_34 89) ((f + k) - 1) ((w71_34 98) k))) 83 = w71_34 83 := sOf_ne _ _ (by decide)
          have e298_83 : (setO w71_34 89 (fup (w71_34 89) ((f + k) - 1) ((w71_34 98) k))) 83 = w71_34 83 := sOf_ne _ _ (by decide)
          have e299_83 : (setO w71_34 89 (fup (w71_34 89) ((f + k) - 1) ((w71_34 98) k))) 83 = w71_34 83 := sOf_ne _ _ (by decide)
          have e300_90 : (setO w71_34 89 (fup (w71_34 89) ((f + k) - 1) ((w71_34 98) k))) 90 = w71_34 90 := sOf_ne _ _ (by decide)
          have e301_89 : (setO w71_34 89 (fup (w71_34 89) ((f + k) - 1) ((w71_34 98) k))) 89 = fup (w71_34 89) ((f + k) - 1) ((w71_34 98) k) := sOf_eq _ _ _
          have e302_73_36 : (setO w71_34 89 (fup (w71_34 89) ((f + k) - 1) ((w71_34 98) k))) 73 36 = (w71_34 73) 36 := rd_ (sOf_ne _ _ (by decide)) rfl
          have e303_83 : (setO w71_34 89 (fup (w71_34 89) ((f + k) - 1) ((w71_34 98) k))) 83 = w71_34 83 := sOf_ne _ _ (by decide)
          have e304_98 : (setO w71_34 89 (fup (w71_34 89) ((f + k) - 1) ((w71_34 98) k))) 98 = w71_34 98 := sOf_ne _ _ (by decide)
          have e305_89 : (setO w71_34 89 (fup (w71_34 89) ((f + k) - 1) ((w71_34 98) k))) 89 = fup (w71_34 89) ((f + k) - 1) ((w71_34 98) k) := sOf_eq _ _ _
          have e306_98 : (setO w71_34 89 (fup (w71_34 89) ((f + k) - 1) ((w71_34 98) k))) 98 = w71_34 98 := sOf_ne _ _ (by decide)
          have e307_92 : (setO w71_34 89 (fup (w71_34 89) ((f + k) - 1) ((w71_34 98) k))) 92 = w71_34 92 := sOf_ne _ _ (by decide)
          exact ih34 (k + 1) (setO w71_34 89 (fup (w71_34 89) ((f + k) - 1) ((w71_34 98) k))) hT_282 hF_282 (by rewrite [e283_73_36]; first | omega | (simp [up, setR] <;> omega)) (by rewrite [e284_73_36]; first | omega | (simp [up, setR] <;> omega)) (by rewrite [e285_73_36, e286_91]; omega) (by rewrite [e287_90]; omega) (by rewrite [e288_90, e289_91]; exact hmi) (by rewrite [e290_83, e291_91, e292_92]; exact hlq) (by rewrite [e293_92]; omega) (by rewrite [e294_91]; exact h91f) (by rewrite [e295_84, e296_85]; first | (first | (exact pki) | (intro j hj; exact ⟨rfl, (pk_at50 j hj).2.trans (pki j hj).2⟩) | (intro j hj; exact ⟨rfl, (pk_at50 j hj).2⟩) | (intro j hj; exact ⟨rfl, (pki j hj).2⟩) | (intro j hj; exact ⟨rfl, rfl⟩)) | (intro j hj; exact ⟨rfl, (pk_at50 j hj).2.trans (pki j hj).2⟩) | (intro j hj; exact ⟨rfl, (pk_at50 j hj).2⟩) | (intro j hj; exact ⟨rfl, (pki j hj).2⟩) | (intro j hj; exact ⟨rfl, rfl⟩)) (by rewrite [e297_83]; exact hP9) (by rewrite [e298_83]; exact k83f) (by rewrite [e299_83]; first | omega | (simp [up, setR] <;> omega)) (by rewrite [e300_90]; first | rfl | exact k90) (by rewrite [e301_89]; intro j hj; rw [fup_ne _ _ (by omega)]; exact hWk j hj) (by rewrite [e302_73_36, e303_83, e304_98]; exact hE9) (by rewrite [e305_89, e306_98]; intro j h1 h2; by_cases e : j = k; (rw [e, fup_eq]); (rw [fup_ne _ _ (by omega)]; exact hW j h1 (by omega))) (by rewrite [e307_92]; first | exact k92 | (intro j hj; rw [fup_ne _ _ (by omega)]; exact k92 j hj)) (by first | omega | (simp [up, setR] <;> omega))
    refine TT_sub [1, 2, 3, 0] rfl ?_
    have e308_73_36 : (setO g54_31 91 (fup (h 91) b (((g54_31 73) 36) - 1))) 73 36 = (g54_31 73) 36 := rd_ (sOf_ne _ _ (by decide)) rfl
    have e309_73_36 : (setO g54_31 91 (fup (h 91) b (((g54_31 73) 36) - 1))) 73 36 = (g54_31 73) 36 := rd_ (sOf_ne _ _ (by decide)) rfl
    have e310_73_36 : (setO g54_31 91 (fup (h 91) b (((g54_31 73) 36) - 1))) 73 36 = (g54_31 73) 36 := rd_ (sOf_ne _ _ (by decide)) rfl
    have e311_91 : (setO g54_31 91 (fup (h 91) b (((g54_31 73) 36) - 1))) 91 = fup (h 91) b (((g54_31 73) 36) - 1) := sOf_eq _ _ _
    have e312_90 : (setO g54_31 91 (fup (h 91) b (((g54_31 73) 36) - 1))) 90 = fup (h 90) b f := (sOf_ne _ _ (by decide)).trans (((hG_31.1 90 (by decide))).trans (((hG_24.1 90 (by decide))).trans (((hG_7.1 90 (by decide))).trans ((sOf_ne _ _ (by decide)).trans ((sOf_ne _ _ (by decide)).trans (sOf_eq _ _ _))))))
    have e313_90 : (setO g54_31 91 (fup (h 91) b (((g54_31 73) 36) - 1))) 90 = fup (h 90) b f := (sOf_ne _ _ (by decide)).trans (((hG_31.1 90 (by decide))).trans (((hG_24.1 90 (by decide))).trans (((hG_7.1 90 (by decide))).trans ((sOf_ne _ _ (by decide)).trans ((sOf_ne _ _ (by decide)).trans (sOf_eq _ _ _))))))
    have e314_91 : (setO g54_31 91 (fup (h 91) b (((g54_31 73) 36) - 1))) 91 = fup (h 91) b (((g54_31 73) 36) - 1) := sOf_eq _ _ _
    have e315_83 : (setO g54_31 91 (fup (h 91) b (((g54_31 73) 36) - 1))) 83 = g2_1 83 := (sOf_ne _ _ (by decide)).trans (((hG_31.1 83 (by decide))).trans (((hG_24.1 83 (by decide))).trans (((hG_7.1 83 (by decide))).trans ((sOf_ne _ _ (by decide)).trans ((sOf_ne _ _ (by decide)).trans (sOf_ne _ _ (by decide)))))))
    have e316_91 : (setO g54_31 91 (fup (h 91) b (((g54_31 73) 36) - 1))) 91 = fup (h 91) b (((g54_31 73) 36) - 1) := sOf_eq _ _ _
    have e317_92 : (setO g54_31 91 (fup (h 91) b (((g54_31 73) 36) - 1))) 92 = fup (h 92) (35 * b) 0 := (sOf_ne _ _ (by decide)).trans (((hG_31.1 92 (by decide))).trans (((hG_24.1 92 (by decide))).trans (((hG_7.1 92 (by decide))).trans (sOf_eq _ _ _))))
    have e318_92 : (setO g54_31 91 (fup (h 91) b (((g54_31 73) 36) - 1))) 92 = fup (h 92) (35 * b) 0 := (sOf_ne _ _ (by decide)).trans (((hG_31.1 92 (by decide))).trans (((hG_24.1 92 (by decide))).trans (((hG_7.1 92 (by decide))).trans (sOf_eq _ _ _))))
    have e319_91 : (setO g54_31 91 (fup (h 91) b (((g54_31 73) 36) - 1))) 91 = fup (h 91) b (((g54_31 73) 36) - 1) := sOf_eq _ _ _
    have e320_84 : (setO g54_31 91 (fup (h 91) b (((g54_31 73) 36) - 1))) 84 = h 84 := (sOf_ne _ _ (by decide)).trans (((hG_31.1 84 (by decide))).trans (((hG_24.1 84 (by decide))).trans (((hG_7.1 84 (by decide))).trans ((sOf_ne _ _ (by decide)).trans ((sOf_ne _ _ (by decide)).trans ((sOf_ne _ _ (by decide)).trans (hG_1.1 84 (by decide))))))))
    have e321_85 : (setO g54_31 91 (fup (h 91) b (((g54_31 73) 36) - 1))) 85 = g50_24 85 := (sOf_ne _ _ (by decide)).trans (hG_31.1 85 (by decide))
    have e322_83 : (setO g54_31 91 (fup (h 91) b (((g54_31 73) 36) - 1))) 83 = g2_1 83 := (sOf_ne _ _ (by decide)).trans (((hG_31.1 83 (by decide))).trans (((hG_24.1 83 (by decide))).trans (((hG_7.1 83 (by decide))).trans ((sOf_ne _ _ (by decide)).trans ((sOf_ne _ _ (by decide)).trans (sOf_ne _ _ (by decide)))))))
    have e323_83 : (setO g54_31 91 (fup (h 91) b (((g54_31 73) 36) - 1))) 83 = g2_1 83 := (sOf_ne _ _ (by decide)).trans (((hG_31.1 83 (by decide))).trans (((hG_24.1 83 (by decide))).trans (((hG_7.1 83 (by decide))).trans ((sOf_ne _ _ (by decide)).trans ((sOf_ne _ _ (by decide)).trans (sOf_ne _ _ (by decide)))))))
    have e324_83 : (setO g54_31 91 (fup (h 91) b (((g54_31 73) 36) - 1))) 83 = g2_1 83 := (sOf_ne _ _ (by decide)).trans (((hG_31.1 83 (by decide))).trans (((hG_24.1 83 (by decide))).trans (((hG_7.1 83 (by decide))).trans ((sOf_ne _ _ (by decide)).trans ((sOf_ne _ _ (by decide)).trans (sOf_ne _ _ (by decide)))))))
    have e325_90 : (setO g54_31 91 (fup (h 91) b (((g54_31 73) 36) - 1))) 90 = fup (h 90) b f := (sOf_ne _ _ (by decide)).trans (((hG_31.1 90 (by decide))).trans (((hG_24.1 90 (by decide))).trans (((hG_7.1 90 (by decide))).trans ((sOf_ne _ _ (by decide)).trans ((sOf_ne _ _ (by decide)).trans (sOf_eq _ _ _))))))
    have e326_89 : (setO g54_31 91 (fup (h 91) b (((g54_31 73) 36) - 1))) 89 = h 89 := (sOf_ne _ _ (by decide)).trans (((hG_31.1 89 (by decide))).trans (((hG_24.1 89 (by decide))).trans (((hG_7.1 89 (by decide))).trans ((sOf_ne _ _ (by decide)).trans ((sOf_ne _ _ (by decide)).trans ((sOf_ne _ _ (by decide)).trans (hG_1.1 89 (by decide))))))))
    have e327_73_36 : (setO g54_31 91 (fup (h 91) b (((g54_31 73) 36) - 1))) 73 36 = (g54_31 73) 36 := rd_ (sOf_ne _ _ (by decide)) rfl
    have e328_83 : (setO g54_31 91 (fup (h 91) b (((g54_31 73) 36) - 1))) 83 = g2_1 83 := (sOf_ne _ _ (by decide)).trans (((hG_31.1 83 (by decide))).trans (((hG_24.1 83 (by decide))).trans (((hG_7.1 83 (by decide))).trans ((sOf_ne _ _ (by decide)).trans ((sOf_ne _ _ (by decide)).trans (sOf_ne _ _ (by decide)))))))
    have e329_98 : (setO g54_31 91 (fup (h 91) b (((g54_31 73) 36) - 1))) 98 = g54_31 98 := sOf_ne _ _ (by decide)
    have e330_89 : (setO g54_31 91 (fup (h 91) b (((g54_31 73) 36) - 1))) 89 = h 89 := (sOf_ne _ _ (by decide)).trans (((hG_31.1 89 (by decide))).trans (((hG_24.1 89 (by decide))).trans (((hG_7.1 89 (by decide))).trans ((sOf_ne _ _ (by decide)).trans ((sOf_ne _ _ (by decide)).trans ((sOf_ne _ _ (by decide)).trans (hG_1.1 89 (by decide))))))))
    have e331_98 : (setO g54_31 91 (fup (h 91) b (((g54_31 73) 36) - 1))) 98 = g54_31 98 := sOf_ne _ _ (by decide)
    have e332_92 : (setO g54_31 91 (fup (h 91) b (((g54_31 73) 36) - 1))) 92 = fup (h 92) (35 * b) 0 := (sOf_ne _ _ (by decide)).trans (((hG_31.1 92 (by decide))).trans (((hG_24.1 92 (by decide))).trans (((hG_7.1 92 (by decide))).trans (sOf_eq _ _ _))))
    exact L71_34 ((((3200 : Int) - 1).toNat) + 1) 1 (setO g54_31 91 (fup (h 91) b (((g54_31 73) 36) - 1))) hT_33 hF_33 (by rewrite [e308_73_36]; first | omega | (simp [up, setR] <;> omega)) (by rewrite [e309_73_36]; first | omega | (simp [up, setR] <;> omega)) (by rewrite [e310_73_36, e311_91]; rw [fup_eq]; omega) (by rewrite [e312_90]; exact fup_eq _ _ _) (by rewrite [e313_90, e314_91]; exact MIQ_up hmi (by omega)) (by rewrite [e315_83, e316_91, e317_92]; exact LQ_1 hlq q1_at2) (by rewrite [e318_92]; exact fup_eq _ _ _) (by rewrite [e319_91]; first | (intro j hj; exact fup_ne _ _ hj)) (by rewrite [e320_84, e321_85]; first | (first | (exact pk_at50) | (intro j hj; exact ⟨rfl, (pk_at50 j hj).2⟩) | (intro j hj; exact ⟨rfl, rfl⟩)) | (intro j hj; exact ⟨rfl, (pk_at50 j hj).2⟩) | (intro j hj; exact ⟨rfl, rfl⟩)) (by rewrite [e322_83]; exact pz9_at2) (by rewrite [e323_83]; exact q1_at2) (by rewrite [e324_83]; first | omega | (simp [up, setR] <;> omega)) (by rewrite [e325_90]; first | rfl) (by rewrite [e326_89]; intro j hj; rfl) (by rewrite [e327_73_36, e328_83, e329_98]; exact ETQ_i b0_at40 (wk9_at50.2.1 rfl).1 p2_at47 et_at54) (by rewrite [e330_89, e331_98]; intro j h1 h2; exfalso; omega) (by rewrite [e332_92]; first | (intro j hj; exact fup_ne _ _ (by omega))) (Nat.lt_succ_self _)
  · refine TT_vret hK hQ ?_ dX12_tellBand_38
    have e333_91 : (setO (setO (setO g2_1 90 (fup (h 90) b f)) 91 (fup (h 91) b 0)) 92 (fup (h 92) (35 * b) 0)) 91 = fup (h 91) b 0 := (sOf_ne _ _ (by decide)).trans (sOf_eq _ _ _)
    have e334_90 : (setO (setO (setO g2_1 90 (fup (h 90) b f)) 91 (fup (h 91) b 0)) 92 (fup (h 92) (35 * b) 0)) 90 = fup (h 90) b f := (sOf_ne _ _ (by decide)).trans ((sOf_ne _ _ (by decide)).trans (sOf_eq _ _ _))
    have e335_91 : (setO (setO (setO g2_1 90 (fup (h 90) b f)) 91 (fup (h 91) b 0)) 92 (fup (h 92) (35 * b) 0)) 91 = fup (h 91) b 0 := (sOf_ne _ _ (by decide)).trans (sOf_eq _ _ _)
    have e336_83 : (setO (setO (setO g2_1 90 (fup (h 90) b f)) 91 (fup (h 91) b 0)) 92 (fup (h 92) (35 * b) 0)) 83 = g2_1 83 := (sOf_ne _ _ (by decide)).trans ((sOf_ne _ _ (by decide)).trans (sOf_ne _ _ (by decide)))
    have e337_91 : (setO (setO (setO g2_1 90 (fup (h 90) b f)) 91 (fup (h 91) b 0)) 92 (fup (h 92) (35 * b) 0)) 91 = fup (h 91) b 0 := (sOf_ne _ _ (by decide)).trans (sOf_eq _ _ _)
    have e338_92 : (setO (setO (setO g2_1 90 (fup (h 90) b f)) 91 (fup (h 91) b 0)) 92 (fup (h 92) (35 * b) 0)) 92 = fup (h 92) (35 * b) 0 := sOf_eq _ _ _
    have e339_91 : (setO (setO (setO g2_1 90 (fup (h 90) b f)) 91 (fup (h 91) b 0)) 92 (fup (h 92) (35 * b) 0)) 91 = fup (h 91) b 0 := (sOf_ne _ _ (by decide)).trans (sOf_eq _ _ _)
    have e340_84 : (setO (setO (setO g2_1 90 (fup (h 90) b f)) 91 (fup (h 91) b 0)) 92 (fup (h 92) (35 * b) 0)) 84 = h 84 := (sOf_ne _ _ (by decide)).trans ((sOf_ne _ _ (by decide)).trans ((sOf_ne _ _ (by decide)).trans (hG_1.1 84 (by decide))))
    have e341_85 : (setO (setO (setO g2_1 90 (fup (h 90) b f)) 91 (fup (h 91) b 0)) 92 (fup (h 92) (35 * b) 0)) 85 = h 85 := (sOf_ne _ _ (by decide)).trans ((sOf_ne _ _ (by decide)).trans ((sOf_ne _ _ (by decide)).trans (hG_1.1 85 (by decide))))
    have e342_83 : (setO (setO (setO g2_1 90 (fup (h 90) b f)) 91 (fup (h 91) b 0)) 92 (fup (h 92) (35 * b) 0)) 83 = g2_1 83 := (sOf_ne _ _ (by decide)).trans ((sOf_ne _ _ (by decide)).trans (sOf_ne _ _ (by decide)))
    have e343_89 : (setO (setO (setO g2_1 90 (fup (h 90) b f)) 91 (fup (h 91) b 0)) 92 (fup (h 92) (35 * b) 0)) 89 = h 89 := (sOf_ne _ _ (by decide)).trans ((sOf_ne _ _ (by decide)).trans ((sOf_ne _ _ (by decide)).trans (hG_1.1 89 (by decide))))
    have e344_91 : (setO (setO (setO g2_1 90 (fup (h 90) b f)) 91 (fup (h 91) b 0)) 92 (fup (h 92) (35 * b) 0)) 91 = fup (h 91) b 0 := (sOf_ne _ _ (by decide)).trans (sOf_eq _ _ _)
    have e345_83 : (setO (setO (setO g2_1 90 (fup (h 90) b f)) 91 (fup (h 91) b 0)) 92 (fup (h 92) (35 * b) 0)) 83 = g2_1 83 := (sOf_ne _ _ (by decide)).trans ((sOf_ne _ _ (by decide)).trans (sOf_ne _ _ (by decide)))
    have e346_89 : (setO (setO (setO g2_1 90 (fup (h 90) b f)) 91 (fup (h 91) b 0)) 92 (fup (h 92) (35 * b) 0)) 89 = h 89 := (sOf_ne _ _ (by decide)).trans ((sOf_ne _ _ (by decide)).trans ((sOf_ne _ _ (by decide)).trans (hG_1.1 89 (by decide))))
    have e347_90 : (setO (setO (setO g2_1 90 (fup (h 90) b f)) 91 (fup (h 91) b 0)) 92 (fup (h 92) (35 * b) 0)) 90 = fup (h 90) b f := (sOf_ne _ _ (by decide)).trans ((sOf_ne _ _ (by decide)).trans (sOf_eq _ _ _))
    have e348_83 : (setO (setO (setO g2_1 90 (fup (h 90) b f)) 91 (fup (h 91) b 0)) 92 (fup (h 92) (35 * b) 0)) 83 = g2_1 83 := (sOf_ne _ _ (by decide)).trans ((sOf_ne _ _ (by decide)).trans (sOf_ne _ _ (by decide)))
    have e349_83 : (setO (setO (setO g2_1 90 (fup (h 90) b f)) 91 (fup (h 91) b 0)) 92 (fup (h 92) (35 * b) 0)) 83 = g2_1 83 := (sOf_ne _ _ (by decide)).trans ((sOf_ne _ _ (by decide)).trans (sOf_ne _ _ (by decide)))
    have e350_89 : (setO (setO (setO g2_1 90 (fup (h 90) b f)) 91 (fup (h 91) b 0)) 92 (fup (h 92) (35 * b) 0)) 89 = h 89 := (sOf_ne _ _ (by decide)).trans ((sOf_ne _ _ (by decide)).trans ((sOf_ne _ _ (by decide)).trans (hG_1.1 89 (by decide))))
    have e351_92 : (setO (setO (setO g2_1 90 (fup (h 90) b f)) 91 (fup (h 91) b 0)) 92 (fup (h 92) (35 * b) 0)) 92 = fup (h 92) (35 * b) 0 := sOf_eq _ _ _
    have e352_92 : (setO (setO (setO g2_1 90 (fup (h 90) b f)) 91 (fup (h 91) b 0)) 92 (fup (h 92) (35 * b) 0)) 92 = fup (h 92) (35 * b) 0 := sOf_eq _ _ _
    have e353_92 : (setO (setO (setO g2_1 90 (fup (h 90) b f)) 91 (fup (h 91) b 0)) 92 (fup (h 92) (35 * b) 0)) 92 = fup (h 92) (35 * b) 0 := sOf_eq _ _ _
    exact ⟨⟨hT_4, hF_4⟩, rfl, (by rewrite [e333_91]; first | omega | (rw [fup_eq]; omega)), (by rewrite [e334_90, e335_91]; first | assumption | exact MIQ_up hmi (by omega)), (by rewrite [e336_83, e337_91, e338_92]; first | exact LQ_0 hlq (by assumption) (by assumption)), (by rewrite [e339_91]; first | (intro j hj; exact fup_ne _ _ hj)), (by rewrite [e340_84, e341_85]; first | (first | (first | (intro j hj; exact ⟨rfl, rfl⟩)) | (intro j hj; exact ⟨rfl, rfl⟩)) | (intro j hj; exact ⟨rfl, rfl⟩)), (by rewrite [e342_83, e343_89, e344_91]; first | exact CWR_0 (by omega) (fup_eq _ _ _)), (by rewrite [e345_83]; first | exact pz9_at2), (by rewrite [e346_89]; first | (intro j hj; rfl)), (by rewrite [e347_90]; first | rfl), (by rewrite [e348_83]; first | exact q1_at2), (by rewrite [e349_83, e350_89, e351_92]; first | exact LSX_0 (by assumption)), (by rewrite [e352_92]; first | (intro j hj; exact fup_ne _ _ (by omega))), (by rewrite [e353_92]; first | exact fup_eq _ _ _)⟩

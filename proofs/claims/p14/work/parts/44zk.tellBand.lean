theorem CQ_b {E0 : ES_} {D0 : Int × DS_} {h : Hp_} (hE : ES0 E0) (h29 : h 73 29 = 0) (e : ((h 73 32, h 73 33, h 73 34, h 73 36, h 96, h 97, h 98) : ES_) = E0) : CQ 0 E0 D0 h [] := ⟨h29, fun _ => ⟨e, ES0_q hE⟩, fun q => by omega⟩
def D00 : Int × DS_ := (0, 0, 0, 0, 0, fun _ => 0, fun _ => 0)
def CWR (M : Int → Int) (s : TS_) (w g kd q : Int) (B : Int → Int) (n : Int) : Prop := (q = 0 → n = 0) ∧ (q ≠ 0 → ∃ E : ES_, ES0 E ∧ WRD (endE (tlF (psN M kd w g q (pas q).toNat s).2.2.2 E)) B n)
def ETQ (M : Int → Int) (s : TS_) (w g kd q : Int) (o : Int → Int) (N : Int) : Prop := ∃ E : ES_, ES0 E ∧ o = (endE (tlF (psN M kd w g q (pas q).toNat s).2.2.2 E)).2.2.2 ∧ N = if (endE (tlF (psN M kd w g q (pas q).toNat s).2.2.2 E)).2.2.2 ((endE (tlF (psN M kd w g q (pas q).toNat s).2.2.2 E)).2.2.1 - 1) = 255 then (endE (tlF (psN M kd w g q (pas q).toNat s).2.2.2 E)).2.2.1 - 1 else (endE (tlF (psN M kd w g q (pas q).toNat s).2.2.2 E)).2.2.1
theorem ETQ_i {M o : Int → Int} {s : TS_} {w g kd q a c t n N z : Int} {st lk o2 : Int → Int} {E : ES_} (hE : ES0 E) (e : ((a, c, t, n, st, lk, o2) : ES_) = tlF (psN M kd w g q z.toNat s).2.2.2 E) (hz : z = pas q) (h : o = (endS a c t n o2).2.2.2 ∧ N = if (endS a c t n o2).2.2.2 ((endS a c t n o2).2.2.1 - 1) = 255 then (endS a c t n o2).2.2.1 - 1 else (endS a c t n o2).2.2.1) : ETQ M s w g kd q o N := by
  subst hz
  refine ⟨E, hE, ?_⟩
  rw [← e]
  exact h
theorem CWR_1 {M o F : Int → Int} {s : TS_} {w g kd q n N f k : Int} (hq : q ≠ 0) (h : ETQ M s w g kd q o N) (hn : n + 1 = N) (hW : ∀ j : Int, 1 ≤ j → j < k → F (f + j - 1) = o j) (hk : N ≤ k) : CWR M s w g kd q (fun i => F (f + i)) n := by
  obtain ⟨E, hE, h1, h2⟩ := h
  refine ⟨fun z => absurd z hq, fun _ => ⟨E, hE, by omega, fun j j1 j2 => ?_⟩⟩
  show F (f + (j - 1)) = _
  rw [← h1, ← hW j j1 (by omega), show f + (j - 1) = f + j - 1 by omega]
theorem CWR_0 {M F : Int → Int} {s : TS_} {w g kd q n : Int} (hq : q = 0) (hn : n = 0) : CWR M s w g kd q F n := ⟨fun _ => hn, fun z => absurd hq z⟩
set_option maxRecDepth 20000 in
theorem s_tellBand_x (M : Int → Int) (s : TS_) (b f : Int) (h : Hp_) (hT : TY h) (hb : 0 ≤ b ∧ b ≤ 9) (hf : 0 ≤ f ∧ f + 48 * ((h 80) b * (h 81) b) + 30 ≤ 4400) (htb : TBL (h 74) (h 75)) (hmi : MIQ (h 90) (h 91)) (hlq : LQ (h 83) (h 91) (h 92) b) (hs0 : TS0 s) (hms : MSQ M (h 84) (h 85) b ((h 80) b) ((h 81) b)) : Ctr yX12_tellBand cX12_tellBand 5 none (rmd 9) ly ly 0 0 [vR 73, vI b, vI f] h (fun r h' => (TY h' ∧ FRM [73, 83, 84, 85, 89, 90, 91, 92, 93, 94, 95, 96, 97, 98, 99] [26, 27, 28, 29, 32, 33, 34, 36, 38, 39] h h') ∧ r = none ∧ ((h' 91) b ≤ 48 * ((h 80) b * (h 81) b) + 30) ∧ (MIQ (h' 90) (h' 91)) ∧ (LQ (h' 83) (h' 91) (h' 92) (b + 1)) ∧ (∀ j : Int, j ≠ b → (h' 91) j = (h 91) j) ∧ (∀ j : Int, j < 640 → (h' 84) j = (h 84) j ∧ (h' 85) j = (h 85) j) ∧ (CWR M s ((h 80) b) ((h 81) b) ((h 82) b) ((h' 83) b) (fun i => (h' 89) (f + i)) ((h' 91) b)) ∧ (PZQ (h 84) b (64 * b + 64) ((h' 83) b)) ∧ (∀ j : Int, j < f → (h' 89) j = (h 89) j) ∧ ((h' 90) = fup (h 90) b f) ∧ (∀ j : Int, j ≠ b → (h' 83) j = (h 83) j)) := by
  refine Ctr_of (by decide) (Nat.le_of_ble_eq_true rfl) ⟨Nat.le_refl _, Nat.le_refl _⟩ (fun K hK hQ _ => ?_)
  show TT K ly 0 0 0 [(0, vR 73), (1, vI b), (2, vI f)] [] h
  have hF : FRM [73, 83, 84, 85, 89, 90, 91, 92, 93, 94, 95, 96, 97, 98, 99] [26, 27, 28, 29, 32, 33, 34, 36, 38, 39] h h := FRM_rf _ _ _
  have rw0 := ty_80 (i := b) (v := h 80 b) hT rfl (by omega) (by omega)
  have re0 := ty_81 (i := b) (v := h 81 b) hT rfl (by omega) (by omega)
  have ra0 : 0 ≤ h 80 b * h 81 b := Int.mul_nonneg rw0.1 re0.1
  have ra1 := A64 rw0 re0
  refine TT_aload_n hK rfl 0 rfl dX12_tellBand_0 ?_
  refine TT_iload_n hK rfl 1 rfl dX12_tellBand_1 ?_
  refine iv_X12_290 hK (s_findPlanes_e b h hT (by first | omega | (simp [up, setR] <;> omega)) (by intro j h1 h2; exact (ty_84 (i := j) (v := h 84 j) hT rfl (by omega) (by omega)).2 (by omega))) (by decide) rfl ⟨by decide, by decide⟩ (by decide) rfl rfl (Nat.le_of_ble_eq_true rfl) ⟨by decide, by decide⟩ dX12_tellBand_2 ?_
  intro r9 g2_1 hp9
  obtain ⟨⟨hT_1, hG_1⟩, hr9, q1_1, pz9_1⟩ := hp9
  rw [hr9]
  have hF_1 : FRM [73, 83, 84, 85, 89, 90, 91, 92, 93, 94, 95, 96, 97, 98, 99] [26, 27, 28, 29, 32, 33, 34, 36, 38, 39] h g2_1 := FRM_tr hF hG_1 (by decide) (by decide)
  have q1_at2 := q1_1
  have pz9_at2 := pz9_1
  show TT K ly 0 0 5 [(0, vR 73), (1, vI b), (2, vI f)] [] g2_1
  refine TT_aload_n hK rfl 0 rfl dX12_tellBand_5 ?_
  refine gf_X12_66 hK (by decide) rfl (q := 90) rfl rfl dX12_tellBand_6 ?_
  refine TT_iload_n hK rfl 1 rfl dX12_tellBand_9 ?_
  refine TT_iload_n hK rfl 2 rfl dX12_tellBand_10 ?_
  refine TT_iast hK (o := 90) (n := 10) (by decide) rfl (by omega) (by omega) dX12_tellBand_11 ?_
  refine TT_hp (h' := setO g2_1 90 (fup (h 90) b f)) (up_can (hG_1.1 90 (by decide)) rfl rfl) ?_
  have hT_2 : TY (setO g2_1 90 (fup (h 90) b f)) := tu_90 hT_1 (show up g2_1 90 b f = (setO g2_1 90 (fup (h 90) b f)) from up_can (hG_1.1 90 (by decide)) rfl rfl) (by omega)
  have hF_2 : FRM [73, 83, 84, 85, 89, 90, 91, 92, 93, 94, 95, 96, 97, 98, 99] [26, 27, 28, 29, 32, 33, 34, 36, 38, 39] h (setO g2_1 90 (fup (h 90) b f)) := FRM_up (show up g2_1 90 b f = (setO g2_1 90 (fup (h 90) b f)) from up_can (hG_1.1 90 (by decide)) rfl rfl) hF_1 (by decide) (by decide)
  refine TT_aload_n hK rfl 0 rfl dX12_tellBand_12 ?_
  refine gf_X12_69 hK (by decide) rfl (q := 91) rfl rfl dX12_tellBand_13 ?_
  refine TT_iload_n hK rfl 1 rfl dX12_tellBand_16 ?_
  refine TT_iconst hK dX12_tellBand_17 ?_
  refine TT_iast hK (o := 91) (n := 10) (by decide) rfl (by omega) (by omega) dX12_tellBand_18 ?_
  refine TT_hp (h' := setO (setO g2_1 90 (fup (h 90) b f)) 91 (fup (h 91) b 0)) (up_can ((sOf_ne _ _ (by decide)).trans (hG_1.1 91 (by decide))) rfl rfl) ?_
  have hT_3 : TY (setO (setO g2_1 90 (fup (h 90) b f)) 91 (fup (h 91) b 0)) := tu_91 hT_2 (show up (setO g2_1 90 (fup (h 90) b f)) 91 b 0 = (setO (setO g2_1 90 (fup (h 90) b f)) 91 (fup (h 91) b 0)) from up_can ((sOf_ne _ _ (by decide)).trans (hG_1.1 91 (by decide))) rfl rfl) (by omega)
  have hF_3 : FRM [73, 83, 84, 85, 89, 90, 91, 92, 93, 94, 95, 96, 97, 98, 99] [26, 27, 28, 29, 32, 33, 34, 36, 38, 39] h (setO (setO g2_1 90 (fup (h 90) b f)) 91 (fup (h 91) b 0)) := FRM_up (show up (setO g2_1 90 (fup (h 90) b f)) 91 b 0 = (setO (setO g2_1 90 (fup (h 90) b f)) 91 (fup (h 91) b 0)) from up_can ((sOf_ne _ _ (by decide)).trans (hG_1.1 91 (by decide))) rfl rfl) hF_2 (by decide) (by decide)
  refine TT_aload_n hK rfl 0 rfl dX12_tellBand_19 ?_
  refine gf_X12_72 hK (by decide) rfl (q := 92) rfl rfl dX12_tellBand_20 ?_
  refine TT_bipush hK (by decide) dX12_tellBand_23 ?_
  refine TT_iload_n hK rfl 1 rfl dX12_tellBand_25 ?_
  refine TT_imul hK dX12_tellBand_26 ?_
  refine TT_iconst hK dX12_tellBand_27 ?_
  refine TT_iast hK (o := 92) (n := 350) (by decide) rfl (by omega) (by omega) dX12_tellBand_28 ?_
  refine TT_hp (h' := setO (setO (setO g2_1 90 (fup (h 90) b f)) 91 (fup (h 91) b 0)) 92 (fup (h 92) (35 * b) 0)) (up_can ((sOf_ne _ _ (by decide)).trans ((sOf_ne _ _ (by decide)).trans (hG_1.1 92 (by decide)))) rfl rfl) ?_
  have hT_4 : TY (setO (setO (setO g2_1 90 (fup (h 90) b f)) 91 (fup (h 91) b 0)) 92 (fup (h 92) (35 * b) 0)) := tu_92 hT_3 (show up (setO (setO g2_1 90 (fup (h 90) b f)) 91 (fup (h 91) b 0)) 92 (35 * b) 0 = (setO (setO (setO g2_1 90 (fup (h 90) b f)) 91 (fup (h 91) b 0)) 92 (fup (h 92) (35 * b) 0)) from up_can ((sOf_ne _ _ (by decide)).trans ((sOf_ne _ _ (by decide)).trans (hG_1.1 92 (by decide)))) rfl rfl) (by omega)
  have hF_4 : FRM [73, 83, 84, 85, 89, 90, 91, 92, 93, 94, 95, 96, 97, 98, 99] [26, 27, 28, 29, 32, 33, 34, 36, 38, 39] h (setO (setO (setO g2_1 90 (fup (h 90) b f)) 91 (fup (h 91) b 0)) 92 (fup (h 92) (35 * b) 0)) := FRM_up (show up (setO (setO g2_1 90 (fup (h 90) b f)) 91 (fup (h 91) b 0)) 92 (35 * b) 0 = (setO (setO (setO g2_1 90 (fup (h 90) b f)) 91 (fup (h 91) b 0)) 92 (fup (h 92) (35 * b) 0)) from up_can ((sOf_ne _ _ (by decide)).trans ((sOf_ne _ _ (by decide)).trans (hG_1.1 92 (by decide)))) rfl rfl) hF_3 (by decide) (by decide)
  refine TT_aload_n hK rfl 0 rfl dX12_tellBand_29 ?_
  refine gf_X12_44 hK (by decide) rfl (q := 83) rfl rfl dX12_tellBand_30 ?_
  refine TT_iload_n hK rfl 1 rfl dX12_tellBand_33 ?_
  refine TT_iald hK (o := 83) (n := 20) (by decide) rfl (by first | omega | (simp [up, setR] <;> omega)) (by first | omega | (simp [up, setR] <;> omega)) (v := (g2_1 83) b) (rd_ ((sOf_ne _ _ (by decide)).trans ((sOf_ne _ _ (by decide)).trans (sOf_ne _ _ (by decide)))) rfl) dX12_tellBand_34 ?_
  have r5 := ty_83 (i := b) (v := (g2_1 83) b) hT_4 (rd_ ((sOf_ne _ _ (by decide)).trans ((sOf_ne _ _ (by decide)).trans (sOf_ne _ _ (by decide)))) rfl) (by omega) (by omega)
  refine TT_if_ne hK (tgt := 39) (irm (by omega) (by omega)) dX12_tellBand_35 (by decide) (fun hb35_6 => ?_) (fun hb35_6 => ?_)
  · have q12 := pz9_at2.1
    refine TT_aload_n hK rfl 0 rfl dX12_tellBand_39 ?_
    refine iv_X12_293 hK (s_begT_e (setO (setO (setO g2_1 90 (fup (h 90) b f)) 91 (fup (h 91) b 0)) 92 (fup (h 92) (35 * b) 0)) hT_4 ) (by decide) rfl ⟨by decide, by decide⟩ (by decide) rfl rfl (Nat.le_of_ble_eq_true rfl) ⟨by decide, by decide⟩ dX12_tellBand_40 ?_
    intro r9 g40_7 hp9
    obtain ⟨⟨hT_7, hG_7⟩, hr9, p1_7, p2_7, p3_7, p4_7, b0_7⟩ := hp9
    rw [hr9]
    have hF_7 : FRM [73, 83, 84, 85, 89, 90, 91, 92, 93, 94, 95, 96, 97, 98, 99] [26, 27, 28, 29, 32, 33, 34, 36, 38, 39] h g40_7 := FRM_tr hF_4 hG_7 (by decide) (by decide)
    have b0_at40 := b0_7
    show TT K ly 0 0 43 [(0, vR 73), (1, vI b), (2, vI f)] [] g40_7
    refine TT_aload_n hK rfl 0 rfl dX12_tellBand_43 ?_
    refine TT_iload_n hK rfl 1 rfl dX12_tellBand_44 ?_
    refine TT_aload_n hK rfl 0 rfl dX12_tellBand_45 ?_
    refine TT_iload_n hK rfl 1 rfl dX12_tellBand_46 ?_
    refine iv_X12_296 hK (s_passesOf_x b g40_7 hT_7 (by first | omega | (simp [up, setR] <;> omega))) (by decide) rfl ⟨by decide, by decide⟩ (by decide) rfl rfl (Nat.le_of_ble_eq_true rfl) ⟨by decide, by decide⟩ dX12_tellBand_47 ?_
    intro r9 g47_8 hp9
    obtain ⟨⟨hT_8, hG_8⟩, z47_8, hr9, hz_8, p1_8, p2_8⟩ := hp9
    rw [hr9]
    have hE_8 : g40_7 = g47_8 := (funext (fun o9 => hG_8.1 o9 (List.not_mem_nil))).symm
    subst hE_8
    rw [show g40_7 83 = g2_1 83 from ((hG_7.1 83 (by decide))).trans ((sOf_ne _ _ (by decide)).trans ((sOf_ne _ _ (by decide)).trans (sOf_ne _ _ (by decide))))] at p2_8
    have p2_at47 := p2_8
    show TT K ly 0 0 50 [(0, vR 73), (1, vI b), (2, vI f)] [vI z47_8, vI b, vR 73] g40_7
    have z1 := PhS_r (g40_7 96)
    have v1 : z47_8 * (h 80 b * h 81 b) ≤ 34 * (h 80 b * h 81 b) := Int.mul_le_mul_of_nonneg_right (by omega) ra0
    have e9_74 : g40_7 74 = h 74 := ((hG_7.1 74 (by decide))).trans ((sOf_ne _ _ (by decide)).trans ((sOf_ne _ _ (by decide)).trans ((sOf_ne _ _ (by decide)).trans (hG_1.1 74 (by decide)))))
    have e10_75 : g40_7 75 = h 75 := ((hG_7.1 75 (by decide))).trans ((sOf_ne _ _ (by decide)).trans ((sOf_ne _ _ (by decide)).trans ((sOf_ne _ _ (by decide)).trans (hG_1.1 75 (by decide)))))
    have e11_73_32 : g40_7 73 32 = (g40_7 73) 32 := rfl
    have e12_73_29 : g40_7 73 29 = (g40_7 73) 29 := rfl
    have e13_73_29 : g40_7 73 29 = (g40_7 73) 29 := rfl
    have e14_73_34 : g40_7 73 34 = (g40_7 73) 34 := rfl
    have e15_73_36 : g40_7 73 36 = (g40_7 73) 36 := rfl
    have e16_80 : g40_7 80 = h 80 := ((hG_7.1 80 (by decide))).trans ((sOf_ne _ _ (by decide)).trans ((sOf_ne _ _ (by decide)).trans ((sOf_ne _ _ (by decide)).trans (hG_1.1 80 (by decide)))))
    have e17_81 : g40_7 81 = h 81 := ((hG_7.1 81 (by decide))).trans ((sOf_ne _ _ (by decide)).trans ((sOf_ne _ _ (by decide)).trans ((sOf_ne _ _ (by decide)).trans (hG_1.1 81 (by decide)))))
    have e18_80 : g40_7 80 = h 80 := ((hG_7.1 80 (by decide))).trans ((sOf_ne _ _ (by decide)).trans ((sOf_ne _ _ (by decide)).trans ((sOf_ne _ _ (by decide)).trans (hG_1.1 80 (by decide)))))
    have e19_81 : g40_7 81 = h 81 := ((hG_7.1 81 (by decide))).trans ((sOf_ne _ _ (by decide)).trans ((sOf_ne _ _ (by decide)).trans ((sOf_ne _ _ (by decide)).trans (hG_1.1 81 (by decide)))))
    have e20_84 : g40_7 84 = h 84 := ((hG_7.1 84 (by decide))).trans ((sOf_ne _ _ (by decide)).trans ((sOf_ne _ _ (by decide)).trans ((sOf_ne _ _ (by decide)).trans (hG_1.1 84 (by decide)))))
    have e21_85 : g40_7 85 = h 85 := ((hG_7.1 85 (by decide))).trans ((sOf_ne _ _ (by decide)).trans ((sOf_ne _ _ (by decide)).trans ((sOf_ne _ _ (by decide)).trans (hG_1.1 85 (by decide)))))
    have e22_83 : g40_7 83 = g2_1 83 := ((hG_7.1 83 (by decide))).trans ((sOf_ne _ _ (by decide)).trans ((sOf_ne _ _ (by decide)).trans (sOf_ne _ _ (by decide))))
    have e23_83 : g40_7 83 = g2_1 83 := ((hG_7.1 83 (by decide))).trans ((sOf_ne _ _ (by decide)).trans ((sOf_ne _ _ (by decide)).trans (sOf_ne _ _ (by decide))))
    refine iv_X12_299 hK (s_walk_x 0 (((g40_7 73) 32, (g40_7 73) 33, (g40_7 73) 34, (g40_7 73) 36, g40_7 96, g40_7 97, g40_7 98) : ES_) D00 M s b z47_8 g40_7 hT_7 (by first | omega | (simp [up, setR] <;> omega)) (by first | omega | (simp [up, setR] <;> omega)) (by rewrite [e9_74, e10_75]; first | assumption | exact htb) (by rewrite [e11_73_32]; first | omega | (simp [up, setR] <;> omega)) (by rewrite [e12_73_29]; first | omega | (simp [up, setR] <;> omega)) (by rewrite [e13_73_29, e14_73_34, e15_73_36, e16_80, e17_81]; first | omega | (simp [up, setR] <;> omega)) (by exact Or.inl rfl) (by exact hs0) (by rewrite [e18_80, e19_81, e20_84, e21_85]; exact hms) (by exact CQ_b b0_at40 (by omega) rfl) (by first | omega | (simp [up, setR] <;> omega)) (by rewrite [e22_83]; first | omega | (simp [up, setR] <;> omega)) (by rewrite [e23_83]; first | omega | (simp [up, setR] <;> omega))) (by decide) rfl ⟨by decide, by decide⟩ (by decide) rfl rfl (Nat.le_of_ble_eq_true rfl) ⟨by decide, by decide⟩ dX12_tellBand_50 ?_
    intro r9 g50_24 hp9
    obtain ⟨⟨hT_24, hG_24⟩, hr9, pa_24, pm_24, pk_24, wk9_24⟩ := hp9
    rw [hr9]
    have hF_24 : FRM [73, 83, 84, 85, 89, 90, 91, 92, 93, 94, 95, 96, 97, 98, 99] [26, 27, 28, 29, 32, 33, 34, 36, 38, 39] h g50_24 := FRM_tr hF_7 hG_24 (by decide) (by decide)
    rw [show g40_7 73 29 = (g40_7 73) 29 from rfl] at pm_24
    rw [show g40_7 73 34 = (g40_7 73) 34 from rfl] at pm_24
    rw [show g40_7 73 36 = (g40_7 73) 36 from rfl] at pm_24
    rw [show g40_7 80 = h 80 from ((hG_7.1 80 (by decide))).trans ((sOf_ne _ _ (by decide)).trans ((sOf_ne _ _ (by decide)).trans ((sOf_ne _ _ (by decide)).trans (hG_1.1 80 (by decide)))))] at pm_24
    rw [show g40_7 81 = h 81 from ((hG_7.1 81 (by decide))).trans ((sOf_ne _ _ (by decide)).trans ((sOf_ne _ _ (by decide)).trans ((sOf_ne _ _ (by decide)).trans (hG_1.1 81 (by decide)))))] at pm_24
    rw [show g40_7 84 = h 84 from ((hG_7.1 84 (by decide))).trans ((sOf_ne _ _ (by decide)).trans ((sOf_ne _ _ (by decide)).trans ((sOf_ne _ _ (by decide)).trans (hG_1.1 84 (by decide)))))] at pk_24
    rw [show g40_7 85 = h 85 from ((hG_7.1 85 (by decide))).trans ((sOf_ne _ _ (by decide)).trans ((sOf_ne _ _ (by decide)).trans ((sOf_ne _ _ (by decide)).trans (hG_1.1 85 (by decide)))))] at pk_24
    rw [show g40_7 80 = h 80 from ((hG_7.1 80 (by decide))).trans ((sOf_ne _ _ (by decide)).trans ((sOf_ne _ _ (by decide)).trans ((sOf_ne _ _ (by decide)).trans (hG_1.1 80 (by decide)))))] at wk9_24
    rw [show g40_7 81 = h 81 from ((hG_7.1 81 (by decide))).trans ((sOf_ne _ _ (by decide)).trans ((sOf_ne _ _ (by decide)).trans ((sOf_ne _ _ (by decide)).trans (hG_1.1 81 (by decide)))))] at wk9_24
    rw [show g40_7 82 = h 82 from ((hG_7.1 82 (by decide))).trans ((sOf_ne _ _ (by decide)).trans ((sOf_ne _ _ (by decide)).trans ((sOf_ne _ _ (by decide)).trans (hG_1.1 82 (by decide)))))] at wk9_24
    rw [show g40_7 83 = g2_1 83 from ((hG_7.1 83 (by decide))).trans ((sOf_ne _ _ (by decide)).trans ((sOf_ne _ _ (by decide)).trans (sOf_ne _ _ (by decide))))] at wk9_24
    have pk_at50 := pk_24
    have wk9_at50 := wk9_24
    show TT K ly 0 0 53 [(0, vR 73), (1, vI b), (2, vI f)] [] g50_24
    refine TT_aload_n hK rfl 0 rfl dX12_tellBand_53 ?_
    have z2 := PhS_r (g50_24 96)
    have q34 := ty_73_34 (v := g50_24 73 34) hT_24 rfl
    have e25_73_36 : g50_24 73 36 = (g50_24 73) 36 := rfl
    have e26_73_32 : g50_24 73 32 = (g50_24 73) 32 := rfl
    have e27_73_33 : g50_24 73 33 = (g50_24 73) 33 := rfl
    have e28_73_34 : g50_24 73 34 = (g50_24 73) 34 := rfl
    have e29_73_36 : g50_24 73 36 = (g50_24 73) 36 := rfl
    have e30_73_32 : g50_24 73 32 = (g50_24 73) 32 := rfl
    refine iv_X12_302 hK (s_endT_e g50_24 hT_24 (by rewrite [e25_73_36]; first | omega | (simp [up, setR] <;> omega)) (by rewrite [e26_73_32, e27_73_33, e28_73_34, e29_73_36]; exact CQ_mq wk9_at50 rfl) (by rewrite [e30_73_32]; first | omega | (simp [up, setR] <;> omega))) (by decide) rfl ⟨by decide, by decide⟩ (by decide) rfl rfl (Nat.le_of_ble_eq_true rfl) ⟨by decide, by decide⟩ dX12_tellBand_54 ?_
    intro r9 g54_31 hp9
    obtain ⟨⟨hT_31, hG_31⟩, hr9, p1_31, et_31⟩ := hp9
    rw [hr9]
    have hF_31 : FRM [73, 83, 84, 85, 89, 90, 91, 92, 93, 94, 95, 96, 97, 98, 99] [26, 27, 28, 29, 32, 33, 34, 36, 38, 39] h g54_31 := FRM_tr hF_24 hG_31 (by decide) (by decide)
    rw [show g50_24 73 36 = (g50_24 73) 36 from rfl] at p1_31
    rw [show g50_24 73 32 = (g50_24 73) 32 from rfl] at et_31
    rw [show g50_24 73 33 = (g50_24 73) 33 from rfl] at et_31
    rw [show g50_24 73 34 = (g50_24 73) 34 from rfl] at et_31
    rw [show g50_24 73 36 = (g50_24 73) 36 from rfl] at et_31
    have et_at54 := et_31
    show TT K ly 0 0 57 [(0, vR 73), (1, vI b), (2, vI f)] [] g54_31
    refine TT_aload_n hK rfl 0 rfl dX12_tellBand_57 ?_
    refine gf_X12_69 hK (by decide) rfl (q := 91) rfl rfl dX12_tellBand_58 ?_
    refine TT_iload_n hK rfl 1 rfl dX12_tellBand_61 ?_
    refine TT_aload_n hK rfl 0 rfl dX12_tellBand_62 ?_
    refine gf_X12_166 hK (by decide) rfl (v := (g54_31 73) 36) rfl dX12_tellBand_63 ?_
    have r32 := ty_73_36 (v := (g54_31 73) 36) hT_31 rfl
    refine TT_iconst hK dX12_tellBand_66 ?_
    refine TT_isub hK dX12_tellBand_67 ?_
    refine TT_iast hK (o := 91) (n := 10) (by decide) rfl (by omega) (by omega) dX12_tellBand_68 ?_
    refine TT_hp (h' := setO g54_31 91 (fup (h 91) b (((g54_31 73) 36) - 1))) (up_can (((hG_31.1 91 (by decide))).trans (((hG_24.1 91 (by decide))).trans (((hG_7.1 91 (by decide))).trans ((sOf_ne _ _ (by decide)).trans (sOf_eq _ _ _))))) (fup_same _ _ _ _) rfl) ?_
    have hT_33 : TY (setO g54_31 91 (fup (h 91) b (((g54_31 73) 36) - 1))) := tu_91 hT_31 (show up g54_31 91 b (((g54_31 73) 36) - 1) = (setO g54_31 91 (fup (h 91) b (((g54_31 73) 36) - 1))) from up_can (((hG_31.1 91 (by decide))).trans (((hG_24.1 91 (by decide))).trans (((hG_7.1 91 (by decide))).trans ((sOf_ne _ _ (by decide)).trans (sOf_eq _ _ _))))) (fup_same _ _ _ _) rfl) (by omega)
    have hF_33 : FRM [73, 83, 84, 85, 89, 90, 91, 92, 93, 94, 95, 96, 97, 98, 99] [26, 27, 28, 29, 32, 33, 34, 36, 38, 39] h (setO g54_31 91 (fup (h 91) b (((g54_31 73) 36) - 1))) := FRM_up (show up g54_31 91 b (((g54_31 73) 36) - 1) = (setO g54_31 91 (fup (h 91) b (((g54_31 73) 36) - 1))) from up_can (((hG_31.1 91 (by decide))).trans (((hG_24.1 91 (by decide))).trans (((hG_7.1 91 (by decide))).trans ((sOf_ne _ _ (by decide)).trans (sOf_eq _ _ _))))) (fup_same _ _ _ _) rfl) hF_31 (by decide) (by decide)
    refine TT_iconst hK dX12_tellBand_69 ?_
    refine TT_istore_n hK rfl (lv' := [(3, vI 1), (0, vR 73), (1, vI b), (2, vI f)]) (by decide) rfl dX12_tellBand_70 ?_
    have L71_34 : ∀ (k34 : Nat) (k : Int) (w71_34 : Hp_), TY w71_34 → FRM [73, 83, 84, 85, 89, 90, 91, 92, 93, 94, 95, 96, 97, 98, 99] [26, 27, 28, 29, 32, 33, 34, 36, 38, 39] h w71_34 → (1 ≤ k ∧ k ≤ (w71_34 73 36)) → ((w71_34 73 36) ≤ 48 * (h 80 b * h 81 b) + 31) → ((w71_34 91) b + 1 = (w71_34 73 36)) → ((w71_34 90) b = f) → (MIQ (w71_34 90) (w71_34 91)) → (LQ (w71_34 83) (w71_34 91) (w71_34 92) b) → ((w71_34 92) (35 * b) = 0) → (∀ j : Int, j ≠ b → (w71_34 91) j = h 91 j) → (∀ j : Int, j < 640 → (w71_34 84) j = h 84 j ∧ (w71_34 85) j = h 85 j) → (PZQ (h 84) b (64 * b + 64) ((w71_34 83) b)) → (∀ j : Int, j ≠ b → (w71_34 83) j = h 83 j) → ((w71_34 83) b ≠ 0) → ((w71_34 90) = fup (h 90) b f) → (∀ j : Int, j < f → (w71_34 89) j = h 89 j) → (ETQ M s (h 80 b) (h 81 b) (h 82 b) ((w71_34 83) b) (w71_34 98) (w71_34 73 36)) → (∀ j : Int, 1 ≤ j → j < k → (w71_34 89) (f + j - 1) = (w71_34 98) j) → ((3200 : Int) - k).toNat < k34 → TT K ly 0 0 71 [(0, vR 73), (1, vI b), (2, vI f), (3, vI k)] [] w71_34 := by
      intro k34
      induction k34 with
      | zero => intro k w71_34 hT71_34 hF71_34 hk ho hwb hwf hmi hlq hl0 h91f pki hP9 k83f hq0 k90 hWk hE9 hW hk34; exact absurd hk34 (Nat.not_lt_zero _)
      | succ k34 ih34 =>
        intro k w71_34 hT71_34 hF71_34 hk ho hwb hwf hmi hlq hl0 h91f pki hP9 k83f hq0 k90 hWk hE9 hW hk34
        refine TT_iload_n hK rfl 3 rfl dX12_tellBand_71 ?_
        refine TT_aload_n hK rfl 0 rfl dX12_tellBand_72 ?_
        refine gf_X12_166 hK (by decide) rfl (v := (w71_34 73) 36) rfl dX12_tellBand_73 ?_
        have r35 := ty_73_36 (v := (w71_34 73) 36) hT71_34 rfl
        refine TT_icmp_ge hK (tgt := 101) (irm (by omega) (by omega)) (irm (by omega) (by omega)) dX12_tellBand_76 (by decide) (fun hb76_36 => ?_) (fun hb76_36 => ?_)
        · refine TT_aload_n hK rfl 0 rfl dX12_tellBand_101 ?_
          refine TT_iload_n hK rfl 1 rfl dX12_tellBand_102 ?_
          refine iv_X12_305 hK (s_X12_useWord_73 b w71_34 hT71_34 (by first | omega | (simp [up, setR] <;> omega)) (by have := hmi b (by omega) (by omega); omega)) (by decide) rfl ⟨by decide, by decide⟩ (by decide) rfl rfl (Nat.le_of_ble_eq_true rfl) ⟨by decide, by decide⟩ dX12_tellBand_103 ?_
          intro r9 g103_37 hp9
          obtain ⟨⟨hT_37, hG_37⟩, hr9⟩ := hp9
          rw [hr9]
          have hF_37 : FRM [73, 83, 84, 85, 89, 90, 91, 92, 93, 94, 95, 96, 97, 98, 99] [26, 27, 28, 29, 32, 33, 34, 36, 38, 39] h g103_37 := FRM_tr hF71_34 hG_37 (by decide) (by decide)
          show TT K ly 0 0 106 [(0, vR 73), (1, vI b), (2, vI f), (3, vI k)] [] g103_37
          refine TT_iconst hK dX12_tellBand_106 ?_
          refine TT_istore_n hK rfl (lv' := [(3, vI 0), (0, vR 73), (1, vI b), (2, vI f)]) (by decide) rfl dX12_tellBand_107 ?_
          refine TT_iconst hK dX12_tellBand_108 ?_
          refine TT_istore hK (lv' := [(4, vI 1), (3, vI 0), (0, vR 73), (1, vI b), (2, vI f)]) (by decide) rfl dX12_tellBand_109 ?_
          have L111_38 : ∀ (k38 : Nat) (n : Int) (p : Int) (w111_38 : Hp_), TY w111_38 → FRM [73, 83, 84, 85, 89, 90, 91, 92, 93, 94, 95, 96, 97, 98, 99] [26, 27, 28, 29, 32, 33, 34, 36, 38, 39] h w111_38 → (1 ≤ p ∧ p ≤ 40) → (0 ≤ n ∧ n ≤ (w111_38 91) b) → ((w111_38 91) b ≤ 48 * (h 80 b * h 81 b) + 30) → (MIQ (w111_38 90) (w111_38 91)) → (LQ (w111_38 83) (w111_38 91) (w111_38 92) b) → (∀ j : Int, j ≠ b → (w111_38 91) j = h 91 j) → (∀ i j : Int, 0 ≤ i → i ≤ j → j < p → (w111_38 92) (35 * b + i) ≤ (w111_38 92) (35 * b + j) ∧ (w111_38 92) (35 * b + j) ≤ n) → (∀ j : Int, j < 640 → (w111_38 84) j = h 84 j ∧ (w111_38 85) j = h 85 j) → (PZQ (h 84) b (64 * b + 64) ((w111_38 83) b)) → (∀ j : Int, j ≠ b → (w111_38 83) j = h 83 j) → ((w111_38 90) = fup (h 90) b f) → (∀ j : Int, j < f → (w111_38 89) j = h 89 j) → (CWR M s (h 80 b) (h 81 b) (h 82 b) ((w111_38 83) b) (fun i => (w111_38 89) (f + i)) ((w111_38 91) b)) → ((40 : Int) - p).toNat < k38 → TT K ly 0 0 111 [(0, vR 73), (1, vI b), (2, vI f), (3, vI n), (4, vI p)] [] w111_38 := by
            intro k38
            induction k38 with
            | zero => intro n p w111_38 hT111_38 hF111_38 hp hn hws hmi hlq h91f hlb pki hP9 k83f k90 hWk hC9 hk38; exact absurd hk38 (Nat.not_lt_zero _)
            | succ k38 ih38 =>
              intro n p w111_38 hT111_38 hF111_38 hp hn hws hmi hlq h91f hlb pki hP9 k83f k90 hWk hC9 hk38
              refine TT_iload hK 4 rfl dX12_tellBand_111 ?_
              refine TT_aload_n hK rfl 0 rfl dX12_tellBand_113 ?_
              refine TT_iload_n hK rfl 1 rfl dX12_tellBand_114 ?_
              refine iv_X12_296 hK (s_passesOf_x b w111_38 hT111_38 (by first | omega | (simp [up, setR] <;> omega))) (by decide) rfl ⟨by decide, by decide⟩ (by decide) rfl rfl (Nat.le_of_ble_eq_true rfl) ⟨by decide, by decide⟩ dX12_tellBand_115 ?_
              intro r9 g115_39 hp9
              obtain ⟨⟨hT_39, hG_39⟩, z115_39, hr9, hz_39, p1_39, p2_39⟩ := hp9
              rw [hr9]
              have hE_39 : w111_38 = g115_39 := (funext (fun o9 => hG_39.1 o9 (List.not_mem_nil))).symm
              subst hE_39
              show TT K ly 0 0 118 [(0, vR 73), (1, vI b), (2, vI f), (3, vI n), (4, vI p)] [vI z115_39, vI p] w111_38
              refine TT_icmp_gt hK (tgt := 216) (irm (by omega) (by omega)) (irm (by omega) (by omega)) dX12_tellBand_118 (by decide) (fun hb118_40 => ?_) (fun hb118_40 => ?_)
              · refine TT_vret hK hQ ?_ dX12_tellBand_216
                exact ⟨⟨hT111_38, hF111_38⟩, rfl, (by first | omega | (rw [fup_eq]; omega)), (by first | assumption | exact MIQ_up hmi (by omega)), (by first | exact LQ_0 hlq (by assumption) (by assumption) | exact LQ_s hlq (fun i j h1 h2 h3 => by have k9 := hlb i j h1 h2 (by omega); omega)), (by first | exact h91f | (intro j hj; exact fup_ne _ _ hj)), (by first | (first | exact pki | (intro j hj; exact ⟨rfl, rfl⟩)) | (intro j hj; exact ⟨rfl, (pk_at50 j hj).2.trans (pki j hj).2⟩) | (intro j hj; exact ⟨rfl, (pk_at50 j hj).2⟩) | (intro j hj; exact ⟨rfl, (pki j hj).2⟩) | (intro j hj; exact ⟨rfl, rfl⟩)), (by first | exact hC9 | exact CWR_0 (by omega) (fup_eq _ _ _)), (by first | exact hP9 | exact pz9_at2), (by first | exact hWk | (intro j hj; rfl)), (by first | rfl | exact k90), (by first | exact k83f | exact q1_at2)⟩
              · refine TT_aload_n hK rfl 0 rfl dX12_tellBand_121 ?_
                refine TT_iconst hK dX12_tellBand_122 ?_
                refine pf_X12_227 hK (by decide) rfl (by first | decide | omega) dX12_tellBand_123 ?_
                refine TT_hp (h' := setO w111_38 73 (fup (w111_38 73) 28 1)) (up_can rfl rfl rfl) ?_
                have hT_41 : TY (setO w111_38 73 (fup (w111_38 73) 28 1)) := tu_73_28 hT111_38 (show up w111_38 73 28 1 = (setO w111_38 73 (fup (w111_38 73) 28 1)) from up_can rfl rfl rfl) (by omega)
                have hF_41 : FRM [73, 83, 84, 85, 89, 90, 91, 92, 93, 94, 95, 96, 97, 98, 99] [26, 27, 28, 29, 32, 33, 34, 36, 38, 39] h (setO w111_38 73 (fup (w111_38 73) 28 1)) := FRM_f (show up w111_38 73 28 1 = (setO w111_38 73 (fup (w111_38 73) 28 1)) from up_can rfl rfl rfl) hF111_38 (by decide) (by decide)
                refine TT_iload_n hK rfl 3 rfl dX12_tellBand_126 ?_
                refine TT_iconst hK dX12_tellBand_127 ?_
                refine TT_isub hK dX12_tellBand_128 ?_
                refine TT_istore_n hK rfl (lv' := [(3, vI (n - 1)), (0, vR 73), (1, vI b), (2, vI f), (4, vI p)]) (by decide) rfl dX12_tellBand_129 ?_
                have L130_42 : ∀ (k42 : Nat) (n2 : Int) (w130_42 : Hp_), TY w130_42 → FRM [73, 83, 84, 85, 89, 90, 91, 92, 93, 94, 95, 96, 97, 98, 99] [26, 27, 28, 29, 32, 33, 34, 36, 38, 39] h w130_42 → (-1 ≤ n2 ∧ n2 ≤ (w130_42 91) b) → ((w130_42 73 28) = 1 → n2 < (w130_42 91) b) → (n - 1 ≤ n2) → ((w130_42 73 28) = 0 → n ≤ n2) → ((w130_42 91) b ≤ 48 * (h 80 b * h 81 b) + 30) → (MIQ (w130_42 90) (w130_42 91)) → (LQ (w130_42 83) (w130_42 91) (w130_42 92) b) → (∀ j : Int, j ≠ b → (w130_42 91) j = h 91 j) → (∀ i j : Int, 0 ≤ i → i ≤ j → j < p → (w130_42 92) (35 * b + i) ≤ (w130_42 92) (35 * b + j) ∧ (w130_42 92) (35 * b + j) ≤ n) → (∀ j : Int, j < 640 → (w130_42 84) j = h 84 j ∧ (w130_42 85) j = h 85 j) → (PZQ (h 84) b (64 * b + 64) ((w130_42 83) b)) → (∀ j : Int, j ≠ b → (w130_42 83) j = h 83 j) → ((w130_42 90) = fup (h 90) b f) → (∀ j : Int, j < f → (w130_42 89) j = h 89 j) → (CWR M s (h 80 b) (h 81 b) (h 82 b) ((w130_42 83) b) (fun i => (w130_42 89) (f + i)) ((w130_42 91) b)) → ((4401 : Int) - n2).toNat < k42 → TT K ly 0 0 130 [(0, vR 73), (1, vI b), (2, vI f), (3, vI n2), (4, vI p)] [] w130_42 := by
                  intro k42
                  induction k42 with
                  | zero => intro n2 w130_42 hT130_42 hF130_42 hn2 hn3 hn5 hn4 hws hmi hlq h91f hlb pki hP9 k83f k90 hWk hC9 hk42; exact absurd hk42 (Nat.not_lt_zero _)
                  | succ k42 ih42 =>
                    intro n2 w130_42 hT130_42 hF130_42 hn2 hn3 hn5 hn4 hws hmi hlq h91f hlb pki hP9 k83f k90 hWk hC9 hk42
                    refine TT_aload_n hK rfl 0 rfl dX12_tellBand_130 ?_
                    refine gf_X12_227 hK (by decide) rfl (v := (w130_42 73) 28) rfl dX12_tellBand_131 ?_
                    have r43 := ty_73_28 (v := (w130_42 73) 28) hT130_42 rfl
                    refine TT_if_eq hK (tgt := 197) (irm (by omega) (by omega)) dX12_tellBand_134 (by decide) (fun hb134_44 => ?_) (fun hb134_44 => ?_)
                    · refine TT_aload_n hK rfl 0 rfl dX12_tellBand_197 ?_
                      refine gf_X12_72 hK (by decide) rfl (q := 92) rfl rfl dX12_tellBand_198 ?_
                      refine TT_bipush hK (by decide) dX12_tellBand_201 ?_
                      refine TT_iload_n hK rfl 1 rfl dX12_tellBand_203 ?_
                      refine TT_imul hK dX12_tellBand_204 ?_
                      refine TT_iload hK 4 rfl dX12_tellBand_205 ?_
                      refine TT_iadd hK dX12_tellBand_207 ?_
                      refine TT_iload_n hK rfl 3 rfl dX12_tellBand_208 ?_
                      refine TT_iast hK (o := 92) (n := 350) (by decide) rfl (by omega) (by omega) dX12_tellBand_209 ?_
                      refine TT_hp (h' := setO w130_42 92 (fup (w130_42 92) ((35 * b) + p) n2)) (up_can rfl rfl rfl) ?_
                      have hT_45 : TY (setO w130_42 92 (fup (w130_42 92) ((35 * b) + p) n2)) := tu_92 hT130_42 (show up w130_42 92 ((35 * b) + p) n2 = (setO w130_42 92 (fup (w130_42 92) ((35 * b) + p) n2)) from up_can rfl rfl rfl) (by omega)
                      have hF_45 : FRM [73, 83, 84, 85, 89, 90, 91, 92, 93, 94, 95, 96, 97, 98, 99] [26, 27, 28, 29, 32, 33, 34, 36, 38, 39] h (setO w130_42 92 (fup (w130_42 92) ((35 * b) + p) n2)) := FRM_up (show up w130_42 92 ((35 * b) + p) n2 = (setO w130_42 92 (fup (w130_42 92) ((35 * b) + p) n2)) from up_can rfl rfl rfl) hF130_42 (by decide) (by decide)
                      refine TT_iinc hK (v := p + 1) (lv' := [(4, vI (p + 1)), (0, vR 73), (1, vI b), (2, vI f), (3, vI n2)]) 4 rfl rfl (by decide) rfl dX12_tellBand_210 ?_
                      refine TT_goto hK (tgt := 111) dX12_tellBand_213 (by decide) ?_
                      refine TT_sub [1, 2, 3, 4, 0] rfl ?_
                      have e46_91 : (setO w130_42 92 (fup (w130_42 92) ((35 * b) + p) n2)) 91 = w130_42 91 := sOf_ne _ _ (by decide)
                      have e47_91 : (setO w130_42 92 (fup (w130_42 92) ((35 * b) + p) n2)) 91 = w130_42 91 := sOf_ne _ _ (by decide)
                      have e48_90 : (setO w130_42 92 (fup (w130_42 92) ((35 * b) + p) n2)) 90 = w130_42 90 := sOf_ne _ _ (by decide)
                      have e49_91 : (setO w130_42 92 (fup (w130_42 92) ((35 * b) + p) n2)) 91 = w130_42 91 := sOf_ne _ _ (by decide)
                      have e50_83 : (setO w130_42 92 (fup (w130_42 92) ((35 * b) + p) n2)) 83 = w130_42 83 := sOf_ne _ _ (by decide)
                      have e51_91 : (setO w130_42 92 (fup (w130_42 92) ((35 * b) + p) n2)) 91 = w130_42 91 := sOf_ne _ _ (by decide)
                      have e52_92 : (setO w130_42 92 (fup (w130_42 92) ((35 * b) + p) n2)) 92 = fup (w130_42 92) ((35 * b) + p) n2 := sOf_eq _ _ _
                      have e53_91 : (setO w130_42 92 (fup (w130_42 92) ((35 * b) + p) n2)) 91 = w130_42 91 := sOf_ne _ _ (by decide)
                      have e54_92 : (setO w130_42 92 (fup (w130_42 92) ((35 * b) + p) n2)) 92 = fup (w130_42 92) ((35 * b) + p) n2 := sOf_eq _ _ _
                      have e55_84 : (setO w130_42 92 (fup (w130_42 92) ((35 * b) + p) n2)) 84 = w130_42 84 := sOf_ne _ _ (by decide)
                      have e56_85 : (setO w130_42 92 (fup (w130_42 92) ((35 * b) + p) n2)) 85 = w130_42 85 := sOf_ne _ _ (by decide)
                      have e57_83 : (setO w130_42 92 (fup (w130_42 92) ((35 * b) + p) n2)) 83 = w130_42 83 := sOf_ne _ _ (by decide)
                      have e58_83 : (setO w130_42 92 (fup (w130_42 92) ((35 * b) + p) n2)) 83 = w130_42 83 := sOf_ne _ _ (by decide)
                      have e59_90 : (setO w130_42 92 (fup (w130_42 92) ((35 * b) + p) n2)) 90 = w130_42 90 := sOf_ne _ _ (by decide)
                      have e60_89 : (setO w130_42 92 (fup (w130_42 92) ((35 * b) + p) n2)) 89 = w130_42 89 := sOf_ne _ _ (by decide)
                      have e61_83 : (setO w130_42 92 (fup (w130_42 92) ((35 * b) + p) n2)) 83 = w130_42 83 := sOf_ne _ _ (by decide)
                      have e62_89 : (setO w130_42 92 (fup (w130_42 92) ((35 * b) + p) n2)) 89 = w130_42 89 := sOf_ne _ _ (by decide)
                      have e63_91 : (setO w130_42 92 (fup (w130_42 92) ((35 * b) + p) n2)) 91 = w130_42 91 := sOf_ne _ _ (by decide)
                      exact ih38 n2 (p + 1) (setO w130_42 92 (fup (w130_42 92) ((35 * b) + p) n2)) hT_45 hF_45 (by first | omega | (simp [up, setR] <;> omega)) (by rewrite [e46_91]; first | omega | (simp [up, setR] <;> omega)) (by rewrite [e47_91]; first | omega | (simp [up, setR] <;> omega)) (by rewrite [e48_90, e49_91]; first | assumption | exact hmi) (by rewrite [e50_83, e51_91, e52_92]; exact LQ_2 hlq (by omega)) (by rewrite [e53_91]; exact h91f) (by rewrite [e54_92]; intro i j h1 h2 h3; by_cases e2 : j = p; (rw [e2, fup_eq]; by_cases e1 : i = p; (rw [e1, fup_eq]; omega); (rw [fup_ne _ _ (show 35 * b + i ≠ 35 * b + p by omega)]; have k9 := hlb i i h1 (by omega) (by omega); omega)); (rw [fup_ne _ _ (show 35 * b + i ≠ 35 * b + p by omega), fup_ne _ _ (show 35 * b + j ≠ 35 * b + p by omega)]; have k9 := hlb i j h1 h2 (by omega); omega)) (by rewrite [e55_84, e56_85]; first | (exact pki) | (intro j hj; exact ⟨rfl, (pk_at50 j hj).2.trans (pki j hj).2⟩) | (intro j hj; exact ⟨rfl, (pk_at50 j hj).2⟩) | (intro j hj; exact ⟨rfl, (pki j hj).2⟩) | (intro j hj; exact ⟨rfl, rfl⟩)) (by rewrite [e57_83]; exact hP9) (by rewrite [e58_83]; exact k83f) (by rewrite [e59_90]; first | rfl | exact k90) (by rewrite [e60_89]; exact hWk) (by rewrite [e61_83, e62_89, e63_91]; exact hC9) (by first | omega | (simp [up, setR] <;> omega))
                    · refine TT_iinc hK (v := n2 + 1) (lv' := [(3, vI (n2 + 1)), (0, vR 73), (1, vI b), (2, vI f), (4, vI p)]) 3 rfl rfl (by decide) rfl dX12_tellBand_137 ?_
                      refine TT_iload_n hK rfl 0 rfl dX12_tellBand_140 ?_
                      refine TT_if_ge hK (tgt := 148) (irm (by omega) (by omega)) dX12_tellBand_141 (by decide) (fun hb141_64 => ?_) (fun hb141_64 => ?_)
                      · refine TT_iload_n hK rfl 0 rfl dX12_tellBand_148 ?_
                        refine TT_istore_n hK rfl (lv' := [(3, vI (n2 + 1)), (0, vR 73), (1, vI b), (2, vI f), (4, vI p)]) (by decide) rfl dX12_tellBand_149 ?_
                        refine TT_aload_n hK rfl 1 rfl dX12_tellBand_150 ?_
                        refine TT_iload_n hK rfl 0 rfl dX12_tellBand_151 ?_
                        refine TT_iconst hK dX12_tellBand_152 ?_
                        refine iv_X12_308 hK (s_X12_beginReading_73 (n2 + 1) 2 w130_42 hT130_42 (by first | omega | (simp [up, setR] <;> omega)) (by first | omega | (simp [up, setR] <;> omega))) (by decide) rfl ⟨by decide, by decide⟩ (by decide) rfl rfl (Nat.le_of_ble_eq_true rfl) ⟨by decide, by decide⟩ dX12_tellBand_153 ?_
                        intro r9 g153_65 hp9
                        obtain ⟨⟨hT_65, hG_65⟩, hr9, p1_65, p2_65⟩ := hp9
                        rw [hr9]
                        have hF_65 : FRM [73, 83, 84, 85, 89, 90, 91, 92, 93, 94, 95, 96, 97, 98, 99] [26, 27, 28, 29, 32, 33, 34, 36, 38, 39] h g153_65 := FRM_tr hF130_42 hG_65 (by decide) (by decide)
                        show TT K ly 0 0 156 [(3, vI (n2 + 1)), (0, vR 73), (1, vI b), (2, vI f), (4, vI p)] [] g153_65
                        refine TT_aload_n hK rfl 1 rfl dX12_tellBand_156 ?_
                        refine TT_iconst hK dX12_tellBand_157 ?_
                        refine pf_X12_227 hK (by decide) rfl (by first | decide | omega) dX12_tellBand_158 ?_
                        refine TT_hp (h' := setO g153_65 73 (fup (g153_65 73) 28 0)) (up_can rfl rfl rfl) ?_
                        have hT_66 : TY (setO g153_65 73 (fup (g153_65 73) 28 0)) := tu_73_28 hT_65 (show up g153_65 73 28 0 = (setO g153_65 73 (fup (g153_65 73) 28 0)) from up_can rfl rfl rfl) (by omega)
                        have hF_66 : FRM [73, 83, 84, 85, 89, 90, 91, 92, 93, 94, 95, 96, 97, 98, 99] [26, 27, 28, 29, 32, 33, 34, 36, 38, 39] h (setO g153_65 73 (fup (g153_65 73) 28 0)) := FRM_f (show up g153_65 73 28 0 = (setO g153_65 73 (fup (g153_65 73) 28 0)) from up_can rfl rfl rfl) hF_65 (by decide) (by decide)
                        refine TT_aload_n hK rfl 1 rfl dX12_tellBand_161 ?_
                        refine TT_iload_n hK rfl 2 rfl dX12_tellBand_162 ?_
                        refine TT_iload hK 4 rfl dX12_tellBand_163 ?_
                        have e67_74 : (setO g153_65 73 (fup (g153_65 73) 28 0)) 74 = h 74 := (sOf_ne _ _ (by decide)).trans (((hG_65.1 74 (by decide))).trans (hF130_42.1 74 (by decide)))
                        have e68_75 : (setO g153_65 73 (fup (g153_65 73) 28 0)) 75 = h 75 := (sOf_ne _ _ (by decide)).trans (((hG_65.1 75 (by decide))).trans (hF130_42.1 75 (by decide)))
                        have e69_73_32 : (setO g153_65 73 (fup (g153_65 73) 28 0)) 73 32 = (g153_65 73) 32 := rd_ (sOf_eq _ _ _) (fup_ne _ _ (by decide))
                        have e70_73_29 : (setO g153_65 73 (fup (g153_65 73) 28 0)) 73 29 = (g153_65 73) 29 := rd_ (sOf_eq _ _ _) (fup_ne _ _ (by decide))
                        have e71_73_29 : (setO g153_65 73 (fup (g153_65 73) 28 0)) 73 29 = (g153_65 73) 29 := rd_ (sOf_eq _ _ _) (fup_ne _ _ (by decide))
                        have e72_73_34 : (setO g153_65 73 (fup (g153_65 73) 28 0)) 73 34 = (g153_65 73) 34 := rd_ (sOf_eq _ _ _) (fup_ne _ _ (by decide))
                        have e73_73_36 : (setO g153_65 73 (fup (g153_65 73) 28 0)) 73 36 = (w130_42 73) 36 := (rd_ (sOf_eq _ _ _) (fup_ne _ _ (by decide))).trans (hG_65.2 36 (by decide))
                        have e74_80 : (setO g153_65 73 (fup (g153_65 73) 28 0)) 80 = h 80 := (sOf_ne _ _ (by decide)).trans (((hG_65.1 80 (by decide))).trans (hF130_42.1 80 (by decide)))
                        have e75_81 : (setO g153_65 73 (fup (g153_65 73) 28 0)) 81 = h 81 := (sOf_ne _ _ (by decide)).trans (((hG_65.1 81 (by decide))).trans (hF130_42.1 81 (by decide)))
                        have e76_96 : (setO g153_65 73 (fup (g153_65 73) 28 0)) 96 = g153_65 96 := sOf_ne _ _ (by decide)
                        refine iv_X12_299 hK (s_walk_k b p (setO g153_65 73 (fup (g153_65 73) 28 0)) hT_66 (by first | omega | (simp [up, setR] <;> omega)) (by first | omega | (simp [up, setR] <;> omega)) (by rewrite [e67_74, e68_75]; first | assumption | exact htb) (by rewrite [e69_73_32]; first | omega | (simp [up, setR] <;> omega)) (by rewrite [e70_73_29]; first | omega | (simp [up, setR] <;> omega)) (by rewrite [e71_73_29, e72_73_34, e73_73_36, e74_80, e75_81, e76_96]; first | omega | (simp [up, setR] <;> omega))) (by decide) rfl ⟨by decide, by decide⟩ (by decide) rfl rfl (Nat.le_of_ble_eq_true rfl) ⟨by decide, by decide⟩ dX12_tellBand_165 ?_
                        intro r9 g165_77 hp9
                        obtain ⟨⟨hT_77, hG_77⟩, hr9, pa_77, pm_77, pk_77⟩ := hp9
                        rw [hr9]
                        have hF_77 : FRM [73, 83, 84, 85, 89, 90, 91, 92, 93, 94, 95, 96, 97, 98, 99] [26, 27, 28, 29, 32, 33, 34, 36, 38, 39] h g165_77 := FRM_tr hF_66 hG_77 (by decide) (by decide)
                        rw [show (setO g153_65 73 (fup (g153_65 73) 28 0)) 73 29 = (g153_65 73) 29 from rd_ (sOf_eq _ _ _) (fup_ne _ _ (by decide))] at pm_77
                        rw [show (setO g153_65 73 (fup (g153_65 73) 28 0)) 73 34 = (g153_65 73) 34 from rd_ (sOf_eq _ _ _) (fup_ne _ _ (by decide))] at pm_77
                        rw [show (setO g153_65 73 (fup (g153_65 73) 28 0)) 73 36 = (w130_42 73) 36 from (rd_ (sOf_eq _ _ _) (fup_ne _ _ (by decide))).trans (hG_65.2 36 (by decide))] at pm_77
                        rw [show (setO g153_65 73 (fup (g153_65 73) 28 0)) 80 = h 80 from (sOf_ne _ _ (by decide)).trans (((hG_65.1 80 (by decide))).trans (hF130_42.1 80 (by decide)))] at pm_77
                        rw [show (setO g153_65 73 (fup (g153_65 73) 28 0)) 81 = h 81 from (sOf_ne _ _ (by decide)).trans (((hG_65.1 81 (by decide))).trans (hF130_42.1 81 (by decide)))] at pm_77
                        rw [show (setO g153_65 73 (fup (g153_65 73) 28 0)) 96 = g153_65 96 from sOf_ne _ _ (by decide)] at pm_77
                        rw [show (setO g153_65 73 (fup (g153_65 73) 28 0)) 84 = w130_42 84 from (sOf_ne _ _ (by decide)).trans (hG_65.1 84 (by decide))] at pk_77
                        rw [show (setO g153_65 73 (fup (g153_65 73) 28 0)) 85 = w130_42 85 from (sOf_ne _ _ (by decide)).trans (hG_65.1 85 (by decide))] at pk_77
                        have pk_at165 := pk_77
                        show TT K ly 0 0 168 [(3, vI (n2 + 1)), (0, vR 73), (1, vI b), (2, vI f), (4, vI p)] [] g165_77
                        refine TT_aload_n hK rfl 1 rfl dX12_tellBand_168 ?_
                        refine TT_aload_n hK rfl 1 rfl dX12_tellBand_169 ?_
                        refine gf_X12_227 hK (by decide) rfl (v := (g165_77 73) 28) rfl dX12_tellBand_170 ?_
                        have r78 := ty_73_28 (v := (g165_77 73) 28) hT_77 rfl
                        refine TT_if_eq hK (tgt := 190) (irm (by omega) (by omega)) dX12_tellBand_173 (by decide) (fun hb173_79 => ?_) (fun hb173_79 => ?_)
                        · refine TT_iconst hK dX12_tellBand_190 ?_
                          refine pf_X12_227 hK (by decide) rfl (by first | decide | omega) dX12_tellBand_191 ?_
                          refine TT_hp (h' := setO g165_77 73 (fup (g165_77 73) 28 0)) (up_can rfl rfl rfl) ?_
                          have hT_80 : TY (setO g165_77 73 (fup (g165_77 73) 28 0)) := tu_73_28 hT_77 (show up g165_77 73 28 0 = (setO g165_77 73 (fup (g165_77 73) 28 0)) from up_can rfl rfl rfl) (by omega)
                          have hF_80 : FRM [73, 83, 84, 85, 89, 90, 91, 92, 93, 94, 95, 96, 97, 98, 99] [26, 27, 28, 29, 32, 33, 34, 36, 38, 39] h (setO g165_77 73 (fup (g165_77 73) 28 0)) := FRM_f (show up g165_77 73 28 0 = (setO g165_77 73 (fup (g165_77 73) 28 0)) from up_can rfl rfl rfl) hF_77 (by decide) (by decide)
                          refine TT_goto hK (tgt := 130) dX12_tellBand_194 (by decide) ?_
                          refine TT_sub [1, 2, 3, 0, 4] rfl ?_
                          have e81_91 : (setO g165_77 73 (fup (g165_77 73) 28 0)) 91 = w130_42 91 := (sOf_ne _ _ (by decide)).trans (((hG_77.1 91 (by decide))).trans ((sOf_ne _ _ (by decide)).trans (hG_65.1 91 (by decide))))
                          have e82_73_28 : (setO g165_77 73 (fup (g165_77 73) 28 0)) 73 28 = 0 := rd_ (sOf_eq _ _ _) (fup_eq _ _ _)
                          have e83_91 : (setO g165_77 73 (fup (g165_77 73) 28 0)) 91 = w130_42 91 := (sOf_ne _ _ (by decide)).trans (((hG_77.1 91 (by decide))).trans ((sOf_ne _ _ (by decide)).trans (hG_65.1 91 (by decide))))
                          have e84_73_28 : (setO g165_77 73 (fup (g165_77 73) 28 0)) 73 28 = 0 := rd_ (sOf_eq _ _ _) (fup_eq _ _ _)
                          have e85_91 : (setO g165_77 73 (fup (g165_77 73) 28 0)) 91 = w130_42 91 := (sOf_ne _ _ (by decide)).trans (((hG_77.1 91 (by decide))).trans ((sOf_ne _ _ (by decide)).trans (hG_65.1 91 (by decide))))
                          have e86_90 : (setO g165_77 73 (fup (g165_77 73) 28 0)) 90 = w130_42 90 := (sOf_ne _ _ (by decide)).trans (((hG_77.1 90 (by decide))).trans ((sOf_ne _ _ (by decide)).trans (hG_65.1 90 (by decide))))
                          have e87_91 : (setO g165_77 73 (fup (g165_77 73) 28 0)) 91 = w130_42 91 := (sOf_ne _ _ (by decide)).trans (((hG_77.1 91 (by decide))).trans ((sOf_ne _ _ (by decide)).trans (hG_65.1 91 (by decide))))
                          have e88_83 : (setO g165_77 73 (fup (g165_77 73) 28 0)) 83 = w130_42 83 := (sOf_ne _ _ (by decide)).trans (((hG_77.1 83 (by decide))).trans ((sOf_ne _ _ (by decide)).trans (hG_65.1 83 (by decide))))
                          have e89_91 : (setO g165_77 73 (fup (g165_77 73) 28 0)) 91 = w130_42 91 := (sOf_ne _ _ (by decide)).trans (((hG_77.1 91 (by decide))).trans ((sOf_ne _ _ (by decide)).trans (hG_65.1 91 (by decide))))
                          have e90_92 : (setO g165_77 73 (fup (g165_77 73) 28 0)) 92 = w130_42 92 := (sOf_ne _ _ (by decide)).trans (((hG_77.1 92 (by decide))).trans ((sOf_ne _ _ (by decide)).trans (hG_65.1 92 (by decide))))
                          have e91_91 : (setO g165_77 73 (fup (g165_77 73) 28 0)) 91 = w130_42 91 := (sOf_ne _ _ (by decide)).trans (((hG_77.1 91 (by decide))).trans ((sOf_ne _ _ (by decide)).trans (hG_65.1 91 (by decide))))
                          have e92_92 : (setO g165_77 73 (fup (g165_77 73) 28 0)) 92 = w130_42 92 := (sOf_ne _ _ (by decide)).trans (((hG_77.1 92 (by decide))).trans ((sOf_ne _ _ (by decide)).trans (hG_65.1 92 (by decide))))
                          have e93_84 : (setO g165_77 73 (fup (g165_77 73) 28 0)) 84 = g165_77 84 := sOf_ne _ _ (by decide)
                          have e94_85 : (setO g165_77 73 (fup (g165_77 73) 28 0)) 85 = g165_77 85 := sOf_ne _ _ (by decide)
                          have e95_83 : (setO g165_77 73 (fup (g165_77 73) 28 0)) 83 = w130_42 83 := (sOf_ne _ _ (by decide)).trans (((hG_77.1 83 (by decide))).trans ((sOf_ne _ _ (by decide)).trans (hG_65.1 83 (by decide))))
                          have e96_83 : (setO g165_77 73 (fup (g165_77 73) 28 0)) 83 = w130_42 83 := (sOf_ne _ _ (by decide)).trans (((hG_77.1 83 (by decide))).trans ((sOf_ne _ _ (by decide)).trans (hG_65.1 83 (by decide))))
                          have e97_90 : (setO g165_77 73 (fup (g165_77 73) 28 0)) 90 = w130_42 90 := (sOf_ne _ _ (by decide)).trans (((hG_77.1 90 (by decide))).trans ((sOf_ne _ _ (by decide)).trans (hG_65.1 90 (by decide))))
                          have e98_89 : (setO g165_77 73 (fup (g165_77 73) 28 0)) 89 = w130_42 89 := (sOf_ne _ _ (by decide)).trans (((hG_77.1 89 (by decide))).trans ((sOf_ne _ _ (by decide)).trans (hG_65.1 89 (by decide))))
                          have e99_83 : (setO g165_77 73 (fup (g165_77 73) 28 0)) 83 = w130_42 83 := (sOf_ne _ _ (by decide)).trans (((hG_77.1 83 (by decide))).trans ((sOf_ne _ _ (by decide)).trans (hG_65.1 83 (by decide))))
                          have e100_89 : (setO g165_77 73 (fup (g165_77 73) 28 0)) 89 = w130_42 89 := (sOf_ne _ _ (by decide)).trans (((hG_77.1 89 (by decide))).trans ((sOf_ne _ _ (by decide)).trans (hG_65.1 89 (by decide))))
                          have e101_91 : (setO g165_77 73 (fup (g165_77 73) 28 0)) 91 = w130_42 91 := (sOf_ne _ _ (by decide)).trans (((hG_77.1 91 (by decide))).trans ((sOf_ne _ _ (by decide)).trans (hG_65.1 91 (by decide))))
                          exact ih42 (n2 + 1) (setO g165_77 73 (fup (g165_77 73) 28 0)) hT_80 hF_80 (by rewrite [e81_91]; first | omega | (simp [up, setR] <;> omega)) (by rewrite [e82_73_28, e83_91]; first | omega | (simp [up, setR] <;> omega)) (by first | omega | (simp [up, setR] <;> omega)) (by rewrite [e84_73_28]; first | omega | (simp [up, setR] <;> omega)) (by rewrite [e85_91]; first | omega | (simp [up, setR] <;> omega)) (by rewrite [e86_90, e87_91]; first | assumption | exact hmi) (by rewrite [e88_83, e89_91, e90_92]; first | assumption | exact hlq) (by rewrite [e91_91]; exact h91f) (by rewrite [e92_92]; exact hlb) (by rewrite [e93_84, e94_85]; first | ((intro j hj; have k1 := pk_at165 j hj; have k2 := pki j hj; exact ⟨k1.1.trans k2.1, k1.2.trans k2.2⟩)) | (intro j hj; exact ⟨rfl, (pk_at50 j hj).2.trans (pki j hj).2⟩) | (intro j hj; exact ⟨rfl, (pk_at165 j hj).2.trans (pki j hj).2⟩) | (intro j hj; exact ⟨rfl, (pk_at50 j hj).2⟩) | (intro j hj; exact ⟨rfl, (pk_at165 j hj).2⟩) | (intro j hj; exact ⟨rfl, (pki j hj).2⟩) | (intro j hj; exact ⟨rfl, rfl⟩)) (by rewrite [e95_83]; exact hP9) (by rewrite [e96_83]; exact k83f) (by rewrite [e97_90]; first | rfl | exact k90) (by rewrite [e98_89]; exact hWk) (by rewrite [e99_83, e100_89, e101_91]; exact hC9) (by first | omega | (simp [up, setR] <;> omega))
                        · refine TT_iload_n hK rfl 0 rfl dX12_tellBand_176 ?_
                          refine TT_aload_n hK rfl 1 rfl dX12_tellBand_177 ?_
                          refine gf_X12_69 hK (by decide) rfl (q := 91) rfl rfl dX12_tellBand_178 ?_
                          refine TT_iload_n hK rfl 2 rfl dX12_tellBand_181 ?_
                          refine TT_iald hK (o := 91) (n := 10) (by decide) rfl (by first | omega | (simp [up, setR] <;> omega)) (by first | omega | (simp [up, setR] <;> omega)) (v := (w130_42 91) b) (rd_ (((hG_77.1 91 (by decide))).trans ((sOf_ne _ _ (by decide)).trans (hG_65.1 91 (by decide)))) rfl) dX12_tellBand_182 ?_
                          have r102 := ty_91 (i := b) (v := (w130_42 91) b) hT_77 (rd_ (((hG_77.1 91 (by decide))).trans ((sOf_ne _ _ (by decide)).trans (hG_65.1 91 (by decide)))) rfl) (by omega) (by omega)
                          refine TT_icmp_ge hK (tgt := 190) (irm (by omega) (by omega)) (irm (by omega) (by omega)) dX12_tellBand_183 (by decide) (fun hb183_103 => ?_) (fun hb183_103 => ?_)
                          · refine TT_iconst hK dX12_tellBand_190 ?_
                            refine pf_X12_227 hK (by decide) rfl (by first | decide | omega) dX12_tellBand_191 ?_
                            refine TT_hp (h' := setO g165_77 73 (fup (g165_77 73) 28 0)) (up_can rfl rfl rfl) ?_
                            have hT_104 : TY (setO g165_77 73 (fup (g165_77 73) 28 0)) := tu_73_28 hT_77 (show up g165_77 73 28 0 = (setO g165_77 73 (fup (g165_77 73) 28 0)) from up_can rfl rfl rfl) (by omega)
                            have hF_104 : FRM [73, 83, 84, 85, 89, 90, 91, 92, 93, 94, 95, 96, 97, 98, 99] [26, 27, 28, 29, 32, 33, 34, 36, 38, 39] h (setO g165_77 73 (fup (g165_77 73) 28 0)) := FRM_f (show up g165_77 73 28 0 = (setO g165_77 73 (fup (g165_77 73) 28 0)) from up_can rfl rfl rfl) hF_77 (by decide) (by decide)
                            refine TT_goto hK (tgt := 130) dX12_tellBand_194 (by decide) ?_
                            refine TT_sub [1, 2, 3, 0, 4] rfl ?_
                            have e105_91 : (setO g165_77 73 (fup (g165_77 73) 28 0)) 91 = w130_42 91 := (sOf_ne _ _ (by decide)).trans (((hG_77.1 91 (by decide))).trans ((sOf_ne _ _ (by decide)).trans (hG_65.1 91 (by decide))))
                            have e106_73_28 : (setO g165_77 73 (fup (g165_77 73) 28 0)) 73 28 = 0 := rd_ (sOf_eq _ _ _) (fup_eq _ _ _)
                            have e107_91 : (setO g165_77 73 (fup (g165_77 73) 28 0)) 91 = w130_42 91 := (sOf_ne _ _ (by decide)).trans (((hG_77.1 91 (by decide))).trans ((sOf_ne _ _ (by decide)).trans (hG_65.1 91 (by decide))))
                            have e108_73_28 : (setO g165_77 73 (fup (g165_77 73) 28 0)) 73 28 = 0 := rd_ (sOf_eq _ _ _) (fup_eq _ _ _)
                            have e109_91 : (setO g165_77 73 (fup (g165_77 73) 28 0)) 91 = w130_42 91 := (sOf_ne _ _ (by decide)).trans (((hG_77.1 91 (by decide))).trans ((sOf_ne _ _ (by decide)).trans (hG_65.1 91 (by decide))))
                            have e110_90 : (setO g165_77 73 (fup (g165_77 73) 28 0)) 90 = w130_42 90 := (sOf_ne _ _ (by decide)).trans (((hG_77.1 90 (by decide))).trans ((sOf_ne _ _ (by decide)).trans (hG_65.1 90 (by decide))))
                            have e111_91 : (setO g165_77 73 (fup (g165_77 73) 28 0)) 91 = w130_42 91 := (sOf_ne _ _ (by decide)).trans (((hG_77.1 91 (by decide))).trans ((sOf_ne _ _ (by decide)).trans (hG_65.1 91 (by decide))))
                            have e112_83 : (setO g165_77 73 (fup (g165_77 73) 28 0)) 83 = w130_42 83 := (sOf_ne _ _ (by decide)).trans (((hG_77.1 83 (by decide))).trans ((sOf_ne _ _ (by decide)).trans (hG_65.1 83 (by decide))))
                            have e113_91 : (setO g165_77 73 (fup (g165_77 73) 28 0)) 91 = w130_42 91 := (sOf_ne _ _ (by decide)).trans (((hG_77.1 91 (by decide))).trans ((sOf_ne _ _ (by decide)).trans (hG_65.1 91 (by decide))))
                            have e114_92 : (setO g165_77 73 (fup (g165_77 73) 28 0)) 92 = w130_42 92 := (sOf_ne _ _ (by decide)).trans (((hG_77.1 92 (by decide))).trans ((sOf_ne _ _ (by decide)).trans (hG_65.1 92 (by decide))))
                            have e115_91 : (setO g165_77 73 (fup (g165_77 73) 28 0)) 91 = w130_42 91 := (sOf_ne _ _ (by decide)).trans (((hG_77.1 91 (by decide))).trans ((sOf_ne _ _ (by decide)).trans (hG_65.1 91 (by decide))))
                            have e116_92 : (setO g165_77 73 (fup (g165_77 73) 28 0)) 92 = w130_42 92 := (sOf_ne _ _ (by decide)).trans (((hG_77.1 92 (by decide))).trans ((sOf_ne _ _ (by decide)).trans (hG_65.1 92 (by decide))))
                            have e117_84 : (setO g165_77 73 (fup (g165_77 73) 28 0)) 84 = g165_77 84 := sOf_ne _ _ (by decide)
                            have e118_85 : (setO g165_77 73 (fup (g165_77 73) 28 0)) 85 = g165_77 85 := sOf_ne _ _ (by decide)
                            have e119_83 : (setO g165_77 73 (fup (g165_77 73) 28 0)) 83 = w130_42 83 := (sOf_ne _ _ (by decide)).trans (((hG_77.1 83 (by decide))).trans ((sOf_ne _ _ (by decide)).trans (hG_65.1 83 (by decide))))
                            have e120_83 : (setO g165_77 73 (fup (g165_77 73) 28 0)) 83 = w130_42 83 := (sOf_ne _ _ (by decide)).trans (((hG_77.1 83 (by decide))).trans ((sOf_ne _ _ (by decide)).trans (hG_65.1 83 (by decide))))
                            have e121_90 : (setO g165_77 73 (fup (g165_77 73) 28 0)) 90 = w130_42 90 := (sOf_ne _ _ (by decide)).trans (((hG_77.1 90 (by decide))).trans ((sOf_ne _ _ (by decide)).trans (hG_65.1 90 (by decide))))
                            have e122_89 : (setO g165_77 73 (fup (g165_77 73) 28 0)) 89 = w130_42 89 := (sOf_ne _ _ (by decide)).trans (((hG_77.1 89 (by decide))).trans ((sOf_ne _ _ (by decide)).trans (hG_65.1 89 (by decide))))
                            have e123_83 : (setO g165_77 73 (fup (g165_77 73) 28 0)) 83 = w130_42 83 := (sOf_ne _ _ (by decide)).trans (((hG_77.1 83 (by decide))).trans ((sOf_ne _ _ (by decide)).trans (hG_65.1 83 (by decide))))
                            have e124_89 : (setO g165_77 73 (fup (g165_77 73) 28 0)) 89 = w130_42 89 := (sOf_ne _ _ (by decide)).trans (((hG_77.1 89 (by decide))).trans ((sOf_ne _ _ (by decide)).trans (hG_65.1 89 (by decide))))
                            have e125_91 : (setO g165_77 73 (fup (g165_77 73) 28 0)) 91 = w130_42 91 := (sOf_ne _ _ (by decide)).trans (((hG_77.1 91 (by decide))).trans ((sOf_ne _ _ (by decide)).trans (hG_65.1 91 (by decide))))
                            exact ih42 (n2 + 1) (setO g165_77 73 (fup (g165_77 73) 28 0)) hT_104 hF_104 (by rewrite [e105_91]; first | omega | (simp [up, setR] <;> omega)) (by rewrite [e106_73_28, e107_91]; first | omega | (simp [up, setR] <;> omega)) (by first | omega | (simp [up, setR] <;> omega)) (by rewrite [e108_73_28]; first | omega | (simp [up, setR] <;> omega)) (by rewrite [e109_91]; first | omega | (simp [up, setR] <;> omega)) (by rewrite [e110_90, e111_91]; first | assumption | exact hmi) (by rewrite [e112_83, e113_91, e114_92]; first | assumption | exact hlq) (by rewrite [e115_91]; exact h91f) (by rewrite [e116_92]; exact hlb) (by rewrite [e117_84, e118_85]; first | ((intro j hj; have k1 := pk_at165 j hj; have k2 := pki j hj; exact ⟨k1.1.trans k2.1, k1.2.trans k2.2⟩)) | (intro j hj; exact ⟨rfl, (pk_at50 j hj).2.trans (pki j hj).2⟩) | (intro j hj; exact ⟨rfl, (pk_at165 j hj).2.trans (pki j hj).2⟩) | (intro j hj; exact ⟨rfl, (pk_at50 j hj).2⟩) | (intro j hj; exact ⟨rfl, (pk_at165 j hj).2⟩) | (intro j hj; exact ⟨rfl, (pki j hj).2⟩) | (intro j hj; exact ⟨rfl, rfl⟩)) (by rewrite [e119_83]; exact hP9) (by rewrite [e120_83]; exact k83f) (by rewrite [e121_90]; first | rfl | exact k90) (by rewrite [e122_89]; exact hWk) (by rewrite [e123_83, e124_89, e125_91]; exact hC9) (by first | omega | (simp [up, setR] <;> omega))
                          · refine TT_iconst hK dX12_tellBand_186 ?_
                            refine TT_goto hK (tgt := 191) dX12_tellBand_187 (by decide) ?_
                            refine pf_X12_227 hK (by decide) rfl (by first | decide | omega) dX12_tellBand_191 ?_
                            refine TT_hp (h' := setO g165_77 73 (fup (g165_77 73) 28 1)) (up_can rfl rfl rfl) ?_
                            have hT_126 : TY (setO g165_77 73 (fup (g165_77 73) 28 1)) := tu_73_28 hT_77 (show up g165_77 73 28 1 = (setO g165_77 73 (fup (g165_77 73) 28 1)) from up_can rfl rfl rfl) (by omega)
                            have hF_126 : FRM [73, 83, 84, 85, 89, 90, 91, 92, 93, 94, 95, 96, 97, 98, 99] [26, 27, 28, 29, 32, 33, 34, 36, 38, 39] h (setO g165_77 73 (fup (g165_77 73) 28 1)) := FRM_f (show up g165_77 73 28 1 = (setO g165_77 73 (fup (g165_77 73) 28 1)) from up_can rfl rfl rfl) hF_77 (by decide) (by decide)
                            refine TT_goto hK (tgt := 130) dX12_tellBand_194 (by decide) ?_
                            refine TT_sub [1, 2, 3, 0, 4] rfl ?_
                            have e127_91 : (setO g165_77 73 (fup (g165_77 73) 28 1)) 91 = w130_42 91 := (sOf_ne _ _ (by decide)).trans (((hG_77.1 91 (by decide))).trans ((sOf_ne _ _ (by decide)).trans (hG_65.1 91 (by decide))))
                            have e128_73_28 : (setO g165_77 73 (fup (g165_77 73) 28 1)) 73 28 = 1 := rd_ (sOf_eq _ _ _) (fup_eq _ _ _)
                            have e129_91 : (setO g165_77 73 (fup (g165_77 73) 28 1)) 91 = w130_42 91 := (sOf_ne _ _ (by decide)).trans (((hG_77.1 91 (by decide))).trans ((sOf_ne _ _ (by decide)).trans (hG_65.1 91 (by decide))))
                            have e130_73_28 : (setO g165_77 73 (fup (g165_77 73) 28 1)) 73 28 = 1 := rd_ (sOf_eq _ _ _) (fup_eq _ _ _)
                            have e131_91 : (setO g165_77 73 (fup (g165_77 73) 28 1)) 91 = w130_42 91 := (sOf_ne _ _ (by decide)).trans (((hG_77.1 91 (by decide))).trans ((sOf_ne _ _ (by decide)).trans (hG_65.1 91 (by decide))))
                            have e132_90 : (setO g165_77 73 (fup (g165_77 73) 28 1)) 90 = w130_42 90 := (sOf_ne _ _ (by decide)).trans (((hG_77.1 90 (by decide))).trans ((sOf_ne _ _ (by decide)).trans (hG_65.1 90 (by decide))))
                            have e133_91 : (setO g165_77 73 (fup (g165_77 73) 28 1)) 91 = w130_42 91 := (sOf_ne _ _ (by decide)).trans (((hG_77.1 91 (by decide))).trans ((sOf_ne _ _ (by decide)).trans (hG_65.1 91 (by decide))))
                            have e134_83 : (setO g165_77 73 (fup (g165_77 73) 28 1)) 83 = w130_42 83 := (sOf_ne _ _ (by decide)).trans (((hG_77.1 83 (by decide))).trans ((sOf_ne _ _ (by decide)).trans (hG_65.1 83 (by decide))))
                            have e135_91 : (setO g165_77 73 (fup (g165_77 73) 28 1)) 91 = w130_42 91 := (sOf_ne _ _ (by decide)).trans (((hG_77.1 91 (by decide))).trans ((sOf_ne _ _ (by decide)).trans (hG_65.1 91 (by decide))))
                            have e136_92 : (setO g165_77 73 (fup (g165_77 73) 28 1)) 92 = w130_42 92 := (sOf_ne _ _ (by decide)).trans (((hG_77.1 92 (by decide))).trans ((sOf_ne _ _ (by decide)).trans (hG_65.1 92 (by decide))))
                            have e137_91 : (setO g165_77 73 (fup (g165_77 73) 28 1)) 91 = w130_42 91 := (sOf_ne _ _ (by decide)).trans (((hG_77.1 91 (by decide))).trans ((sOf_ne _ _ (by decide)).trans (hG_65.1 91 (by decide))))
                            have e138_92 : (setO g165_77 73 (fup (g165_77 73) 28 1)) 92 = w130_42 92 := (sOf_ne _ _ (by decide)).trans (((hG_77.1 92 (by decide))).trans ((sOf_ne _ _ (by decide)).trans (hG_65.1 92 (by decide))))
                            have e139_84 : (setO g165_77 73 (fup (g165_77 73) 28 1)) 84 = g165_77 84 := sOf_ne _ _ (by decide)
                            have e140_85 : (setO g165_77 73 (fup (g165_77 73) 28 1)) 85 = g165_77 85 := sOf_ne _ _ (by decide)
                            have e141_83 : (setO g165_77 73 (fup (g165_77 73) 28 1)) 83 = w130_42 83 := (sOf_ne _ _ (by decide)).trans (((hG_77.1 83 (by decide))).trans ((sOf_ne _ _ (by decide)).trans (hG_65.1 83 (by decide))))
                            have e142_83 : (setO g165_77 73 (fup (g165_77 73) 28 1)) 83 = w130_42 83 := (sOf_ne _ _ (by decide)).trans (((hG_77.1 83 (by decide))).trans ((sOf_ne _ _ (by decide)).trans (hG_65.1 83 (by decide))))
                            have e143_90 : (setO g165_77 73 (fup (g165_77 73) 28 1)) 90 = w130_42 90 := (sOf_ne _ _ (by decide)).trans (((hG_77.1 90 (by decide))).trans ((sOf_ne _ _ (by decide)).trans (hG_65.1 90 (by decide))))
                            have e144_89 : (setO g165_77 73 (fup (g165_77 73) 28 1)) 89 = w130_42 89 := (sOf_ne _ _ (by decide)).trans (((hG_77.1 89 (by decide))).trans ((sOf_ne _ _ (by decide)).trans (hG_65.1 89 (by decide))))
                            have e145_83 : (setO g165_77 73 (fup (g165_77 73) 28 1)) 83 = w130_42 83 := (sOf_ne _ _ (by decide)).trans (((hG_77.1 83 (by decide))).trans ((sOf_ne _ _ (by decide)).trans (hG_65.1 83 (by decide))))
                            have e146_89 : (setO g165_77 73 (fup (g165_77 73) 28 1)) 89 = w130_42 89 := (sOf_ne _ _ (by decide)).trans (((hG_77.1 89 (by decide))).trans ((sOf_ne _ _ (by decide)).trans (hG_65.1 89 (by decide))))
                            have e147_91 : (setO g165_77 73 (fup (g165_77 73) 28 1)) 91 = w130_42 91 := (sOf_ne _ _ (by decide)).trans (((hG_77.1 91 (by decide))).trans ((sOf_ne _ _ (by decide)).trans (hG_65.1 91 (by decide))))
                            exact ih42 (n2 + 1) (setO g165_77 73 (fup (g165_77 73) 28 1)) hT_126 hF_126 (by rewrite [e127_91]; first | omega | (simp [up, setR] <;> omega)) (by rewrite [e128_73_28, e129_91]; first | omega | (simp [up, setR] <;> omega)) (by first | omega | (simp [up, setR] <;> omega)) (by rewrite [e130_73_28]; first | omega | (simp [up, setR] <;> omega)) (by rewrite [e131_91]; first | omega | (simp [up, setR] <;> omega)) (by rewrite [e132_90, e133_91]; first | assumption | exact hmi) (by rewrite [e134_83, e135_91, e136_92]; first | assumption | exact hlq) (by rewrite [e137_91]; exact h91f) (by rewrite [e138_92]; exact hlb) (by rewrite [e139_84, e140_85]; first | ((intro j hj; have k1 := pk_at165 j hj; have k2 := pki j hj; exact ⟨k1.1.trans k2.1, k1.2.trans k2.2⟩)) | (intro j hj; exact ⟨rfl, (pk_at50 j hj).2.trans (pki j hj).2⟩) | (intro j hj; exact ⟨rfl, (pk_at165 j hj).2.trans (pki j hj).2⟩) | (intro j hj; exact ⟨rfl, (pk_at50 j hj).2⟩) | (intro j hj; exact ⟨rfl, (pk_at165 j hj).2⟩) | (intro j hj; exact ⟨rfl, (pki j hj).2⟩) | (intro j hj; exact ⟨rfl, rfl⟩)) (by rewrite [e141_83]; exact hP9) (by rewrite [e142_83]; exact k83f) (by rewrite [e143_90]; first | rfl | exact k90) (by rewrite [e144_89]; exact hWk) (by rewrite [e145_83, e146_89, e147_91]; exact hC9) (by first | omega | (simp [up, setR] <;> omega))
                      · exfalso; omega
                refine TT_sub [1, 2, 3, 0, 4] rfl ?_
                have e148_91 : (setO w111_38 73 (fup (w111_38 73) 28 1)) 91 = w111_38 91 := sOf_ne _ _ (by decide)
                have e149_73_28 : (setO w111_38 73 (fup (w111_38 73) 28 1)) 73 28 = 1 := rd_ (sOf_eq _ _ _) (fup_eq _ _ _)
                have e150_91 : (setO w111_38 73 (fup (w111_38 73) 28 1)) 91 = w111_38 91 := sOf_ne _ _ (by decide)
                have e151_73_28 : (setO w111_38 73 (fup (w111_38 73) 28 1)) 73 28 = 1 := rd_ (sOf_eq _ _ _) (fup_eq _ _ _)
                have e152_91 : (setO w111_38 73 (fup (w111_38 73) 28 1)) 91 = w111_38 91 := sOf_ne _ _ (by decide)
                have e153_90 : (setO w111_38 73 (fup (w111_38 73) 28 1)) 90 = w111_38 90 := sOf_ne _ _ (by decide)
                have e154_91 : (setO w111_38 73 (fup (w111_38 73) 28 1)) 91 = w111_38 91 := sOf_ne _ _ (by decide)
                have e155_83 : (setO w111_38 73 (fup (w111_38 73) 28 1)) 83 = w111_38 83 := sOf_ne _ _ (by decide)
                have e156_91 : (setO w111_38 73 (fup (w111_38 73) 28 1)) 91 = w111_38 91 := sOf_ne _ _ (by decide)
                have e157_92 : (setO w111_38 73 (fup (w111_38 73) 28 1)) 92 = w111_38 92 := sOf_ne _ _ (by decide)
                have e158_91 : (setO w111_38 73 (fup (w111_38 73) 28 1)) 91 = w111_38 91 := sOf_ne _ _ (by decide)
                have e159_92 : (setO w111_38 73 (fup (w111_38 73) 28 1)) 92 = w111_38 92 := sOf_ne _ _ (by decide)
                have e160_84 : (setO w111_38 73 (fup (w111_38 73) 28 1)) 84 = w111_38 84 := sOf_ne _ _ (by decide)
                have e161_85 : (setO w111_38 73 (fup (w111_38 73) 28 1)) 85 = w111_38 85 := sOf_ne _ _ (by decide)
                have e162_83 : (setO w111_38 73 (fup (w111_38 73) 28 1)) 83 = w111_38 83 := sOf_ne _ _ (by decide)
                have e163_83 : (setO w111_38 73 (fup (w111_38 73) 28 1)) 83 = w111_38 83 := sOf_ne _ _ (by decide)
                have e164_90 : (setO w111_38 73 (fup (w111_38 73) 28 1)) 90 = w111_38 90 := sOf_ne _ _ (by decide)
                have e165_89 : (setO w111_38 73 (fup (w111_38 73) 28 1)) 89 = w111_38 89 := sOf_ne _ _ (by decide)
                have e166_83 : (setO w111_38 73 (fup (w111_38 73) 28 1)) 83 = w111_38 83 := sOf_ne _ _ (by decide)
                have e167_89 : (setO w111_38 73 (fup (w111_38 73) 28 1)) 89 = w111_38 89 := sOf_ne _ _ (by decide)
                have e168_91 : (setO w111_38 73 (fup (w111_38 73) 28 1)) 91 = w111_38 91 := sOf_ne _ _ (by decide)
                exact L130_42 ((((4401 : Int) - (n - 1)).toNat) + 1) (n - 1) (setO w111_38 73 (fup (w111_38 73) 28 1)) hT_41 hF_41 (by rewrite [e148_91]; first | omega | (simp [up, setR] <;> omega)) (by rewrite [e149_73_28, e150_91]; first | omega | (simp [up, setR] <;> omega)) (by first | omega | (simp [up, setR] <;> omega)) (by rewrite [e151_73_28]; first | omega | (simp [up, setR] <;> omega)) (by rewrite [e152_91]; first | omega | (simp [up, setR] <;> omega)) (by rewrite [e153_90, e154_91]; first | assumption | exact hmi) (by rewrite [e155_83, e156_91, e157_92]; first | assumption | exact hlq) (by rewrite [e158_91]; first | exact h91f | (intro j hj; exact fup_ne _ _ hj)) (by rewrite [e159_92]; exact hlb) (by rewrite [e160_84, e161_85]; first | (exact pki) | (intro j hj; exact ⟨rfl, (pk_at50 j hj).2.trans (pki j hj).2⟩) | (intro j hj; exact ⟨rfl, (pk_at50 j hj).2⟩) | (intro j hj; exact ⟨rfl, (pki j hj).2⟩) | (intro j hj; exact ⟨rfl, rfl⟩)) (by rewrite [e162_83]; exact hP9) (by rewrite [e163_83]; exact k83f) (by rewrite [e164_90]; first | rfl | exact k90) (by rewrite [e165_89]; exact hWk) (by rewrite [e166_83, e167_89, e168_91]; exact hC9) (Nat.lt_succ_self _)
          refine TT_sub [2, 3, 4, 1, 0] rfl ?_
          have e169_91 : g103_37 91 = w71_34 91 := (hG_37.1 91 (by decide))
          have e170_91 : g103_37 91 = w71_34 91 := (hG_37.1 91 (by decide))
          have e171_90 : g103_37 90 = w71_34 90 := (hG_37.1 90 (by decide))
          have e172_91 : g103_37 91 = w71_34 91 := (hG_37.1 91 (by decide))
          have e173_83 : g103_37 83 = w71_34 83 := (hG_37.1 83 (by decide))
          have e174_91 : g103_37 91 = w71_34 91 := (hG_37.1 91 (by decide))
          have e175_92 : g103_37 92 = w71_34 92 := (hG_37.1 92 (by decide))
          have e176_91 : g103_37 91 = w71_34 91 := (hG_37.1 91 (by decide))
          have e177_92 : g103_37 92 = w71_34 92 := (hG_37.1 92 (by decide))
          have e178_84 : g103_37 84 = w71_34 84 := (hG_37.1 84 (by decide))
          have e179_85 : g103_37 85 = w71_34 85 := (hG_37.1 85 (by decide))
          have e180_83 : g103_37 83 = w71_34 83 := (hG_37.1 83 (by decide))
          have e181_83 : g103_37 83 = w71_34 83 := (hG_37.1 83 (by decide))
          have e182_90 : g103_37 90 = w71_34 90 := (hG_37.1 90 (by decide))
          have e183_89 : g103_37 89 = w71_34 89 := (hG_37.1 89 (by decide))
          have e184_83 : g103_37 83 = w71_34 83 := (hG_37.1 83 (by decide))
          have e185_89 : g103_37 89 = w71_34 89 := (hG_37.1 89 (by decide))
          have e186_91 : g103_37 91 = w71_34 91 := (hG_37.1 91 (by decide))
          exact L111_38 ((((40 : Int) - 1).toNat) + 1) 0 1 g103_37 hT_37 hF_37 (by first | omega | (simp [up, setR] <;> omega)) (by rewrite [e169_91]; first | omega | (simp [up, setR] <;> omega)) (by rewrite [e170_91]; first | omega | (simp [up, setR] <;> omega)) (by rewrite [e171_90, e172_91]; first | assumption | exact hmi) (by rewrite [e173_83, e174_91, e175_92]; exact hlq) (by rewrite [e176_91]; first | exact h91f | (intro j hj; exact fup_ne _ _ hj)) (by rewrite [e177_92]; intro i j h1 h2 h3; rw [show i = 0 by omega, show j = 0 by omega, Int.add_zero, hl0]; omega) (by rewrite [e178_84, e179_85]; first | (exact pki) | (intro j hj; exact ⟨rfl, (pk_at50 j hj).2.trans (pki j hj).2⟩) | (intro j hj; exact ⟨rfl, (pk_at50 j hj).2⟩) | (intro j hj; exact ⟨rfl, (pki j hj).2⟩) | (intro j hj; exact ⟨rfl, rfl⟩)) (by rewrite [e180_83]; exact hP9) (by rewrite [e181_83]; exact k83f) (by rewrite [e182_90]; first | rfl | exact k90) (by rewrite [e183_89]; exact hWk) (by rewrite [e184_83, e185_89, e186_91]; exact CWR_1 hq0 hE9 hwb hW (by omega)) (Nat.lt_succ_self _)
        · refine TT_aload_n hK rfl 0 rfl dX12_tellBand_79 ?_
          refine gf_X12_63 hK (by decide) rfl (q := 89) rfl rfl dX12_tellBand_80 ?_
          refine TT_iload_n hK rfl 2 rfl dX12_tellBand_83 ?_
          refine TT_iload_n hK rfl 3 rfl dX12_tellBand_84 ?_
          refine TT_iadd hK dX12_tellBand_85 ?_
          refine TT_iconst hK dX12_tellBand_86 ?_
          refine TT_isub hK dX12_tellBand_87 ?_
          refine TT_aload_n hK rfl 0 rfl dX12_tellBand_88 ?_
          refine gf_X12_90 hK (by decide) rfl (q := 98) rfl rfl dX12_tellBand_89 ?_
          refine TT_iload_n hK rfl 3 rfl dX12_tellBand_92 ?_
          refine TT_iald hK (o := 98) (n := 3200) (by decide) rfl (by first | omega | (simp [up, setR] <;> omega)) (by first | omega | (simp [up, setR] <;> omega)) (v := (w71_34 98) k) rfl dX12_tellBand_93 ?_
          have r187 := ty_98 (i := k) (v := (w71_34 98) k) hT71_34 rfl (by omega) (by omega)
          refine TT_iast hK (o := 89) (n := 4400) (by decide) rfl (by omega) (by omega) dX12_tellBand_94 ?_
          refine TT_hp (h' := setO w71_34 89 (fup (w71_34 89) ((f + k) - 1) ((w71_34 98) k))) (up_can rfl rfl rfl) ?_
          have hT_188 : TY (setO w71_34 89 (fup (w71_34 89) ((f + k) - 1) ((w71_34 98) k))) := tu_89 hT71_34 (show up w71_34 89 ((f + k) - 1) ((w71_34 98) k) = (setO w71_34 89 (fup (w71_34 89) ((f + k) - 1) ((w71_34 98) k))) from up_can rfl rfl rfl) (by omega)
          have hF_188 : FRM [73, 83, 84, 85, 89, 90, 91, 92, 93, 94, 95, 96, 97, 98, 99] [26, 27, 28, 29, 32, 33, 34, 36, 38, 39] h (setO w71_34 89 (fup (w71_34 89) ((f + k) - 1) ((w71_34 98) k))) := FRM_up (show up w71_34 89 ((f + k) - 1) ((w71_34 98) k) = (setO w71_34 89 (fup (w71_34 89) ((f + k) - 1) ((w71_34 98) k))) from up_can rfl rfl rfl) hF71_34 (by decide) (by decide)
          refine TT_iinc hK (v := k + 1) (lv' := [(3, vI (k + 1)), (0, vR 73), (1, vI b), (2, vI f)]) 3 rfl rfl (by decide) rfl dX12_tellBand_95 ?_
          refine TT_goto hK (tgt := 71) dX12_tellBand_98 (by decide) ?_
          refine TT_sub [1, 2, 3, 0] rfl ?_
          have e189_73_36 : (setO w71_34 89 (fup (w71_34 89) ((f + k) - 1) ((w71_34 98) k))) 73 36 = (w71_34 73) 36 := rd_ (sOf_ne _ _ (by decide)) rfl
          have e190_73_36 : (setO w71_34 89 (fup (w71_34 89) ((f + k) - 1) ((w71_34 98) k))) 73 36 = (w71_34 73) 36 := rd_ (sOf_ne _ _ (by decide)) rfl
          have e191_73_36 : (setO w71_34 89 (fup (w71_34 89) ((f + k) - 1) ((w71_34 98) k))) 73 36 = (w71_34 73) 36 := rd_ (sOf_ne _ _ (by decide)) rfl
          have e192_91 : (setO w71_34 89 (fup (w71_34 89) ((f + k) - 1) ((w71_34 98) k))) 91 = w71_34 91 := sOf_ne _ _ (by decide)
          have e193_90 : (setO w71_34 89 (fup (w71_34 89) ((f + k) - 1) ((w71_34 98) k))) 90 = w71_34 90 := sOf_ne _ _ (by decide)
          have e194_90 : (setO w71_34 89 (fup (w71_34 89) ((f + k) - 1) ((w71_34 98) k))) 90 = w71_34 90 := sOf_ne _ _ (by decide)
          have e195_91 : (setO w71_34 89 (fup (w71_34 89) ((f + k) - 1) ((w71_34 98) k))) 91 = w71_34 91 := sOf_ne _ _ (by decide)
          have e196_83 : (setO w71_34 89 (fup (w71_34 89) ((f + k) - 1) ((w71_34 98) k))) 83 = w71_34 83 := sOf_ne _ _ (by decide)
          have e197_91 : (setO w71_34 89 (fup (w71_34 89) ((f + k) - 1) ((w71_34 98) k))) 91 = w71_34 91 := sOf_ne _ _ (by decide)
          have e198_92 : (setO w71_34 89 (fup (w71_34 89) ((f + k) - 1) ((w71_34 98) k))) 92 = w71_34 92 := sOf_ne _ _ (by decide)
          have e199_92 : (setO w71_34 89 (fup (w71_34 89) ((f + k) - 1) ((w71_34 98) k))) 92 = w71_34 92 := sOf_ne _ _ (by decide)
          have e200_91 : (setO w71_34 89 (fup (w71_34 89) ((f + k) - 1) ((w71_34 98) k))) 91 = w71_34 91 := sOf_ne _ _ (by decide)
          have e201_84 : (setO w71_34 89 (fup (w71_34 89) ((f + k) - 1) ((w71_34 98) k))) 84 = w71_34 84 := sOf_ne _ _ (by decide)
          have e202_85 : (setO w71_34 89 (fup (w71_34 89) ((f + k) - 1) ((w71_34 98) k))) 85 = w71_34 85 := sOf_ne _ _ (by decide)
          have e203_83 : (setO w71_34 89 (fup (w71_34 89) ((f + k) - 1) ((w71_34 98) k))) 83 = w71_34 83 := sOf_ne _ _ (by decide)
          have e204_83 : (setO w71_34 89 (fup (w71_34 89) ((f + k) - 1) ((w71_34 98) k))) 83 = w71_34 83 := sOf_ne _ _ (by decide)
          have e205_83 : (setO w71_34 89 (fup (w71_34 89) ((f + k) - 1) ((w71_34 98) k))) 83 = w71_34 83 := sOf_ne _ _ (by decide)
          have e206_90 : (setO w71_34 89 (fup (w71_34 89) ((f + k) - 1) ((w71_34 98) k))) 90 = w71_34 90 := sOf_ne _ _ (by decide)
          have e207_89 : (setO w71_34 89 (fup (w71_34 89) ((f + k) - 1) ((w71_34 98) k))) 89 = fup (w71_34 89) ((f + k) - 1) ((w71_34 98) k) := sOf_eq _ _ _
          have e208_73_36 : (setO w71_34 89 (fup (w71_34 89) ((f + k) - 1) ((w71_34 98) k))) 73 36 = (w71_34 73) 36 := rd_ (sOf_ne _ _ (by decide)) rfl
          have e209_83 : (setO w71_34 89 (fup (w71_34 89) ((f + k) - 1) ((w71_34 98) k))) 83 = w71_34 83 := sOf_ne _ _ (by decide)
          have e210_98 : (setO w71_34 89 (fup (w71_34 89) ((f + k) - 1) ((w71_34 98) k))) 98 = w71_34 98 := sOf_ne _ _ (by decide)
          have e211_89 : (setO w71_34 89 (fup (w71_34 89) ((f + k) - 1) ((w71_34 98) k))) 89 = fup (w71_34 89) ((f + k) - 1) ((w71_34 98) k) := sOf_eq _ _ _
          have e212_98 : (setO w71_34 89 (fup (w71_34 89) ((f + k) - 1) ((w71_34 98) k))) 98 = w71_34 98 := sOf_ne _ _ (by decide)
          exact ih34 (k + 1) (setO w71_34 89 (fup (w71_34 89) ((f + k) - 1) ((w71_34 98) k))) hT_188 hF_188 (by rewrite [e189_73_36]; first | omega | (simp [up, setR] <;> omega)) (by rewrite [e190_73_36]; first | omega | (simp [up, setR] <;> omega)) (by rewrite [e191_73_36, e192_91]; omega) (by rewrite [e193_90]; omega) (by rewrite [e194_90, e195_91]; exact hmi) (by rewrite [e196_83, e197_91, e198_92]; exact hlq) (by rewrite [e199_92]; omega) (by rewrite [e200_91]; exact h91f) (by rewrite [e201_84, e202_85]; first | (exact pki) | (intro j hj; exact ⟨rfl, (pk_at50 j hj).2.trans (pki j hj).2⟩) | (intro j hj; exact ⟨rfl, (pk_at50 j hj).2⟩) | (intro j hj; exact ⟨rfl, (pki j hj).2⟩) | (intro j hj; exact ⟨rfl, rfl⟩)) (by rewrite [e203_83]; exact hP9) (by rewrite [e204_83]; exact k83f) (by rewrite [e205_83]; first | omega | (simp [up, setR] <;> omega)) (by rewrite [e206_90]; first | rfl | exact k90) (by rewrite [e207_89]; intro j hj; rw [fup_ne _ _ (by omega)]; exact hWk j hj) (by rewrite [e208_73_36, e209_83, e210_98]; exact hE9) (by rewrite [e211_89, e212_98]; intro j h1 h2; by_cases e : j = k; (rw [e, fup_eq]); (rw [fup_ne _ _ (by omega)]; exact hW j h1 (by omega))) (by first | omega | (simp [up, setR] <;> omega))
    refine TT_sub [1, 2, 3, 0] rfl ?_
    have e213_73_36 : (setO g54_31 91 (fup (h 91) b (((g54_31 73) 36) - 1))) 73 36 = (g54_31 73) 36 := rd_ (sOf_ne _ _ (by decide)) rfl
    have e214_73_36 : (setO g54_31 91 (fup (h 91) b (((g54_31 73) 36) - 1))) 73 36 = (g54_31 73) 36 := rd_ (sOf_ne _ _ (by decide)) rfl
    have e215_73_36 : (setO g54_31 91 (fup (h 91) b (((g54_31 73) 36) - 1))) 73 36 = (g54_31 73) 36 := rd_ (sOf_ne _ _ (by decide)) rfl
    have e216_91 : (setO g54_31 91 (fup (h 91) b (((g54_31 73) 36) - 1))) 91 = fup (h 91) b (((g54_31 73) 36) - 1) := sOf_eq _ _ _
    have e217_90 : (setO g54_31 91 (fup (h 91) b (((g54_31 73) 36) - 1))) 90 = fup (h 90) b f := (sOf_ne _ _ (by decide)).trans (((hG_31.1 90 (by decide))).trans (((hG_24.1 90 (by decide))).trans (((hG_7.1 90 (by decide))).trans ((sOf_ne _ _ (by decide)).trans ((sOf_ne _ _ (by decide)).trans (sOf_eq _ _ _))))))
    have e218_90 : (setO g54_31 91 (fup (h 91) b (((g54_31 73) 36) - 1))) 90 = fup (h 90) b f := (sOf_ne _ _ (by decide)).trans (((hG_31.1 90 (by decide))).trans (((hG_24.1 90 (by decide))).trans (((hG_7.1 90 (by decide))).trans ((sOf_ne _ _ (by decide)).trans ((sOf_ne _ _ (by decide)).trans (sOf_eq _ _ _))))))
    have e219_91 : (setO g54_31 91 (fup (h 91) b (((g54_31 73) 36) - 1))) 91 = fup (h 91) b (((g54_31 73) 36) - 1) := sOf_eq _ _ _
    have e220_83 : (setO g54_31 91 (fup (h 91) b (((g54_31 73) 36) - 1))) 83 = g2_1 83 := (sOf_ne _ _ (by decide)).trans (((hG_31.1 83 (by decide))).trans (((hG_24.1 83 (by decide))).trans (((hG_7.1 83 (by decide))).trans ((sOf_ne _ _ (by decide)).trans ((sOf_ne _ _ (by decide)).trans (sOf_ne _ _ (by decide)))))))
    have e221_91 : (setO g54_31 91 (fup (h 91) b (((g54_31 73) 36) - 1))) 91 = fup (h 91) b (((g54_31 73) 36) - 1) := sOf_eq _ _ _
    have e222_92 : (setO g54_31 91 (fup (h 91) b (((g54_31 73) 36) - 1))) 92 = fup (h 92) (35 * b) 0 := (sOf_ne _ _ (by decide)).trans (((hG_31.1 92 (by decide))).trans (((hG_24.1 92 (by decide))).trans (((hG_7.1 92 (by decide))).trans (sOf_eq _ _ _))))
    have e223_92 : (setO g54_31 91 (fup (h 91) b (((g54_31 73) 36) - 1))) 92 = fup (h 92) (35 * b) 0 := (sOf_ne _ _ (by decide)).trans (((hG_31.1 92 (by decide))).trans (((hG_24.1 92 (by decide))).trans (((hG_7.1 92 (by decide))).trans (sOf_eq _ _ _))))
    have e224_91 : (setO g54_31 91 (fup (h 91) b (((g54_31 73) 36) - 1))) 91 = fup (h 91) b (((g54_31 73) 36) - 1) := sOf_eq _ _ _
    have e225_84 : (setO g54_31 91 (fup (h 91) b (((g54_31 73) 36) - 1))) 84 = h 84 := (sOf_ne _ _ (by decide)).trans (((hG_31.1 84 (by decide))).trans (((hG_24.1 84 (by decide))).trans (((hG_7.1 84 (by decide))).trans ((sOf_ne _ _ (by decide)).trans ((sOf_ne _ _ (by decide)).trans ((sOf_ne _ _ (by decide)).trans (hG_1.1 84 (by decide))))))))
    have e226_85 : (setO g54_31 91 (fup (h 91) b (((g54_31 73) 36) - 1))) 85 = g50_24 85 := (sOf_ne _ _ (by decide)).trans (hG_31.1 85 (by decide))
    have e227_83 : (setO g54_31 91 (fup (h 91) b (((g54_31 73) 36) - 1))) 83 = g2_1 83 := (sOf_ne _ _ (by decide)).trans (((hG_31.1 83 (by decide))).trans (((hG_24.1 83 (by decide))).trans (((hG_7.1 83 (by decide))).trans ((sOf_ne _ _ (by decide)).trans ((sOf_ne _ _ (by decide)).trans (sOf_ne _ _ (by decide)))))))
    have e228_83 : (setO g54_31 91 (fup (h 91) b (((g54_31 73) 36) - 1))) 83 = g2_1 83 := (sOf_ne _ _ (by decide)).trans (((hG_31.1 83 (by decide))).trans (((hG_24.1 83 (by decide))).trans (((hG_7.1 83 (by decide))).trans ((sOf_ne _ _ (by decide)).trans ((sOf_ne _ _ (by decide)).trans (sOf_ne _ _ (by decide)))))))
    have e229_83 : (setO g54_31 91 (fup (h 91) b (((g54_31 73) 36) - 1))) 83 = g2_1 83 := (sOf_ne _ _ (by decide)).trans (((hG_31.1 83 (by decide))).trans (((hG_24.1 83 (by decide))).trans (((hG_7.1 83 (by decide))).trans ((sOf_ne _ _ (by decide)).trans ((sOf_ne _ _ (by decide)).trans (sOf_ne _ _ (by decide)))))))
    have e230_90 : (setO g54_31 91 (fup (h 91) b (((g54_31 73) 36) - 1))) 90 = fup (h 90) b f := (sOf_ne _ _ (by decide)).trans (((hG_31.1 90 (by decide))).trans (((hG_24.1 90 (by decide))).trans (((hG_7.1 90 (by decide))).trans ((sOf_ne _ _ (by decide)).trans ((sOf_ne _ _ (by decide)).trans (sOf_eq _ _ _))))))
    have e231_89 : (setO g54_31 91 (fup (h 91) b (((g54_31 73) 36) - 1))) 89 = h 89 := (sOf_ne _ _ (by decide)).trans (((hG_31.1 89 (by decide))).trans (((hG_24.1 89 (by decide))).trans (((hG_7.1 89 (by decide))).trans ((sOf_ne _ _ (by decide)).trans ((sOf_ne _ _ (by decide)).trans ((sOf_ne _ _ (by decide)).trans (hG_1.1 89 (by decide))))))))
    have e232_73_36 : (setO g54_31 91 (fup (h 91) b (((g54_31 73) 36) - 1))) 73 36 = (g54_31 73) 36 := rd_ (sOf_ne _ _ (by decide)) rfl
    have e233_83 : (setO g54_31 91 (fup (h 91) b (((g54_31 73) 36) - 1))) 83 = g2_1 83 := (sOf_ne _ _ (by decide)).trans (((hG_31.1 83 (by decide))).trans (((hG_24.1 83 (by decide))).trans (((hG_7.1 83 (by decide))).trans ((sOf_ne _ _ (by decide)).trans ((sOf_ne _ _ (by decide)).trans (sOf_ne _ _ (by decide)))))))
    have e234_98 : (setO g54_31 91 (fup (h 91) b (((g54_31 73) 36) - 1))) 98 = g54_31 98 := sOf_ne _ _ (by decide)
    have e235_89 : (setO g54_31 91 (fup (h 91) b (((g54_31 73) 36) - 1))) 89 = h 89 := (sOf_ne _ _ (by decide)).trans (((hG_31.1 89 (by decide))).trans (((hG_24.1 89 (by decide))).trans (((hG_7.1 89 (by decide))).trans ((sOf_ne _ _ (by decide)).trans ((sOf_ne _ _ (by decide)).trans ((sOf_ne _ _ (by decide)).trans (hG_1.1 89 (by decide))))))))
    have e236_98 : (setO g54_31 91 (fup (h 91) b (((g54_31 73) 36) - 1))) 98 = g54_31 98 := sOf_ne _ _ (by decide)
    exact L71_34 ((((3200 : Int) - 1).toNat) + 1) 1 (setO g54_31 91 (fup (h 91) b (((g54_31 73) 36) - 1))) hT_33 hF_33 (by rewrite [e213_73_36]; first | omega | (simp [up, setR] <;> omega)) (by rewrite [e214_73_36]; first | omega | (simp [up, setR] <;> omega)) (by rewrite [e215_73_36, e216_91]; rw [fup_eq]; omega) (by rewrite [e217_90]; exact fup_eq _ _ _) (by rewrite [e218_90, e219_91]; exact MIQ_up hmi (by omega)) (by rewrite [e220_83, e221_91, e222_92]; exact LQ_1 hlq q1_at2) (by rewrite [e223_92]; exact fup_eq _ _ _) (by rewrite [e224_91]; first | (intro j hj; exact fup_ne _ _ hj)) (by rewrite [e225_84, e226_85]; first | (exact pk_at50) | (intro j hj; exact ⟨rfl, (pk_at50 j hj).2⟩) | (intro j hj; exact ⟨rfl, rfl⟩)) (by rewrite [e227_83]; exact pz9_at2) (by rewrite [e228_83]; exact q1_at2) (by rewrite [e229_83]; first | omega | (simp [up, setR] <;> omega)) (by rewrite [e230_90]; first | rfl) (by rewrite [e231_89]; intro j hj; rfl) (by rewrite [e232_73_36, e233_83, e234_98]; exact ETQ_i b0_at40 (wk9_at50.2.1 rfl).1 p2_at47 et_at54) (by rewrite [e235_89, e236_98]; intro j h1 h2; exfalso; omega) (Nat.lt_succ_self _)
  · refine TT_vret hK hQ ?_ dX12_tellBand_38
    have e237_91 : (setO (setO (setO g2_1 90 (fup (h 90) b f)) 91 (fup (h 91) b 0)) 92 (fup (h 92) (35 * b) 0)) 91 = fup (h 91) b 0 := (sOf_ne _ _ (by decide)).trans (sOf_eq _ _ _)
    have e238_90 : (setO (setO (setO g2_1 90 (fup (h 90) b f)) 91 (fup (h 91) b 0)) 92 (fup (h 92) (35 * b) 0)) 90 = fup (h 90) b f := (sOf_ne _ _ (by decide)).trans ((sOf_ne _ _ (by decide)).trans (sOf_eq _ _ _))
    have e239_91 : (setO (setO (setO g2_1 90 (fup (h 90) b f)) 91 (fup (h 91) b 0)) 92 (fup (h 92) (35 * b) 0)) 91 = fup (h 91) b 0 := (sOf_ne _ _ (by decide)).trans (sOf_eq _ _ _)
    have e240_83 : (setO (setO (setO g2_1 90 (fup (h 90) b f)) 91 (fup (h 91) b 0)) 92 (fup (h 92) (35 * b) 0)) 83 = g2_1 83 := (sOf_ne _ _ (by decide)).trans ((sOf_ne _ _ (by decide)).trans (sOf_ne _ _ (by decide)))
    have e241_91 : (setO (setO (setO g2_1 90 (fup (h 90) b f)) 91 (fup (h 91) b 0)) 92 (fup (h 92) (35 * b) 0)) 91 = fup (h 91) b 0 := (sOf_ne _ _ (by decide)).trans (sOf_eq _ _ _)
    have e242_92 : (setO (setO (setO g2_1 90 (fup (h 90) b f)) 91 (fup (h 91) b 0)) 92 (fup (h 92) (35 * b) 0)) 92 = fup (h 92) (35 * b) 0 := sOf_eq _ _ _
    have e243_91 : (setO (setO (setO g2_1 90 (fup (h 90) b f)) 91 (fup (h 91) b 0)) 92 (fup (h 92) (35 * b) 0)) 91 = fup (h 91) b 0 := (sOf_ne _ _ (by decide)).trans (sOf_eq _ _ _)
    have e244_84 : (setO (setO (setO g2_1 90 (fup (h 90) b f)) 91 (fup (h 91) b 0)) 92 (fup (h 92) (35 * b) 0)) 84 = h 84 := (sOf_ne _ _ (by decide)).trans ((sOf_ne _ _ (by decide)).trans ((sOf_ne _ _ (by decide)).trans (hG_1.1 84 (by decide))))
    have e245_85 : (setO (setO (setO g2_1 90 (fup (h 90) b f)) 91 (fup (h 91) b 0)) 92 (fup (h 92) (35 * b) 0)) 85 = h 85 := (sOf_ne _ _ (by decide)).trans ((sOf_ne _ _ (by decide)).trans ((sOf_ne _ _ (by decide)).trans (hG_1.1 85 (by decide))))
    have e246_83 : (setO (setO (setO g2_1 90 (fup (h 90) b f)) 91 (fup (h 91) b 0)) 92 (fup (h 92) (35 * b) 0)) 83 = g2_1 83 := (sOf_ne _ _ (by decide)).trans ((sOf_ne _ _ (by decide)).trans (sOf_ne _ _ (by decide)))
    have e247_89 : (setO (setO (setO g2_1 90 (fup (h 90) b f)) 91 (fup (h 91) b 0)) 92 (fup (h 92) (35 * b) 0)) 89 = h 89 := (sOf_ne _ _ (by decide)).trans ((sOf_ne _ _ (by decide)).trans ((sOf_ne _ _ (by decide)).trans (hG_1.1 89 (by decide))))
    have e248_91 : (setO (setO (setO g2_1 90 (fup (h 90) b f)) 91 (fup (h 91) b 0)) 92 (fup (h 92) (35 * b) 0)) 91 = fup (h 91) b 0 := (sOf_ne _ _ (by decide)).trans (sOf_eq _ _ _)
    have e249_83 : (setO (setO (setO g2_1 90 (fup (h 90) b f)) 91 (fup (h 91) b 0)) 92 (fup (h 92) (35 * b) 0)) 83 = g2_1 83 := (sOf_ne _ _ (by decide)).trans ((sOf_ne _ _ (by decide)).trans (sOf_ne _ _ (by decide)))
    have e250_89 : (setO (setO (setO g2_1 90 (fup (h 90) b f)) 91 (fup (h 91) b 0)) 92 (fup (h 92) (35 * b) 0)) 89 = h 89 := (sOf_ne _ _ (by decide)).trans ((sOf_ne _ _ (by decide)).trans ((sOf_ne _ _ (by decide)).trans (hG_1.1 89 (by decide))))
    have e251_90 : (setO (setO (setO g2_1 90 (fup (h 90) b f)) 91 (fup (h 91) b 0)) 92 (fup (h 92) (35 * b) 0)) 90 = fup (h 90) b f := (sOf_ne _ _ (by decide)).trans ((sOf_ne _ _ (by decide)).trans (sOf_eq _ _ _))
    have e252_83 : (setO (setO (setO g2_1 90 (fup (h 90) b f)) 91 (fup (h 91) b 0)) 92 (fup (h 92) (35 * b) 0)) 83 = g2_1 83 := (sOf_ne _ _ (by decide)).trans ((sOf_ne _ _ (by decide)).trans (sOf_ne _ _ (by decide)))
    exact ⟨⟨hT_4, hF_4⟩, rfl, (by rewrite [e237_91]; first | omega | (rw [fup_eq]; omega)), (by rewrite [e238_90, e239_91]; first | assumption | exact MIQ_up hmi (by omega)), (by rewrite [e240_83, e241_91, e242_92]; first | exact LQ_0 hlq (by assumption) (by assumption)), (by rewrite [e243_91]; first | (intro j hj; exact fup_ne _ _ hj)), (by rewrite [e244_84, e245_85]; first | (first | (intro j hj; exact ⟨rfl, rfl⟩)) | (intro j hj; exact ⟨rfl, rfl⟩)), (by rewrite [e246_83, e247_89, e248_91]; first | exact CWR_0 (by omega) (fup_eq _ _ _)), (by rewrite [e249_83]; first | exact pz9_at2), (by rewrite [e250_89]; first | (intro j hj; rfl)), (by rewrite [e251_90]; first | rfl), (by rewrite [e252_83]; first | exact q1_at2)⟩

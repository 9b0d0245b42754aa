def E00 : ES_ := (0, 0, 0, 0, fun _ => 0, fun _ => 0, fun _ => 0)
theorem CQ_b2 {E0 : ES_} {D0 : Int × DS_} {h : Hp_} (h29 : h 73 29 = 2) (hS : SRB (h 99) (h 73 38)) (e : ((h 73 28, h 73 32, h 73 33, h 73 34, h 73 39, h 96, h 97) : Int × DS_) = D0) (hq : RQ_ (h 73 38) (h 73 32) (h 73 34) (h 73 39)) (hc : 0 ≤ h 73 33) : CQ 2 E0 D0 h [] := ⟨h29, fun q => by omega, fun _ => ⟨hS, fun _ => ⟨e, hq, hc⟩⟩⟩
theorem bgD_p (s : Int → Int) (m : Int) (sd ld : Int → Int) : 0 ≤ (bgD s m sd ld).2.2.2.1 := inS_p (Int.le_refl 0)
theorem bgD_q2 {s1 s2 : Int → Int} {m : Int} (h : ∀ j : Int, 0 ≤ j → j < m → s1 j = s2 j) (sd ld : Int → Int) : EQD (bgD s1 m sd ld) (bgD s2 m sd ld) := by
  unfold bgD
  rw [byS_q h (Int.le_refl 0), inS_q h (Int.le_refl 0)]
  exact ⟨rfl, rfl, rfl, rfl, fun _ _ _ => rfl, fun _ _ _ => rfl⟩
/-- C too is the same -/
theorem rdF_qc {s1 s2 : Int → Int} {m : Int} (h : ∀ j : Int, 0 ≤ j → j < m → s1 j = s2 j) : ∀ (T : List (Int × Int)) {w : Int} {D F : DS_}, EQD D F → 0 ≤ F.2.2.2.1 → (∀ z, z ∈ T → 0 ≤ z.1 ∧ z.1 ≤ 18) → (rdF s1 m T (w, D)).2.2.1 = (rdF s2 m T (w, F)).2.2.1
  | [], w, D, F, hD, _, _ => hD.2.1
  | z :: T, w, D, F, hD, hp, hT => by
    have r := rdS_q (fx := fxM) h hD hp (hT z (List.mem_cons_self ..))
    show (rdF s1 m T (rdW s1 m (w, D) z.1 z.2)).2.2.1 = (rdF s2 m T (rdW s2 m (w, F) z.1 z.2)).2.2.1
    unfold rdW
    dsimp only
    rw [r.1]
    exact rdF_qc h T r.2.1 r.2.2 (fun u hu => hT u (List.mem_cons_of_mem _ hu))
/-- the reading of so many passes with so many bytes, in the reference's cells -/
theorem TRY_r {g : Hp_} {E : ES_} {Tp Ta l : List (Int × Int)} {B s1 sd ld : Int → Int} {L m a c t p : Int} (hE : ES0 E) (hTa : ETR Ta) (hl : Ta = Tp ++ l) (hW : WRD (endE (tlF Ta E)) B L) (hm : 0 ≤ m ∧ m ≤ L) (hs1 : ∀ j : Int, 0 ≤ j → j < m → s1 j = B j) (hsd : ∀ j : Int, 0 ≤ j → j < 19 → sd j = st0 j) (hld : ∀ j : Int, 0 ≤ j → j < 19 → ld j = 0)
    (hD : (a, c, t, p, sd, ld) = bgD s1 m sd ld) (hQ : CQ 2 E00 (0, (a, c, t, p, sd, ld)) g Tp) (e99 : g 99 = s1) (e38 : g 73 38 = m) : (g 73 28 = 0 ↔ RTM B m Tp) := by
  have hb := WRD_by hE hW
  have hB := BOUND (w := 0) (sd := sd) (ld := ld) hE hTa hW hm hsd hld hb
  have k := (hQ.2.2 rfl).2
  rw [e99, e38] at k
  have hTp : ∀ z, z ∈ Tp → 0 ≤ z.1 ∧ z.1 ≤ 18 := fun z hz => (hTa z (by rw [hl]; exact List.mem_append_left _ hz)).1
  -- the bound, for this source and these passes
  have hB2 : BNF s1 m Tp (0, (a, c, t, p, sd, ld)) := by
    intro i hi
    have q := hB i (by rw [hl, List.length_append]; omega)
    rw [hl, List.take_append_of_le_length hi] at q
    rw [hD]
    have r := rdF_qc hs1 (Tp.take i) (w := 0) (bgD_q2 hs1 sd ld) (bgD_p B m sd ld) (fun z hz => hTp z (List.mem_of_mem_take hz))
    rw [r]
    exact q
  have k2 := (k hB2).1
  have k3 := congrArg (fun u => u.1) k2
  dsimp only at k3
  rw [k3, hD]
  exact RTM_q hs1 hsd hld hTp
set_option maxRecDepth 20000 in
theorem s_beginR_e (n w : Int) (h : Hp_) (hT : TY h) (hn : 0 ≤ n ∧ n ≤ 4400) (hw : 0 ≤ w ∧ w ≤ 2) : Ctr yX12_beginReading cX12_beginReading 3 none (rmd 2) ly ly 0 0 [vR 73, vI n, vI w] h (fun r h' => (TY h' ∧ FRM [73, 96, 97] [29, 32, 33, 34, 38, 39] h h') ∧ r = none ∧ ((h' 73 32) = 32768) ∧ ((h' 73 29) = w) ∧ ((h' 73 38) = n) ∧ (∀ j : Int, 0 ≤ j → j < 19 → (h' 96) j = st0 j) ∧ (∀ j : Int, 0 ≤ j → j < 19 → (h' 97) j = 0) ∧ (SRB (h 99) n → ((h' 73 33), (h' 73 34), (h' 73 39)) = ((inS (h 99) n (65536 * byS (h 99) n 0) 0).1 * 128, (inS (h 99) n (65536 * byS (h 99) n 0) 0).2.1 - 7, (inS (h 99) n (65536 * byS (h 99) n 0) 0).2.2) ∧ RQ_ n 32768 (h' 73 34) (h' 73 39) ∧ 0 ≤ (h' 73 33))) := by
  refine Ctr_of (by decide) (Nat.le_of_ble_eq_true rfl) ⟨Nat.le_refl _, Nat.le_refl _⟩ (fun K hK hQ _ => ?_)
  show TT K ly 0 0 0 [(0, vR 73), (1, vI n), (2, vI w)] [] h
  have hF : FRM [73, 96, 97] [29, 32, 33, 34, 38, 39] h h := FRM_rf _ _ _
  refine TT_aload_n hK rfl 0 rfl dX12_beginReading_0 ?_
  refine iv_X12_160 hK (s_forget_e h hT ) (by decide) rfl ⟨by decide, by decide⟩ (by decide) rfl rfl (Nat.le_of_ble_eq_true rfl) ⟨by decide, by decide⟩ dX12_beginReading_1 ?_
  intro r9 g1_1 hp9
  obtain ⟨⟨hT_1, hG_1⟩, hr9, st_1, lk_1⟩ := hp9
  rw [hr9]
  have hF_1 : FRM [73, 96, 97] [29, 32, 33, 34, 38, 39] h g1_1 := FRM_tr hF hG_1 (by decide) (by decide)
  have st_at1 := st_1
  have lk_at1 := lk_1
  show TT K ly 0 0 4 [(0, vR 73), (1, vI n), (2, vI w)] [] g1_1
  refine TT_aload_n hK rfl 0 rfl dX12_beginReading_4 ?_
  refine TT_iload_n hK rfl 2 rfl dX12_beginReading_5 ?_
  refine pf_X12_163 hK (by decide) rfl dX12_beginReading_6 ?_
  refine TT_hp (h' := setO g1_1 73 (fup (h 73) 29 w)) (up_can (hG_1.1 73 (by decide)) rfl rfl) ?_
  have hT_2 : TY (setO g1_1 73 (fup (h 73) 29 w)) := tu_73_29 hT_1 (show up g1_1 73 29 w = (setO g1_1 73 (fup (h 73) 29 w)) from up_can (hG_1.1 73 (by decide)) rfl rfl) (by omega)
  have hF_2 : FRM [73, 96, 97] [29, 32, 33, 34, 38, 39] h (setO g1_1 73 (fup (h 73) 29 w)) := FRM_f (show up g1_1 73 29 w = (setO g1_1 73 (fup (h 73) 29 w)) from up_can (hG_1.1 73 (by decide)) rfl rfl) hF_1 (by decide) (by decide)
  refine TT_aload_n hK rfl 0 rfl dX12_beginReading_9 ?_
  refine TT_iload_n hK rfl 1 rfl dX12_beginReading_10 ?_
  refine pf_X12_202 hK (by decide) rfl dX12_beginReading_11 ?_
  refine TT_hp (h' := setO g1_1 73 (fup (fup (h 73) 29 w) 38 n)) (up_can (sOf_eq _ _ _) rfl (setO_same _ _ _ _)) ?_
  have hT_3 : TY (setO g1_1 73 (fup (fup (h 73) 29 w) 38 n)) := tu_73_38 hT_2 (show up (setO g1_1 73 (fup (h 73) 29 w)) 73 38 n = (setO g1_1 73 (fup (fup (h 73) 29 w) 38 n)) from up_can (sOf_eq _ _ _) rfl (setO_same _ _ _ _)) (by omega)
  have hF_3 : FRM [73, 96, 97] [29, 32, 33, 34, 38, 39] h (setO g1_1 73 (fup (fup (h 73) 29 w) 38 n)) := FRM_f (show up (setO g1_1 73 (fup (h 73) 29 w)) 73 38 n = (setO g1_1 73 (fup (fup (h 73) 29 w) 38 n)) from up_can (sOf_eq _ _ _) rfl (setO_same _ _ _ _)) hF_2 (by decide) (by decide)
  refine TT_aload_n hK rfl 0 rfl dX12_beginReading_14 ?_
  refine TT_iconst hK dX12_beginReading_15 ?_
  refine pf_X12_205 hK (by decide) rfl dX12_beginReading_16 ?_
  refine TT_hp (h' := setO g1_1 73 (fup (fup (fup (h 73) 29 w) 38 n) 39 0)) (up_can (sOf_eq _ _ _) rfl (setO_same _ _ _ _)) ?_
  have hT_4 : TY (setO g1_1 73 (fup (fup (fup (h 73) 29 w) 38 n) 39 0)) := tu_73_39 hT_3 (show up (setO g1_1 73 (fup (fup (h 73) 29 w) 38 n)) 73 39 0 = (setO g1_1 73 (fup (fup (fup (h 73) 29 w) 38 n) 39 0)) from up_can (sOf_eq _ _ _) rfl (setO_same _ _ _ _)) (by omega)
  have hF_4 : FRM [73, 96, 97] [29, 32, 33, 34, 38, 39] h (setO g1_1 73 (fup (fup (fup (h 73) 29 w) 38 n) 39 0)) := FRM_f (show up (setO g1_1 73 (fup (fup (h 73) 29 w) 38 n)) 73 39 0 = (setO g1_1 73 (fup (fup (fup (h 73) 29 w) 38 n) 39 0)) from up_can (sOf_eq _ _ _) rfl (setO_same _ _ _ _)) hF_3 (by decide) (by decide)
  refine TT_aload_n hK rfl 0 rfl dX12_beginReading_19 ?_
  refine TT_ldc2 hK lc_X12_198 dX12_beginReading_20 ?_
  refine TT_aload_n hK rfl 0 rfl dX12_beginReading_23 ?_
  refine TT_iconst hK dX12_beginReading_24 ?_
  refine iv_X12_208 hK (s_byteAt_e 0 (setO g1_1 73 (fup (fup (fup (h 73) 29 w) 38 n) 39 0)) hT_4 (by first | omega | (simp [up, setR] <;> omega))) (by decide) rfl ⟨by decide, by decide⟩ (by decide) rfl rfl (Nat.le_of_ble_eq_true rfl) ⟨by decide, by decide⟩ dX12_beginReading_25 ?_
  intro r9 g25_5 hp9
  obtain ⟨⟨hT_5, hG_5⟩, z25_5, hr9, hz_5, p1_5, e_5⟩ := hp9
  rw [hr9]
  have hF_5 : FRM [73, 96, 97] [29, 32, 33, 34, 38, 39] h g25_5 := FRM_tr hF_4 hG_5 (by decide) (by decide)
  rw [show (setO g1_1 73 (fup (fup (fup (h 73) 29 w) 38 n) 39 0)) 73 38 = n from rd_ (sOf_eq _ _ _) ((fup_ne _ _ (by decide)).trans (fup_eq _ _ _))] at e_5
  rw [show (setO g1_1 73 (fup (fup (fup (h 73) 29 w) 38 n) 39 0)) 99 = h 99 from (sOf_ne _ _ (by decide)).trans (hG_1.1 99 (by decide))] at e_5
  have e_at25 := e_5
  show TT K ly 0 0 28 [(0, vR 73), (1, vI n), (2, vI w)] [vI z25_5, vJ 65536, vR 73] g25_5
  refine TT_i2l hK (irm (by omega) (by omega)) dX12_beginReading_28 ?_
  refine TT_lmul hK dX12_beginReading_29 ?_
  refine pf_X12_175 hK (by decide) rfl dX12_beginReading_30 ?_
  refine TT_hp (h' := setO g25_5 73 (fup (fup (fup (fup (h 73) 29 w) 33 (65536 * z25_5)) 38 n) 39 0)) (up_can (((hG_5.1 73 (by decide))).trans (sOf_eq _ _ _)) ((fup_comm _ _ _ (by decide)).trans (fup_cg (fup_comm _ _ _ (by decide)))) rfl) ?_
  have hT_6 : TY (setO g25_5 73 (fup (fup (fup (fup (h 73) 29 w) 33 (65536 * z25_5)) 38 n) 39 0)) := tu_73_33 hT_5 (show up g25_5 73 33 (65536 * z25_5) = (setO g25_5 73 (fup (fup (fup (fup (h 73) 29 w) 33 (65536 * z25_5)) 38 n) 39 0)) from up_can (((hG_5.1 73 (by decide))).trans (sOf_eq _ _ _)) ((fup_comm _ _ _ (by decide)).trans (fup_cg (fup_comm _ _ _ (by decide)))) rfl) (by omega)
  have hF_6 : FRM [73, 96, 97] [29, 32, 33, 34, 38, 39] h (setO g25_5 73 (fup (fup (fup (fup (h 73) 29 w) 33 (65536 * z25_5)) 38 n) 39 0)) := FRM_f (show up g25_5 73 33 (65536 * z25_5) = (setO g25_5 73 (fup (fup (fup (fup (h 73) 29 w) 33 (65536 * z25_5)) 38 n) 39 0)) from up_can (((hG_5.1 73 (by decide))).trans (sOf_eq _ _ _)) ((fup_comm _ _ _ (by decide)).trans (fup_cg (fup_comm _ _ _ (by decide)))) rfl) hF_5 (by decide) (by decide)
  refine TT_aload_n hK rfl 0 rfl dX12_beginReading_33 ?_
  refine iv_X12_216 hK (s_takeIn_e (setO g25_5 73 (fup (fup (fup (fup (h 73) 29 w) 33 (65536 * z25_5)) 38 n) 39 0)) hT_6 ) (by decide) rfl ⟨by decide, by decide⟩ (by decide) rfl rfl (Nat.le_of_ble_eq_true rfl) ⟨by decide, by decide⟩ dX12_beginReading_34 ?_
  intro r9 g34_7 hp9
  obtain ⟨⟨hT_7, hG_7⟩, hr9, p1_7, in_7⟩ := hp9
  rw [hr9]
  have hF_7 : FRM [73, 96, 97] [29, 32, 33, 34, 38, 39] h g34_7 := FRM_tr hF_6 hG_7 (by decide) (by decide)
  rw [show (setO g25_5 73 (fup (fup (fup (fup (h 73) 29 w) 33 (65536 * z25_5)) 38 n) 39 0)) 73 33 = 65536 * z25_5 from rd_ (sOf_eq _ _ _) ((fup_ne _ _ (by decide)).trans ((fup_ne _ _ (by decide)).trans (fup_eq _ _ _)))] at in_7
  rw [show (setO g25_5 73 (fup (fup (fup (fup (h 73) 29 w) 33 (65536 * z25_5)) 38 n) 39 0)) 73 38 = n from rd_ (sOf_eq _ _ _) ((fup_ne _ _ (by decide)).trans (fup_eq _ _ _))] at in_7
  rw [show (setO g25_5 73 (fup (fup (fup (fup (h 73) 29 w) 33 (65536 * z25_5)) 38 n) 39 0)) 73 39 = 0 from rd_ (sOf_eq _ _ _) (fup_eq _ _ _)] at in_7
  rw [show (setO g25_5 73 (fup (fup (fup (fup (h 73) 29 w) 33 (65536 * z25_5)) 38 n) 39 0)) 99 = h 99 from (sOf_ne _ _ (by decide)).trans (((hG_5.1 99 (by decide))).trans ((sOf_ne _ _ (by decide)).trans (hG_1.1 99 (by decide))))] at in_7
  have in_at34 := in_7
  show TT K ly 0 0 37 [(0, vR 73), (1, vI n), (2, vI w)] [] g34_7
  refine TT_aload_n hK rfl 0 rfl dX12_beginReading_37 ?_
  refine TT_ldc2 hK lc_X12_219 dX12_beginReading_38 ?_
  refine TT_aload_n hK rfl 0 rfl dX12_beginReading_41 ?_
  refine gf_X12_175 hK (by decide) rfl (v := (g34_7 73) 33) rfl dX12_beginReading_42 ?_
  have r8 := ty_73_33 (v := (g34_7 73) 33) hT_7 rfl
  refine TT_lmul hK dX12_beginReading_45 ?_
  refine TT_w64g (fun x46_9 hx9 hy46_9 => ?_)
  refine pf_X12_175 hK (by decide) rfl dX12_beginReading_46 ?_
  refine TT_hp (h' := setO g34_7 73 (fup (g34_7 73) 33 x46_9)) (up_can rfl rfl rfl) ?_
  have hT_10 : TY (setO g34_7 73 (fup (g34_7 73) 33 x46_9)) := tu_73_33 hT_7 (show up g34_7 73 33 x46_9 = (setO g34_7 73 (fup (g34_7 73) 33 x46_9)) from up_can rfl rfl rfl) (by omega)
  have hF_10 : FRM [73, 96, 97] [29, 32, 33, 34, 38, 39] h (setO g34_7 73 (fup (g34_7 73) 33 x46_9)) := FRM_f (show up g34_7 73 33 x46_9 = (setO g34_7 73 (fup (g34_7 73) 33 x46_9)) from up_can rfl rfl rfl) hF_7 (by decide) (by decide)
  refine TT_aload_n hK rfl 0 rfl dX12_beginReading_49 ?_
  refine TT_aload_n hK rfl 0 rfl dX12_beginReading_50 ?_
  refine gf_X12_178 hK (by decide) rfl (v := (g34_7 73) 34) (rd_ (sOf_eq _ _ _) (fup_ne _ _ (by decide))) dX12_beginReading_51 ?_
  have r11 := ty_73_34 (v := (g34_7 73) 34) hT_10 (rd_ (sOf_eq _ _ _) (fup_ne _ _ (by decide)))
  refine TT_bipush hK (by decide) dX12_beginReading_54 ?_
  refine TT_isub hK dX12_beginReading_56 ?_
  refine pf_X12_178 hK (by decide) rfl dX12_beginReading_57 ?_
  refine TT_hp (h' := setO g34_7 73 (fup (fup (g34_7 73) 33 x46_9) 34 (((g34_7 73) 34) - 7))) (up_can (sOf_eq _ _ _) rfl (setO_same _ _ _ _)) ?_
  have hT_12 : TY (setO g34_7 73 (fup (fup (g34_7 73) 33 x46_9) 34 (((g34_7 73) 34) - 7))) := tu_73_34 hT_10 (show up (setO g34_7 73 (fup (g34_7 73) 33 x46_9)) 73 34 (((g34_7 73) 34) - 7) = (setO g34_7 73 (fup (fup (g34_7 73) 33 x46_9) 34 (((g34_7 73) 34) - 7))) from up_can (sOf_eq _ _ _) rfl (setO_same _ _ _ _)) (by omega)
  have hF_12 : FRM [73, 96, 97] [29, 32, 33, 34, 38, 39] h (setO g34_7 73 (fup (fup (g34_7 73) 33 x46_9) 34 (((g34_7 73) 34) - 7))) := FRM_f (show up (setO g34_7 73 (fup (g34_7 73) 33 x46_9)) 73 34 (((g34_7 73) 34) - 7) = (setO g34_7 73 (fup (fup (g34_7 73) 33 x46_9) 34 (((g34_7 73) 34) - 7))) from up_can (sOf_eq _ _ _) rfl (setO_same _ _ _ _)) hF_10 (by decide) (by decide)
  refine TT_aload_n hK rfl 0 rfl dX12_beginReading_60 ?_
  refine TT_ldc2 hK lc_X12_169 dX12_beginReading_61 ?_
  refine pf_X12_171 hK (by decide) rfl dX12_beginReading_64 ?_
  refine TT_hp (h' := setO g34_7 73 (fup (fup (fup (g34_7 73) 32 32768) 33 x46_9) 34 (((g34_7 73) 34) - 7))) (up_can (sOf_eq _ _ _) ((fup_comm _ _ _ (by decide)).trans (fup_cg (fup_comm _ _ _ (by decide)))) (setO_same _ _ _ _)) ?_
  have hT_13 : TY (setO g34_7 73 (fup (fup (fup (g34_7 73) 32 32768) 33 x46_9) 34 (((g34_7 73) 34) - 7))) := tu_73_32 hT_12 (show up (setO g34_7 73 (fup (fup (g34_7 73) 33 x46_9) 34 (((g34_7 73) 34) - 7))) 73 32 32768 = (setO g34_7 73 (fup (fup (fup (g34_7 73) 32 32768) 33 x46_9) 34 (((g34_7 73) 34) - 7))) from up_can (sOf_eq _ _ _) ((fup_comm _ _ _ (by decide)).trans (fup_cg (fup_comm _ _ _ (by decide)))) (setO_same _ _ _ _)) (by omega)
  have hF_13 : FRM [73, 96, 97] [29, 32, 33, 34, 38, 39] h (setO g34_7 73 (fup (fup (fup (g34_7 73) 32 32768) 33 x46_9) 34 (((g34_7 73) 34) - 7))) := FRM_f (show up (setO g34_7 73 (fup (fup (g34_7 73) 33 x46_9) 34 (((g34_7 73) 34) - 7))) 73 32 32768 = (setO g34_7 73 (fup (fup (fup (g34_7 73) 32 32768) 33 x46_9) 34 (((g34_7 73) 34) - 7))) from up_can (sOf_eq _ _ _) ((fup_comm _ _ _ (by decide)).trans (fup_cg (fup_comm _ _ _ (by decide)))) (setO_same _ _ _ _)) hF_12 (by decide) (by decide)
  refine TT_vret hK hQ ?_ dX12_beginReading_67
  have e14_73_32 : (setO g34_7 73 (fup (fup (fup (g34_7 73) 32 32768) 33 x46_9) 34 (((g34_7 73) 34) - 7))) 73 32 = 32768 := rd_ (sOf_eq _ _ _) ((fup_ne _ _ (by decide)).trans ((fup_ne _ _ (by decide)).trans (fup_eq _ _ _)))
  have e15_73_29 : (setO g34_7 73 (fup (fup (fup (g34_7 73) 32 32768) 33 x46_9) 34 (((g34_7 73) 34) - 7))) 73 29 = w := (rd_ (sOf_eq _ _ _) ((fup_ne _ _ (by decide)).trans ((fup_ne _ _ (by decide)).trans (fup_ne _ _ (by decide))))).trans (((hG_7.2 29 (by decide))).trans (rd_ (sOf_eq _ _ _) ((fup_ne _ _ (by decide)).trans ((fup_ne _ _ (by decide)).trans ((fup_ne _ _ (by decide)).trans (fup_eq _ _ _))))))
  have e16_73_38 : (setO g34_7 73 (fup (fup (fup (g34_7 73) 32 32768) 33 x46_9) 34 (((g34_7 73) 34) - 7))) 73 38 = n := (rd_ (sOf_eq _ _ _) ((fup_ne _ _ (by decide)).trans ((fup_ne _ _ (by decide)).trans (fup_ne _ _ (by decide))))).trans (((hG_7.2 38 (by decide))).trans (rd_ (sOf_eq _ _ _) ((fup_ne _ _ (by decide)).trans (fup_eq _ _ _))))
  have e17_96 : (setO g34_7 73 (fup (fup (fup (g34_7 73) 32 32768) 33 x46_9) 34 (((g34_7 73) 34) - 7))) 96 = g1_1 96 := (sOf_ne _ _ (by decide)).trans (((hG_7.1 96 (by decide))).trans ((sOf_ne _ _ (by decide)).trans (((hG_5.1 96 (by decide))).trans (sOf_ne _ _ (by decide)))))
  have e18_97 : (setO g34_7 73 (fup (fup (fup (g34_7 73) 32 32768) 33 x46_9) 34 (((g34_7 73) 34) - 7))) 97 = g1_1 97 := (sOf_ne _ _ (by decide)).trans (((hG_7.1 97 (by decide))).trans ((sOf_ne _ _ (by decide)).trans (((hG_5.1 97 (by decide))).trans (sOf_ne _ _ (by decide)))))
  have e19_73_33 : (setO g34_7 73 (fup (fup (fup (g34_7 73) 32 32768) 33 x46_9) 34 (((g34_7 73) 34) - 7))) 73 33 = x46_9 := rd_ (sOf_eq _ _ _) ((fup_ne _ _ (by decide)).trans (fup_eq _ _ _))
  have e20_73_34 : (setO g34_7 73 (fup (fup (fup (g34_7 73) 32 32768) 33 x46_9) 34 (((g34_7 73) 34) - 7))) 73 34 = ((g34_7 73) 34) - 7 := rd_ (sOf_eq _ _ _) (fup_eq _ _ _)
  have e21_73_39 : (setO g34_7 73 (fup (fup (fup (g34_7 73) 32 32768) 33 x46_9) 34 (((g34_7 73) 34) - 7))) 73 39 = (g34_7 73) 39 := rd_ (sOf_eq _ _ _) ((fup_ne _ _ (by decide)).trans ((fup_ne _ _ (by decide)).trans (fup_ne _ _ (by decide))))
  exact ⟨⟨hT_13, hF_13⟩, rfl, (by rewrite [e14_73_32]; omega), (by rewrite [e15_73_29]; omega), (by rewrite [e16_73_38]; omega), (by rewrite [e17_96]; exact st_at1), (by rewrite [e18_97]; exact lk_at1), (by rewrite [e19_73_33, e20_73_34, e21_73_39]; intro hs9; have b0 := byS_r hs9 (Int.le_refl 0); have in9 := in_at34 (by omega); have i0 := inS_r hs9 (c := 65536 * byS (h 99) n 0) (p := 0) (Int.le_refl 0) (by omega); rw [e_at25] at in9; rw [← in9] at i0 ⊢; dsimp only at i0 ⊢; exact ⟨Prod.ext (by dsimp only; omega) (Prod.ext (by dsimp only) (by dsimp only)), ⟨by omega, by omega, by omega, by omega, by omega, by omega⟩, by omega⟩)⟩
set_option maxRecDepth 20000 in
theorem s_useWord_e (b : Int) (h : Hp_) (hT : TY h) (hb : 0 ≤ b ∧ b ≤ 9) (hmi : (h 90) b + (h 91) b ≤ 4400) : Ctr yX12_useWord cX12_useWord 3 none (rmd 0) ly ly 0 0 [vR 73, vI b] h (fun r h' => (TY h' ∧ FRM [99] [] h h') ∧ r = none ∧ (∀ j : Int, 0 ≤ j → j < (h 91) b → (h' 99) j = (h 89) ((h 90) b + j))) := by
  refine Ctr_of (by decide) (Nat.le_of_ble_eq_true rfl) ⟨Nat.le_refl _, Nat.le_refl _⟩ (fun K hK hQ _ => ?_)
  show TT K ly 0 0 0 [(0, vR 73), (1, vI b)] [] h
  have hF : FRM [99] [] h h := FRM_rf _ _ _
  refine TT_iconst hK dX12_useWord_0 ?_
  refine TT_istore_n hK rfl (lv' := [(2, vI 0), (0, vR 73), (1, vI b)]) (by decide) rfl dX12_useWord_1 ?_
  have L2_1 : ∀ (k1 : Nat) (i : Int) (w2_1 : Hp_), TY w2_1 → FRM [99] [] h w2_1 → (0 ≤ i ∧ i ≤ 4400) → (∀ j : Int, 0 ≤ j → j < i → (w2_1 99) j = h 89 (h 90 b + j)) → ((4400 : Int) - i).toNat < k1 → TT K ly 0 0 2 [(0, vR 73), (1, vI b), (2, vI i)] [] w2_1 := by
    intro k1
    induction k1 with
    | zero => intro i w2_1 hT2_1 hF2_1 hi hu hk1; exact absurd hk1 (Nat.not_lt_zero _)
    | succ k1 ih1 =>
      intro i w2_1 hT2_1 hF2_1 hi hu hk1
      refine TT_iload_n hK rfl 2 rfl dX12_useWord_2 ?_
      refine TT_aload_n hK rfl 0 rfl dX12_useWord_3 ?_
      refine gf_X12_69 hK (by decide) rfl (q := 91) rfl rfl dX12_useWord_4 ?_
      refine TT_iload_n hK rfl 1 rfl dX12_useWord_7 ?_
      refine TT_iald hK (o := 91) (n := 10) (by decide) rfl (by first | omega | (simp [up, setR] <;> omega)) (by first | omega | (simp [up, setR] <;> omega)) (v := (h 91) b) (rd_ (hF2_1.1 91 (by decide)) rfl) dX12_useWord_8 ?_
      have r2 := ty_91 (i := b) (v := (h 91) b) hT2_1 (rd_ (hF2_1.1 91 (by decide)) rfl) (by omega) (by omega)
      refine TT_icmp_ge hK (tgt := 37) (irm (by omega) (by omega)) (irm (by omega) (by omega)) dX12_useWord_9 (by decide) (fun hb9_3 => ?_) (fun hb9_3 => ?_)
      · refine TT_vret hK hQ ?_ dX12_useWord_37
        exact ⟨⟨hT2_1, hF2_1⟩, rfl, (by intro j h1 h2; exact hu j h1 (by omega))⟩
      · refine TT_aload_n hK rfl 0 rfl dX12_useWord_12 ?_
        refine gf_X12_93 hK (by decide) rfl (q := 99) rfl rfl dX12_useWord_13 ?_
        refine TT_iload_n hK rfl 2 rfl dX12_useWord_16 ?_
        refine TT_aload_n hK rfl 0 rfl dX12_useWord_17 ?_
        refine gf_X12_63 hK (by decide) rfl (q := 89) rfl rfl dX12_useWord_18 ?_
        refine TT_aload_n hK rfl 0 rfl dX12_useWord_21 ?_
        refine gf_X12_66 hK (by decide) rfl (q := 90) rfl rfl dX12_useWord_22 ?_
        refine TT_iload_n hK rfl 1 rfl dX12_useWord_25 ?_
        refine TT_iald hK (o := 90) (n := 10) (by decide) rfl (by first | omega | (simp [up, setR] <;> omega)) (by first | omega | (simp [up, setR] <;> omega)) (v := (h 90) b) (rd_ (hF2_1.1 90 (by decide)) rfl) dX12_useWord_26 ?_
        have r4 := ty_90 (i := b) (v := (h 90) b) hT2_1 (rd_ (hF2_1.1 90 (by decide)) rfl) (by omega) (by omega)
        refine TT_iload_n hK rfl 2 rfl dX12_useWord_27 ?_
        refine TT_iadd hK dX12_useWord_28 ?_
        refine TT_iald hK (o := 89) (n := 4400) (by decide) rfl (by first | omega | (simp [up, setR] <;> omega)) (by first | omega | (simp [up, setR] <;> omega)) (v := (h 89) (((h 90) b) + i)) (rd_ (hF2_1.1 89 (by decide)) rfl) dX12_useWord_29 ?_
        have r5 := ty_89 (i := ((h 90) b) + i) (v := (h 89) (((h 90) b) + i)) hT2_1 (rd_ (hF2_1.1 89 (by decide)) rfl) (by omega) (by omega)
        refine TT_iast hK (o := 99) (n := 4400) (by decide) rfl (by omega) (by omega) dX12_useWord_30 ?_
        refine TT_hp (h' := setO w2_1 99 (fup (w2_1 99) i ((h 89) (((h 90) b) + i)))) (up_can rfl rfl rfl) ?_
        have hT_6 : TY (setO w2_1 99 (fup (w2_1 99) i ((h 89) (((h 90) b) + i)))) := tu_99 hT2_1 (show up w2_1 99 i ((h 89) (((h 90) b) + i)) = (setO w2_1 99 (fup (w2_1 99) i ((h 89) (((h 90) b) + i)))) from up_can rfl rfl rfl) (by omega)
        have hF_6 : FRM [99] [] h (setO w2_1 99 (fup (w2_1 99) i ((h 89) (((h 90) b) + i)))) := FRM_up (show up w2_1 99 i ((h 89) (((h 90) b) + i)) = (setO w2_1 99 (fup (w2_1 99) i ((h 89) (((h 90) b) + i)))) from up_can rfl rfl rfl) hF2_1 (by decide) (by decide)
        refine TT_iinc hK (v := i + 1) (lv' := [(2, vI (i + 1)), (0, vR 73), (1, vI b)]) 2 rfl rfl (by decide) rfl dX12_useWord_31 ?_
        refine TT_goto hK (tgt := 2) dX12_useWord_34 (by decide) ?_
        refine TT_sub [1, 2, 0] rfl ?_
        have e7_99 : (setO w2_1 99 (fup (w2_1 99) i ((h 89) (((h 90) b) + i)))) 99 = fup (w2_1 99) i ((h 89) (((h 90) b) + i)) := sOf_eq _ _ _
        exact ih1 (i + 1) (setO w2_1 99 (fup (w2_1 99) i ((h 89) (((h 90) b) + i)))) hT_6 hF_6 (by first | omega | (simp [up, setR] <;> omega)) (by rewrite [e7_99]; intro j h1 h2; by_cases e : j = i; (rw [e, fup_eq]); (rw [fup_ne _ _ e]; exact hu j h1 (by omega))) (by first | omega | (simp [up, setR] <;> omega))
  refine TT_sub [1, 2, 0] rfl ?_
  exact L2_1 ((((4400 : Int) - 0).toNat) + 1) 0 h hT hF (by first | omega | (simp [up, setR] <;> omega)) (by intro j h1 h2; exfalso; omega) (Nat.lt_succ_self _)

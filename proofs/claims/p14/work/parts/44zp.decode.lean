set_option maxRecDepth 20000 in
theorem s_getHead_z (b : Int) (h : Hp_) (hT : TY h) (hb : 10 ≤ b ∧ b ≤ 19) : Ctr yX12_getHead cX12_getHead 4 none (rmd 3) ly ly 0 0 [vR 73, vI b] h (fun r h' => (TY h' ∧ FRM [73, 83, 86, 88, 104] [42, 43, 45, 50] h h') ∧ r = none ∧ (8 * (h 73 42) + (h 73 43) ≤ 8 * (h' 73 42) + (h' 73 43)) ∧ (∀ q : Int, q < 10 → (h' 83) q = (h 83) q)) := by
  refine Ctr_of (by decide) (Nat.le_of_ble_eq_true rfl) ⟨Nat.le_refl _, Nat.le_refl _⟩ (fun K hK hQ _ => ?_)
  show TT K ly 0 0 0 [(0, vR 73), (1, vI b)] [] h
  have hF : FRM [73, 83, 86, 88, 104] [42, 43, 45, 50] h h := FRM_rf _ _ _
  refine TT_aload_n hK rfl 0 rfl dX12_getHead_0 ?_
  refine TT_iconst hK dX12_getHead_1 ?_
  refine iv_X12_372 hK (s_X12_getBits_73 1 h hT (by first | omega | (simp [up, setR] <;> omega))) (by decide) rfl ⟨by decide, by decide⟩ (by decide) rfl rfl (Nat.le_of_ble_eq_true rfl) ⟨by decide, by decide⟩ dX12_getHead_2 ?_
  intro r9 g2_1 hp9
  obtain ⟨⟨hT_1, hG_1⟩, z2_1, hr9, hz_1, p2_1, p3_1, p6_1⟩ := hp9
  rw [hr9]
  have hF_1 : FRM [73, 83, 86, 88, 104] [42, 43, 45, 50] h g2_1 := FRM_tr hF hG_1 (by decide) (by decide)
  rw [show h 73 42 = (h 73) 42 from rfl] at p3_1
  rw [show h 73 43 = (h 73) 43 from rfl] at p3_1
  rw [show h 73 44 = (h 73) 44 from rfl] at p3_1
  rw [show h 73 42 = (h 73) 42 from rfl] at p6_1
  rw [show h 73 43 = (h 73) 43 from rfl] at p6_1
  show TT K ly 0 0 5 [(0, vR 73), (1, vI b)] [vI z2_1] g2_1
  refine TT_if_eq hK (tgt := 15) (irm (by omega) (by omega)) dX12_getHead_5 (by decide) (fun hb5_2 => ?_) (fun hb5_2 => ?_)
  · refine TT_vret hK hQ ?_ dX12_getHead_15
    have e3_73_42 : g2_1 73 42 = (g2_1 73) 42 := rfl
    have e4_73_43 : g2_1 73 43 = (g2_1 73) 43 := rfl
    have e5_83 : g2_1 83 = h 83 := (hG_1.1 83 (by decide))
    exact ⟨⟨hT_1, hF_1⟩, rfl, (by rewrite [e3_73_42, e4_73_43]; omega), (by rewrite [e5_83]; first | (intro q hq; rfl) | (intro q hq; exact fup_ne _ _ (by omega)))⟩
  · refine TT_aload_n hK rfl 0 rfl dX12_getHead_8 ?_
    refine gf_X12_365 hK (by decide) rfl (v := (g2_1 73) 45) rfl dX12_getHead_9 ?_
    have r6 := ty_73_45 (v := (g2_1 73) 45) hT_1 rfl
    refine TT_if_eq hK (tgt := 16) (irm (by omega) (by omega)) dX12_getHead_12 (by decide) (fun hb12_7 => ?_) (fun hb12_7 => ?_)
    · have J74_8 : ∀ (w74_8 : Hp_), TY w74_8 → FRM [73, 83, 86, 88, 104] [42, 43, 45, 50] h w74_8 → (8 * (h 73 42) + (h 73 43) ≤ 8 * (w74_8 73 42) + (w74_8 73 43)) → (∀ q : Int, q < 10 → (w74_8 83) q = h 83 q) → TT K ly 0 0 74 [(0, vR 73), (1, vI b)] [] w74_8 := by
        intro w74_8 hT74_8 hF74_8 hc1 k83i
        have J90_9 : ∀ (n : Int) (w90_9 : Hp_), TY w90_9 → FRM [73, 83, 86, 88, 104] [42, 43, 45, 50] h w90_9 → (1 ≤ n ∧ n ≤ 37) → (8 * (h 73 42) + (h 73 43) ≤ 8 * (w90_9 73 42) + (w90_9 73 43)) → (∀ q : Int, q < 10 → (w90_9 83) q = h 83 q) → TT K ly 0 0 90 [(0, vR 73), (1, vI b), (2, vI n)] [] w90_9 := by
          intro n w90_9 hT90_9 hF90_9 hn hc2 k83i
          have J129_10 : ∀ (w129_10 : Hp_), TY w129_10 → FRM [73, 83, 86, 88, 104] [42, 43, 45, 50] h w129_10 → (8 * (h 73 42) + (h 73 43) ≤ 8 * (w129_10 73 42) + (w129_10 73 43)) → (∀ q : Int, q < 10 → (w129_10 83) q = h 83 q) → TT K ly 0 0 129 [(0, vR 73), (1, vI b), (2, vI n)] [] w129_10 := by
            intro w129_10 hT129_10 hF129_10 hc3 k83i
            have J141_11 : ∀ (g0 : Int), (0 ≤ g0 ∧ g0 ≤ 1) → TT K ly 0 0 141 [(0, vR 73), (1, vI b), (2, vI n)] [vI g0] w129_10 := by
              intro g0 hg0
              refine TT_istore_n hK rfl (lv' := [(3, vI g0), (0, vR 73), (1, vI b), (2, vI n)]) (by decide) rfl dX12_getHead_141 ?_
              have L142_12 : ∀ (k12 : Nat) (gr : Int) (w142_12 : Hp_), TY w142_12 → FRM [73, 83, 86, 88, 104] [42, 43, 45, 50] h w142_12 → (0 ≤ gr ∧ gr ≤ 1) → (8 * (h 73 42) + (h 73 43) ≤ 8 * (w142_12 73 42) + (w142_12 73 43)) → (∀ q : Int, q < 10 → (w142_12 83) q = h 83 q) → (8 * (h 73 44) + 1 - (8 * (w142_12 73 42) + (w142_12 73 43))).toNat + gr.toNat < k12 → TT K ly 0 0 142 [(0, vR 73), (1, vI b), (2, vI n), (3, vI gr)] [] w142_12 := by
                intro k12
                induction k12 with
                | zero => intro gr w142_12 hT142_12 hF142_12 hgr hc4 k83i hk12; exact absurd hk12 (Nat.not_lt_zero _)
                | succ k12 ih12 =>
                  intro gr w142_12 hT142_12 hF142_12 hgr hc4 k83i hk12
                  refine TT_iload_n hK rfl 3 rfl dX12_getHead_142 ?_
                  refine TT_if_eq hK (tgt := 198) (irm (by omega) (by omega)) dX12_getHead_143 (by decide) (fun hb143_13 => ?_) (fun hb143_13 => ?_)
                  · refine TT_aload_n hK rfl 0 rfl dX12_getHead_198 ?_
                    refine gf_X12_375 hK (by decide) rfl (v := (w142_12 73) 50) rfl dX12_getHead_199 ?_
                    have r14 := ty_73_50 (v := (w142_12 73) 50) hT142_12 rfl
                    refine TT_if_ne hK (tgt := 259) (irm (by omega) (by omega)) dX12_getHead_202 (by decide) (fun hb202_15 => ?_) (fun hb202_15 => ?_)
                    · refine TT_vret hK hQ ?_ dX12_getHead_259
                      have e16_73_42 : w142_12 73 42 = (w142_12 73) 42 := rfl
                      have e17_73_43 : w142_12 73 43 = (w142_12 73) 43 := rfl
                      exact ⟨⟨hT142_12, hF142_12⟩, rfl, (by rewrite [e16_73_42, e17_73_43]; omega), (by first | exact k83i | (intro q hq; rfl) | (intro q hq; exact fup_ne _ _ (by omega)) | (intro q hq; rw [fup_ne _ _ (by omega)]; exact k83i q hq))⟩
                    · refine TT_aload_n hK rfl 0 rfl dX12_getHead_205 ?_
                      refine gf_X12_108 hK (by decide) rfl (q := 104) rfl rfl dX12_getHead_206 ?_
                      refine TT_iload_n hK rfl 1 rfl dX12_getHead_209 ?_
                      refine TT_bipush hK (by decide) dX12_getHead_210 ?_
                      refine TT_isub hK dX12_getHead_212 ?_
                      refine TT_aload_n hK rfl 0 rfl dX12_getHead_213 ?_
                      refine TT_aload_n hK rfl 0 rfl dX12_getHead_214 ?_
                      refine gf_X12_60 hK (by decide) rfl (q := 88) rfl rfl dX12_getHead_215 ?_
                      refine TT_iload_n hK rfl 1 rfl dX12_getHead_218 ?_
                      refine TT_iald hK (o := 88) (n := 20) (by decide) rfl (by first | omega | (simp [up, setR] <;> omega)) (by first | omega | (simp [up, setR] <;> omega)) (v := (w142_12 88) b) rfl dX12_getHead_219 ?_
                      have r18 := ty_88 (i := b) (v := (w142_12 88) b) hT142_12 rfl (by omega) (by omega)
                      refine TT_iload_n hK rfl 2 rfl dX12_getHead_220 ?_
                      refine iv_X12_323 hK (s_X12_log n w142_12 hT142_12 (by first | omega | (simp [up, setR] <;> omega))) ⟨by decide, by decide⟩ (by decide) rfl rfl (Nat.le_of_ble_eq_true rfl) ⟨by decide, by decide⟩ dX12_getHead_221 ?_
                      intro r9 g221_19 hp9
                      obtain ⟨⟨hT_19, hG_19⟩, z221_19, hr9, hz_19⟩ := hp9
                      rw [hr9]
                      have hF_19 : FRM [73, 83, 86, 88, 104] [42, 43, 45, 50] h g221_19 := FRM_tr hF142_12 hG_19 (by decide) (by decide)
                      show TT K ly 0 0 224 [(0, vR 73), (1, vI b), (2, vI n), (3, vI gr)] [vI z221_19, vI ((w142_12 88) b), vR 73, vI (b - 10), vR 104] g221_19
                      refine TT_iadd hK dX12_getHead_224 ?_
                      refine TT_w32 (fun x225_20 hx20 => ?_)
                      refine iv_X12_372 hK (s_X12_getBits_73 x225_20 g221_19 hT_19 (by first | omega | (simp [up, setR] <;> omega))) (by decide) rfl ⟨by decide, by decide⟩ (by decide) rfl rfl (Nat.le_of_ble_eq_true rfl) ⟨by decide, by decide⟩ dX12_getHead_225 ?_
                      intro r9 g225_21 hp9
                      obtain ⟨⟨hT_21, hG_21⟩, z225_21, hr9, hz_21, p2_21, p3_21, p6_21⟩ := hp9
                      rw [hr9]
                      have hF_21 : FRM [73, 83, 86, 88, 104] [42, 43, 45, 50] h g225_21 := FRM_tr hF_19 hG_21 (by decide) (by decide)
                      rw [show g221_19 73 42 = (w142_12 73) 42 from congrFun (hG_19.1 73 (by decide)) 42] at p3_21
                      rw [show g221_19 73 43 = (w142_12 73) 43 from congrFun (hG_19.1 73 (by decide)) 43] at p3_21
                      rw [show g221_19 73 44 = (h 73) 44 from (congrFun (hG_19.1 73 (by decide)) 44).trans (hF142_12.2 44 (by decide))] at p3_21
                      rw [show g221_19 73 42 = (w142_12 73) 42 from congrFun (hG_19.1 73 (by decide)) 42] at p6_21
                      rw [show g221_19 73 43 = (w142_12 73) 43 from congrFun (hG_19.1 73 (by decide)) 43] at p6_21
                      show TT K ly 0 0 228 [(0, vR 73), (1, vI b), (2, vI n), (3, vI gr)] [vI z225_21, vI (b - 10), vR 104] g225_21
                      refine TT_iast hK (o := 104) (n := 10) (by decide) rfl (by omega) (by omega) dX12_getHead_228 ?_
                      refine TT_hp (h' := setO g225_21 104 (fup (w142_12 104) (b - 10) z225_21)) (up_can (((hG_21.1 104 (by decide))).trans (hG_19.1 104 (by decide))) rfl rfl) ?_
                      have hT_22 : TY (setO g225_21 104 (fup (w142_12 104) (b - 10) z225_21)) := tu_104 hT_21 (show up g225_21 104 (b - 10) z225_21 = (setO g225_21 104 (fup (w142_12 104) (b - 10) z225_21)) from up_can (((hG_21.1 104 (by decide))).trans (hG_19.1 104 (by decide))) rfl rfl) (by omega)
                      have hF_22 : FRM [73, 83, 86, 88, 104] [42, 43, 45, 50] h (setO g225_21 104 (fup (w142_12 104) (b - 10) z225_21)) := FRM_up (show up g225_21 104 (b - 10) z225_21 = (setO g225_21 104 (fup (w142_12 104) (b - 10) z225_21)) from up_can (((hG_21.1 104 (by decide))).trans (hG_19.1 104 (by decide))) rfl rfl) hF_21 (by decide) (by decide)
                      refine TT_aload_n hK rfl 0 rfl dX12_getHead_229 ?_
                      refine gf_X12_54 hK (by decide) rfl (q := 86) rfl rfl dX12_getHead_230 ?_
                      refine TT_iload_n hK rfl 1 rfl dX12_getHead_233 ?_
                      refine TT_aload_n hK rfl 0 rfl dX12_getHead_234 ?_
                      refine gf_X12_365 hK (by decide) rfl (v := (g225_21 73) 45) (rd_ (sOf_ne _ _ (by decide)) rfl) dX12_getHead_235 ?_
                      have r23 := ty_73_45 (v := (g225_21 73) 45) hT_22 (rd_ (sOf_ne _ _ (by decide)) rfl)
                      refine TT_if_eq hK (tgt := 250) (irm (by omega) (by omega)) dX12_getHead_238 (by decide) (fun hb238_24 => ?_) (fun hb238_24 => ?_)
                      · refine TT_aload_n hK rfl 0 rfl dX12_getHead_250 ?_
                        refine gf_X12_54 hK (by decide) rfl (q := 86) rfl rfl dX12_getHead_251 ?_
                        refine TT_iload_n hK rfl 1 rfl dX12_getHead_254 ?_
                        refine TT_iald hK (o := 86) (n := 20) (by decide) rfl (by first | omega | (simp [up, setR] <;> omega)) (by first | omega | (simp [up, setR] <;> omega)) (v := (w142_12 86) b) (rd_ ((sOf_ne _ _ (by decide)).trans (((hG_21.1 86 (by decide))).trans (hG_19.1 86 (by decide)))) rfl) dX12_getHead_255 ?_
                        have r25 := ty_86 (i := b) (v := (w142_12 86) b) hT_22 (rd_ ((sOf_ne _ _ (by decide)).trans (((hG_21.1 86 (by decide))).trans (hG_19.1 86 (by decide)))) rfl) (by omega) (by omega)
                        refine TT_iload_n hK rfl 2 rfl dX12_getHead_256 ?_
                        refine TT_iadd hK dX12_getHead_257 ?_
                        refine TT_w32 (fun x258_26 hx26 => ?_)
                        refine TT_iast hK (o := 86) (n := 20) (by decide) rfl (by omega) (by omega) dX12_getHead_258 ?_
                        refine TT_hp (h' := setO (setO g225_21 86 (fup (w142_12 86) b x258_26)) 104 (fup (w142_12 104) (b - 10) z225_21)) (up_can ((sOf_ne _ _ (by decide)).trans (((hG_21.1 86 (by decide))).trans (hG_19.1 86 (by decide)))) rfl ((setO_comm _ _ _ (by decide)).trans (setO_cg rfl rfl))) ?_
                        have hT_27 : TY (setO (setO g225_21 86 (fup (w142_12 86) b x258_26)) 104 (fup (w142_12 104) (b - 10) z225_21)) := tu_86 hT_22 (show up (setO g225_21 104 (fup (w142_12 104) (b - 10) z225_21)) 86 b x258_26 = (setO (setO g225_21 86 (fup (w142_12 86) b x258_26)) 104 (fup (w142_12 104) (b - 10) z225_21)) from up_can ((sOf_ne _ _ (by decide)).trans (((hG_21.1 86 (by decide))).trans (hG_19.1 86 (by decide)))) rfl ((setO_comm _ _ _ (by decide)).trans (setO_cg rfl rfl))) (by omega)
                        have hF_27 : FRM [73, 83, 86, 88, 104] [42, 43, 45, 50] h (setO (setO g225_21 86 (fup (w142_12 86) b x258_26)) 104 (fup (w142_12 104) (b - 10) z225_21)) := FRM_up (show up (setO g225_21 104 (fup (w142_12 104) (b - 10) z225_21)) 86 b x258_26 = (setO (setO g225_21 86 (fup (w142_12 86) b x258_26)) 104 (fup (w142_12 104) (b - 10) z225_21)) from up_can ((sOf_ne _ _ (by decide)).trans (((hG_21.1 86 (by decide))).trans (hG_19.1 86 (by decide)))) rfl ((setO_comm _ _ _ (by decide)).trans (setO_cg rfl rfl))) hF_22 (by decide) (by decide)
                        refine TT_vret hK hQ ?_ dX12_getHead_259
                        have e28_73_42 : (setO (setO g225_21 86 (fup (w142_12 86) b x258_26)) 104 (fup (w142_12 104) (b - 10) z225_21)) 73 42 = (g225_21 73) 42 := rd_ ((sOf_ne _ _ (by decide)).trans (sOf_ne _ _ (by decide))) rfl
                        have e29_73_43 : (setO (setO g225_21 86 (fup (w142_12 86) b x258_26)) 104 (fup (w142_12 104) (b - 10) z225_21)) 73 43 = (g225_21 73) 43 := rd_ ((sOf_ne _ _ (by decide)).trans (sOf_ne _ _ (by decide))) rfl
                        have e30_83 : (setO (setO g225_21 86 (fup (w142_12 86) b x258_26)) 104 (fup (w142_12 104) (b - 10) z225_21)) 83 = w142_12 83 := (sOf_ne _ _ (by decide)).trans ((sOf_ne _ _ (by decide)).trans (((hG_21.1 83 (by decide))).trans (hG_19.1 83 (by decide))))
                        exact ⟨⟨hT_27, hF_27⟩, rfl, (by rewrite [e28_73_42, e29_73_43]; omega), (by rewrite [e30_83]; first | exact k83i | (intro q hq; rfl) | (intro q hq; exact fup_ne _ _ (by omega)) | (intro q hq; rw [fup_ne _ _ (by omega)]; exact k83i q hq))⟩
                      · refine TT_aload_n hK rfl 0 rfl dX12_getHead_241 ?_
                        refine gf_X12_54 hK (by decide) rfl (q := 86) rfl rfl dX12_getHead_242 ?_
                        refine TT_iload_n hK rfl 1 rfl dX12_getHead_245 ?_
                        refine TT_iald hK (o := 86) (n := 20) (by decide) rfl (by first | omega | (simp [up, setR] <;> omega)) (by first | omega | (simp [up, setR] <;> omega)) (v := (w142_12 86) b) (rd_ ((sOf_ne _ _ (by decide)).trans (((hG_21.1 86 (by decide))).trans (hG_19.1 86 (by decide)))) rfl) dX12_getHead_246 ?_
                        have r31 := ty_86 (i := b) (v := (w142_12 86) b) hT_22 (rd_ ((sOf_ne _ _ (by decide)).trans (((hG_21.1 86 (by decide))).trans (hG_19.1 86 (by decide)))) rfl) (by omega) (by omega)
                        refine TT_goto hK (tgt := 258) dX12_getHead_247 (by decide) ?_
                        refine TT_w32 (fun x258_32 hx32 => ?_)
                        refine TT_iast hK (o := 86) (n := 20) (by decide) rfl (by omega) (by omega) dX12_getHead_258 ?_
                        refine TT_hp (h' := setO (setO g225_21 86 (fup (w142_12 86) b x258_32)) 104 (fup (w142_12 104) (b - 10) z225_21)) (up_can ((sOf_ne _ _ (by decide)).trans (((hG_21.1 86 (by decide))).trans (hG_19.1 86 (by decide)))) rfl ((setO_comm _ _ _ (by decide)).trans (setO_cg rfl rfl))) ?_
                        have hT_33 : TY (setO (setO g225_21 86 (fup (w142_12 86) b x258_32)) 104 (fup (w142_12 104) (b - 10) z225_21)) := tu_86 hT_22 (show up (setO g225_21 104 (fup (w142_12 104) (b - 10) z225_21)) 86 b x258_32 = (setO (setO g225_21 86 (fup (w142_12 86) b x258_32)) 104 (fup (w142_12 104) (b - 10) z225_21)) from up_can ((sOf_ne _ _ (by decide)).trans (((hG_21.1 86 (by decide))).trans (hG_19.1 86 (by decide)))) rfl ((setO_comm _ _ _ (by decide)).trans (setO_cg rfl rfl))) (by omega)
                        have hF_33 : FRM [73, 83, 86, 88, 104] [42, 43, 45, 50] h (setO (setO g225_21 86 (fup (w142_12 86) b x258_32)) 104 (fup (w142_12 104) (b - 10) z225_21)) := FRM_up (show up (setO g225_21 104 (fup (w142_12 104) (b - 10) z225_21)) 86 b x258_32 = (setO (setO g225_21 86 (fup (w142_12 86) b x258_32)) 104 (fup (w142_12 104) (b - 10) z225_21)) from up_can ((sOf_ne _ _ (by decide)).trans (((hG_21.1 86 (by decide))).trans (hG_19.1 86 (by decide)))) rfl ((setO_comm _ _ _ (by decide)).trans (setO_cg rfl rfl))) hF_22 (by decide) (by decide)
                        refine TT_vret hK hQ ?_ dX12_getHead_259
                        have e34_73_42 : (setO (setO g225_21 86 (fup (w142_12 86) b x258_32)) 104 (fup (w142_12 104) (b - 10) z225_21)) 73 42 = (g225_21 73) 42 := rd_ ((sOf_ne _ _ (by decide)).trans (sOf_ne _ _ (by decide))) rfl
                        have e35_73_43 : (setO (setO g225_21 86 (fup (w142_12 86) b x258_32)) 104 (fup (w142_12 104) (b - 10) z225_21)) 73 43 = (g225_21 73) 43 := rd_ ((sOf_ne _ _ (by decide)).trans (sOf_ne _ _ (by decide))) rfl
                        have e36_83 : (setO (setO g225_21 86 (fup (w142_12 86) b x258_32)) 104 (fup (w142_12 104) (b - 10) z225_21)) 83 = w142_12 83 := (sOf_ne _ _ (by decide)).trans ((sOf_ne _ _ (by decide)).trans (((hG_21.1 83 (by decide))).trans (hG_19.1 83 (by decide))))
                        exact ⟨⟨hT_33, hF_33⟩, rfl, (by rewrite [e34_73_42, e35_73_43]; omega), (by rewrite [e36_83]; first | exact k83i | (intro q hq; rfl) | (intro q hq; exact fup_ne _ _ (by omega)) | (intro q hq; rw [fup_ne _ _ (by omega)]; exact k83i q hq))⟩
                  · refine TT_aload_n hK rfl 0 rfl dX12_getHead_146 ?_
                    refine TT_iconst hK dX12_getHead_147 ?_
                    refine iv_X12_372 hK (s_X12_getBits_73 1 w142_12 hT142_12 (by first | omega | (simp [up, setR] <;> omega))) (by decide) rfl ⟨by decide, by decide⟩ (by decide) rfl rfl (Nat.le_of_ble_eq_true rfl) ⟨by decide, by decide⟩ dX12_getHead_148 ?_
                    intro r9 g148_37 hp9
                    obtain ⟨⟨hT_37, hG_37⟩, z148_37, hr9, hz_37, p2_37, p3_37, p6_37⟩ := hp9
                    rw [hr9]
                    have hF_37 : FRM [73, 83, 86, 88, 104] [42, 43, 45, 50] h g148_37 := FRM_tr hF142_12 hG_37 (by decide) (by decide)
                    rw [show w142_12 73 42 = (w142_12 73) 42 from rfl] at p3_37
                    rw [show w142_12 73 43 = (w142_12 73) 43 from rfl] at p3_37
                    rw [show w142_12 73 44 = (h 73) 44 from (hF142_12.2 44 (by decide))] at p3_37
                    rw [show w142_12 73 42 = (w142_12 73) 42 from rfl] at p6_37
                    rw [show w142_12 73 43 = (w142_12 73) 43 from rfl] at p6_37
                    show TT K ly 0 0 151 [(0, vR 73), (1, vI b), (2, vI n), (3, vI gr)] [vI z148_37] g148_37
                    refine TT_iconst hK dX12_getHead_151 ?_
                    refine TT_icmp_ne hK (tgt := 166) (irm (by omega) (by omega)) (by decide) dX12_getHead_152 (by decide) (fun hb152_38 => ?_) (fun hb152_38 => ?_)
                    · refine TT_iconst hK dX12_getHead_166 ?_
                      refine TT_istore_n hK rfl (lv' := [(3, vI 0), (0, vR 73), (1, vI b), (2, vI n)]) (by decide) rfl dX12_getHead_167 ?_
                      refine TT_aload_n hK rfl 1 rfl dX12_getHead_168 ?_
                      refine gf_X12_60 hK (by decide) rfl (q := 88) rfl rfl dX12_getHead_169 ?_
                      refine TT_iload_n hK rfl 2 rfl dX12_getHead_172 ?_
                      refine TT_iload_n hK rfl 0 rfl dX12_getHead_173 ?_
                      refine TT_if_eq hK (tgt := 188) (by decide) dX12_getHead_174 (by decide) (fun hb174_39 => ?_) (fun hb174_39 => ?_)
                      · refine TT_aload_n hK rfl 1 rfl dX12_getHead_188 ?_
                        refine gf_X12_60 hK (by decide) rfl (q := 88) rfl rfl dX12_getHead_189 ?_
                        refine TT_iload_n hK rfl 2 rfl dX12_getHead_192 ?_
                        refine TT_iald hK (o := 88) (n := 20) (by decide) rfl (by first | omega | (simp [up, setR] <;> omega)) (by first | omega | (simp [up, setR] <;> omega)) (v := (w142_12 88) b) (rd_ (hG_37.1 88 (by decide)) rfl) dX12_getHead_193 ?_
                        have r40 := ty_88 (i := b) (v := (w142_12 88) b) hT_37 (rd_ (hG_37.1 88 (by decide)) rfl) (by omega) (by omega)
                        refine TT_iast hK (o := 88) (n := 20) (by decide) rfl (by omega) (by omega) dX12_getHead_194 ?_
                        refine TT_hp (h' := setO g148_37 88 (fup (w142_12 88) b ((w142_12 88) b))) (up_can (hG_37.1 88 (by decide)) rfl rfl) ?_
                        have hT_41 : TY (setO g148_37 88 (fup (w142_12 88) b ((w142_12 88) b))) := tu_88 hT_37 (show up g148_37 88 b ((w142_12 88) b) = (setO g148_37 88 (fup (w142_12 88) b ((w142_12 88) b))) from up_can (hG_37.1 88 (by decide)) rfl rfl) (by omega)
                        have hF_41 : FRM [73, 83, 86, 88, 104] [42, 43, 45, 50] h (setO g148_37 88 (fup (w142_12 88) b ((w142_12 88) b))) := FRM_up (show up g148_37 88 b ((w142_12 88) b) = (setO g148_37 88 (fup (w142_12 88) b ((w142_12 88) b))) from up_can (hG_37.1 88 (by decide)) rfl rfl) hF_37 (by decide) (by decide)
                        refine TT_goto hK (tgt := 142) dX12_getHead_195 (by decide) ?_
                        refine TT_sub [1, 2, 3, 0] rfl ?_
                        have e42_73_42 : (setO g148_37 88 (fup (w142_12 88) b ((w142_12 88) b))) 73 42 = (g148_37 73) 42 := rd_ (sOf_ne _ _ (by decide)) rfl
                        have e43_73_43 : (setO g148_37 88 (fup (w142_12 88) b ((w142_12 88) b))) 73 43 = (g148_37 73) 43 := rd_ (sOf_ne _ _ (by decide)) rfl
                        have e44_83 : (setO g148_37 88 (fup (w142_12 88) b ((w142_12 88) b))) 83 = w142_12 83 := (sOf_ne _ _ (by decide)).trans (hG_37.1 83 (by decide))
                        have e45_73_42 : (setO g148_37 88 (fup (w142_12 88) b ((w142_12 88) b))) 73 42 = (g148_37 73) 42 := rd_ (sOf_ne _ _ (by decide)) rfl
                        have e46_73_43 : (setO g148_37 88 (fup (w142_12 88) b ((w142_12 88) b))) 73 43 = (g148_37 73) 43 := rd_ (sOf_ne _ _ (by decide)) rfl
                        exact ih12 0 (setO g148_37 88 (fup (w142_12 88) b ((w142_12 88) b))) hT_41 hF_41 (by first | omega | (simp [up, setR] <;> omega)) (by rewrite [e42_73_42, e43_73_43]; first | omega | (simp [up, setR] <;> omega)) (by rewrite [e44_83]; first | exact k83i | (intro q hq; rfl) | (intro q hq; exact fup_ne _ _ (by omega)) | (intro q hq; rw [fup_ne _ _ (by omega)]; exact k83i q hq)) (by rewrite [e45_73_42, e46_73_43]; first | omega | (simp [up, setR] <;> omega))
                      · exact absurd hb174_39 (by decide)
                    · refine TT_aload_n hK rfl 0 rfl dX12_getHead_155 ?_
                      refine gf_X12_365 hK (by decide) rfl (v := (g148_37 73) 45) rfl dX12_getHead_156 ?_
                      have r47 := ty_73_45 (v := (g148_37 73) 45) hT_37 rfl
                      refine TT_if_ne hK (tgt := 166) (irm (by omega) (by omega)) dX12_getHead_159 (by decide) (fun hb159_48 => ?_) (fun hb159_48 => ?_)
                      · refine TT_iconst hK dX12_getHead_166 ?_
                        refine TT_istore_n hK rfl (lv' := [(3, vI 0), (0, vR 73), (1, vI b), (2, vI n)]) (by decide) rfl dX12_getHead_167 ?_
                        refine TT_aload_n hK rfl 1 rfl dX12_getHead_168 ?_
                        refine gf_X12_60 hK (by decide) rfl (q := 88) rfl rfl dX12_getHead_169 ?_
                        refine TT_iload_n hK rfl 2 rfl dX12_getHead_172 ?_
                        refine TT_iload_n hK rfl 0 rfl dX12_getHead_173 ?_
                        refine TT_if_eq hK (tgt := 188) (by decide) dX12_getHead_174 (by decide) (fun hb174_49 => ?_) (fun hb174_49 => ?_)
                        · refine TT_aload_n hK rfl 1 rfl dX12_getHead_188 ?_
                          refine gf_X12_60 hK (by decide) rfl (q := 88) rfl rfl dX12_getHead_189 ?_
                          refine TT_iload_n hK rfl 2 rfl dX12_getHead_192 ?_
                          refine TT_iald hK (o := 88) (n := 20) (by decide) rfl (by first | omega | (simp [up, setR] <;> omega)) (by first | omega | (simp [up, setR] <;> omega)) (v := (w142_12 88) b) (rd_ (hG_37.1 88 (by decide)) rfl) dX12_getHead_193 ?_
                          have r50 := ty_88 (i := b) (v := (w142_12 88) b) hT_37 (rd_ (hG_37.1 88 (by decide)) rfl) (by omega) (by omega)
                          refine TT_iast hK (o := 88) (n := 20) (by decide) rfl (by omega) (by omega) dX12_getHead_194 ?_
                          refine TT_hp (h' := setO g148_37 88 (fup (w142_12 88) b ((w142_12 88) b))) (up_can (hG_37.1 88 (by decide)) rfl rfl) ?_
                          have hT_51 : TY (setO g148_37 88 (fup (w142_12 88) b ((w142_12 88) b))) := tu_88 hT_37 (show up g148_37 88 b ((w142_12 88) b) = (setO g148_37 88 (fup (w142_12 88) b ((w142_12 88) b))) from up_can (hG_37.1 88 (by decide)) rfl rfl) (by omega)
                          have hF_51 : FRM [73, 83, 86, 88, 104] [42, 43, 45, 50] h (setO g148_37 88 (fup (w142_12 88) b ((w142_12 88) b))) := FRM_up (show up g148_37 88 b ((w142_12 88) b) = (setO g148_37 88 (fup (w142_12 88) b ((w142_12 88) b))) from up_can (hG_37.1 88 (by decide)) rfl rfl) hF_37 (by decide) (by decide)
                          refine TT_goto hK (tgt := 142) dX12_getHead_195 (by decide) ?_
                          refine TT_sub [1, 2, 3, 0] rfl ?_
                          have e52_73_42 : (setO g148_37 88 (fup (w142_12 88) b ((w142_12 88) b))) 73 42 = (g148_37 73) 42 := rd_ (sOf_ne _ _ (by decide)) rfl
                          have e53_73_43 : (setO g148_37 88 (fup (w142_12 88) b ((w142_12 88) b))) 73 43 = (g148_37 73) 43 := rd_ (sOf_ne _ _ (by decide)) rfl
                          have e54_83 : (setO g148_37 88 (fup (w142_12 88) b ((w142_12 88) b))) 83 = w142_12 83 := (sOf_ne _ _ (by decide)).trans (hG_37.1 83 (by decide))
                          have e55_73_42 : (setO g148_37 88 (fup (w142_12 88) b ((w142_12 88) b))) 73 42 = (g148_37 73) 42 := rd_ (sOf_ne _ _ (by decide)) rfl
                          have e56_73_43 : (setO g148_37 88 (fup (w142_12 88) b ((w142_12 88) b))) 73 43 = (g148_37 73) 43 := rd_ (sOf_ne _ _ (by decide)) rfl
                          exact ih12 0 (setO g148_37 88 (fup (w142_12 88) b ((w142_12 88) b))) hT_51 hF_51 (by first | omega | (simp [up, setR] <;> omega)) (by rewrite [e52_73_42, e53_73_43]; first | omega | (simp [up, setR] <;> omega)) (by rewrite [e54_83]; first | exact k83i | (intro q hq; rfl) | (intro q hq; exact fup_ne _ _ (by omega)) | (intro q hq; rw [fup_ne _ _ (by omega)]; exact k83i q hq)) (by rewrite [e55_73_42, e56_73_43]; first | omega | (simp [up, setR] <;> omega))
                        · exact absurd hb174_49 (by decide)
                      · refine TT_iconst hK dX12_getHead_162 ?_
                        refine TT_goto hK (tgt := 167) dX12_getHead_163 (by decide) ?_
                        refine TT_istore_n hK rfl (lv' := [(3, vI 1), (0, vR 73), (1, vI b), (2, vI n)]) (by decide) rfl dX12_getHead_167 ?_
                        refine TT_aload_n hK rfl 1 rfl dX12_getHead_168 ?_
                        refine gf_X12_60 hK (by decide) rfl (q := 88) rfl rfl dX12_getHead_169 ?_
                        refine TT_iload_n hK rfl 2 rfl dX12_getHead_172 ?_
                        refine TT_iload_n hK rfl 0 rfl dX12_getHead_173 ?_
                        refine TT_if_eq hK (tgt := 188) (by decide) dX12_getHead_174 (by decide) (fun hb174_57 => ?_) (fun hb174_57 => ?_)
                        · exact absurd hb174_57 (by decide)
                        · refine TT_aload_n hK rfl 1 rfl dX12_getHead_177 ?_
                          refine gf_X12_60 hK (by decide) rfl (q := 88) rfl rfl dX12_getHead_178 ?_
                          refine TT_iload_n hK rfl 2 rfl dX12_getHead_181 ?_
                          refine TT_iald hK (o := 88) (n := 20) (by decide) rfl (by first | omega | (simp [up, setR] <;> omega)) (by first | omega | (simp [up, setR] <;> omega)) (v := (w142_12 88) b) (rd_ (hG_37.1 88 (by decide)) rfl) dX12_getHead_182 ?_
                          have r58 := ty_88 (i := b) (v := (w142_12 88) b) hT_37 (rd_ (hG_37.1 88 (by decide)) rfl) (by omega) (by omega)
                          refine TT_iconst hK dX12_getHead_183 ?_
                          refine TT_iadd hK dX12_getHead_184 ?_
                          refine TT_w32 (fun x185_59 hx59 => ?_)
                          refine TT_goto hK (tgt := 194) dX12_getHead_185 (by decide) ?_
                          refine TT_iast hK (o := 88) (n := 20) (by decide) rfl (by omega) (by omega) dX12_getHead_194 ?_
                          refine TT_hp (h' := setO g148_37 88 (fup (w142_12 88) b x185_59)) (up_can (hG_37.1 88 (by decide)) rfl rfl) ?_
                          have hT_60 : TY (setO g148_37 88 (fup (w142_12 88) b x185_59)) := tu_88 hT_37 (show up g148_37 88 b x185_59 = (setO g148_37 88 (fup (w142_12 88) b x185_59)) from up_can (hG_37.1 88 (by decide)) rfl rfl) (by omega)
                          have hF_60 : FRM [73, 83, 86, 88, 104] [42, 43, 45, 50] h (setO g148_37 88 (fup (w142_12 88) b x185_59)) := FRM_up (show up g148_37 88 b x185_59 = (setO g148_37 88 (fup (w142_12 88) b x185_59)) from up_can (hG_37.1 88 (by decide)) rfl rfl) hF_37 (by decide) (by decide)
                          refine TT_goto hK (tgt := 142) dX12_getHead_195 (by decide) ?_
                          refine TT_sub [1, 2, 3, 0] rfl ?_
                          have e61_73_42 : (setO g148_37 88 (fup (w142_12 88) b x185_59)) 73 42 = (g148_37 73) 42 := rd_ (sOf_ne _ _ (by decide)) rfl
                          have e62_73_43 : (setO g148_37 88 (fup (w142_12 88) b x185_59)) 73 43 = (g148_37 73) 43 := rd_ (sOf_ne _ _ (by decide)) rfl
                          have e63_83 : (setO g148_37 88 (fup (w142_12 88) b x185_59)) 83 = w142_12 83 := (sOf_ne _ _ (by decide)).trans (hG_37.1 83 (by decide))
                          have e64_73_42 : (setO g148_37 88 (fup (w142_12 88) b x185_59)) 73 42 = (g148_37 73) 42 := rd_ (sOf_ne _ _ (by decide)) rfl
                          have e65_73_43 : (setO g148_37 88 (fup (w142_12 88) b x185_59)) 73 43 = (g148_37 73) 43 := rd_ (sOf_ne _ _ (by decide)) rfl
                          exact ih12 1 (setO g148_37 88 (fup (w142_12 88) b x185_59)) hT_60 hF_60 (by first | omega | (simp [up, setR] <;> omega)) (by rewrite [e61_73_42, e62_73_43]; first | omega | (simp [up, setR] <;> omega)) (by rewrite [e63_83]; first | exact k83i | (intro q hq; rfl) | (intro q hq; exact fup_ne _ _ (by omega)) | (intro q hq; rw [fup_ne _ _ (by omega)]; exact k83i q hq)) (by rewrite [e64_73_42, e65_73_43]; first | omega | (simp [up, setR] <;> omega))
              refine TT_sub [1, 2, 3, 0] rfl ?_
              have e66_73_42 : w129_10 73 42 = (w129_10 73) 42 := rfl
              have e67_73_43 : w129_10 73 43 = (w129_10 73) 43 := rfl
              exact L142_12 (((8 * (h 73 44) + 1 - (8 * (w129_10 73 42) + (w129_10 73 43))).toNat + g0.toNat) + 1) g0 w129_10 hT129_10 hF129_10 (by first | omega | (simp [up, setR] <;> omega)) (by rewrite [e66_73_42, e67_73_43]; first | omega | (simp [up, setR] <;> omega)) (by first | exact k83i | (intro q hq; rfl) | (intro q hq; exact fup_ne _ _ (by omega)) | (intro q hq; rw [fup_ne _ _ (by omega)]; exact k83i q hq)) (Nat.lt_succ_self _)
            refine TT_aload_n hK rfl 0 rfl dX12_getHead_129 ?_
            refine gf_X12_375 hK (by decide) rfl (v := (w129_10 73) 50) rfl dX12_getHead_130 ?_
            have r68 := ty_73_50 (v := (w129_10 73) 50) hT129_10 rfl
            refine TT_if_ne hK (tgt := 140) (irm (by omega) (by omega)) dX12_getHead_133 (by decide) (fun hb133_69 => ?_) (fun hb133_69 => ?_)
            · refine TT_iconst hK dX12_getHead_140 ?_
              exact J141_11 0 (by first | omega | (simp [up, setR] <;> omega))
            · refine TT_iconst hK dX12_getHead_136 ?_
              refine TT_goto hK (tgt := 141) dX12_getHead_137 (by decide) ?_
              exact J141_11 1 (by first | omega | (simp [up, setR] <;> omega))
          refine TT_aload_n hK rfl 0 rfl dX12_getHead_90 ?_
          refine TT_aload_n hK rfl 0 rfl dX12_getHead_91 ?_
          refine gf_X12_375 hK (by decide) rfl (v := (w90_9 73) 50) rfl dX12_getHead_92 ?_
          have r70 := ty_73_50 (v := (w90_9 73) 50) hT90_9 rfl
          refine TT_if_ne hK (tgt := 121) (irm (by omega) (by omega)) dX12_getHead_95 (by decide) (fun hb95_71 => ?_) (fun hb95_71 => ?_)
          · refine TT_iconst hK dX12_getHead_121 ?_
            refine TT_goto hK (tgt := 126) dX12_getHead_122 (by decide) ?_
            refine pf_X12_375 hK (by decide) rfl (by first | decide | omega) dX12_getHead_126 ?_
            refine TT_hp (h' := setO w90_9 73 (fup (w90_9 73) 50 1)) (up_can rfl rfl rfl) ?_
            have hT_72 : TY (setO w90_9 73 (fup (w90_9 73) 50 1)) := tu_73_50 hT90_9 (show up w90_9 73 50 1 = (setO w90_9 73 (fup (w90_9 73) 50 1)) from up_can rfl rfl rfl) (by omega)
            have hF_72 : FRM [73, 83, 86, 88, 104] [42, 43, 45, 50] h (setO w90_9 73 (fup (w90_9 73) 50 1)) := FRM_f (show up w90_9 73 50 1 = (setO w90_9 73 (fup (w90_9 73) 50 1)) from up_can rfl rfl rfl) hF90_9 (by decide) (by decide)
            have e73_73_42 : (setO w90_9 73 (fup (w90_9 73) 50 1)) 73 42 = (w90_9 73) 42 := rd_ (sOf_eq _ _ _) (fup_ne _ _ (by decide))
            have e74_73_43 : (setO w90_9 73 (fup (w90_9 73) 50 1)) 73 43 = (w90_9 73) 43 := rd_ (sOf_eq _ _ _) (fup_ne _ _ (by decide))
            have e75_83 : (setO w90_9 73 (fup (w90_9 73) 50 1)) 83 = w90_9 83 := sOf_ne _ _ (by decide)
            exact J129_10 (setO w90_9 73 (fup (w90_9 73) 50 1)) hT_72 hF_72 (by rewrite [e73_73_42, e74_73_43]; first | omega | (simp [up, setR] <;> omega)) (by rewrite [e75_83]; first | exact k83i | (intro q hq; rfl) | (intro q hq; exact fup_ne _ _ (by omega)) | (intro q hq; rw [fup_ne _ _ (by omega)]; exact k83i q hq))
          · refine TT_aload_n hK rfl 0 rfl dX12_getHead_98 ?_
            refine gf_X12_365 hK (by decide) rfl (v := (w90_9 73) 45) rfl dX12_getHead_99 ?_
            have r76 := ty_73_45 (v := (w90_9 73) 45) hT90_9 rfl
            refine TT_if_ne hK (tgt := 125) (irm (by omega) (by omega)) dX12_getHead_102 (by decide) (fun hb102_77 => ?_) (fun hb102_77 => ?_)
            · refine TT_iconst hK dX12_getHead_125 ?_
              refine pf_X12_375 hK (by decide) rfl (by first | decide | omega) dX12_getHead_126 ?_
              refine TT_hp (h' := setO w90_9 73 (fup (w90_9 73) 50 0)) (up_can rfl rfl rfl) ?_
              have hT_78 : TY (setO w90_9 73 (fup (w90_9 73) 50 0)) := tu_73_50 hT90_9 (show up w90_9 73 50 0 = (setO w90_9 73 (fup (w90_9 73) 50 0)) from up_can rfl rfl rfl) (by omega)
              have hF_78 : FRM [73, 83, 86, 88, 104] [42, 43, 45, 50] h (setO w90_9 73 (fup (w90_9 73) 50 0)) := FRM_f (show up w90_9 73 50 0 = (setO w90_9 73 (fup (w90_9 73) 50 0)) from up_can rfl rfl rfl) hF90_9 (by decide) (by decide)
              have e79_73_42 : (setO w90_9 73 (fup (w90_9 73) 50 0)) 73 42 = (w90_9 73) 42 := rd_ (sOf_eq _ _ _) (fup_ne _ _ (by decide))
              have e80_73_43 : (setO w90_9 73 (fup (w90_9 73) 50 0)) 73 43 = (w90_9 73) 43 := rd_ (sOf_eq _ _ _) (fup_ne _ _ (by decide))
              have e81_83 : (setO w90_9 73 (fup (w90_9 73) 50 0)) 83 = w90_9 83 := sOf_ne _ _ (by decide)
              exact J129_10 (setO w90_9 73 (fup (w90_9 73) 50 0)) hT_78 hF_78 (by rewrite [e79_73_42, e80_73_43]; first | omega | (simp [up, setR] <;> omega)) (by rewrite [e81_83]; first | exact k83i | (intro q hq; rfl) | (intro q hq; exact fup_ne _ _ (by omega)) | (intro q hq; rw [fup_ne _ _ (by omega)]; exact k83i q hq))
            · refine TT_aload_n hK rfl 0 rfl dX12_getHead_105 ?_
              refine gf_X12_54 hK (by decide) rfl (q := 86) rfl rfl dX12_getHead_106 ?_
              refine TT_iload_n hK rfl 1 rfl dX12_getHead_109 ?_
              refine TT_iald hK (o := 86) (n := 20) (by decide) rfl (by first | omega | (simp [up, setR] <;> omega)) (by first | omega | (simp [up, setR] <;> omega)) (v := (w90_9 86) b) rfl dX12_getHead_110 ?_
              have r82 := ty_86 (i := b) (v := (w90_9 86) b) hT90_9 rfl (by omega) (by omega)
              refine TT_iload_n hK rfl 2 rfl dX12_getHead_111 ?_
              refine TT_iadd hK dX12_getHead_112 ?_
              refine TT_w32 (fun x113_83 hx83 => ?_)
              refine TT_aload_n hK rfl 0 rfl dX12_getHead_113 ?_
              refine TT_iload_n hK rfl 1 rfl dX12_getHead_114 ?_
              refine iv_X12_296 hK (s_X12_passesOf_73 b w90_9 hT90_9 (by first | omega | (simp [up, setR] <;> omega))) (by decide) rfl ⟨by decide, by decide⟩ (by decide) rfl rfl (Nat.le_of_ble_eq_true rfl) ⟨by decide, by decide⟩ dX12_getHead_115 ?_
              intro r9 g115_84 hp9
              obtain ⟨⟨hT_84, hG_84⟩, z115_84, hr9, hz_84, p1_84⟩ := hp9
              rw [hr9]
              have hF_84 : FRM [73, 83, 86, 88, 104] [42, 43, 45, 50] h g115_84 := FRM_tr hF90_9 hG_84 (by decide) (by decide)
              show TT K ly 0 0 118 [(0, vR 73), (1, vI b), (2, vI n)] [vI z115_84, vI x113_83, vR 73] g115_84
              refine TT_icmp_le hK (tgt := 125) (irm (by omega) (by omega)) (irm (by omega) (by omega)) dX12_getHead_118 (by decide) (fun hb118_85 => ?_) (fun hb118_85 => ?_)
              · refine TT_iconst hK dX12_getHead_125 ?_
                refine pf_X12_375 hK (by decide) rfl (by first | decide | omega) dX12_getHead_126 ?_
                refine TT_hp (h' := setO g115_84 73 (fup (w90_9 73) 50 0)) (up_can (hG_84.1 73 (by decide)) rfl rfl) ?_
                have hT_86 : TY (setO g115_84 73 (fup (w90_9 73) 50 0)) := tu_73_50 hT_84 (show up g115_84 73 50 0 = (setO g115_84 73 (fup (w90_9 73) 50 0)) from up_can (hG_84.1 73 (by decide)) rfl rfl) (by omega)
                have hF_86 : FRM [73, 83, 86, 88, 104] [42, 43, 45, 50] h (setO g115_84 73 (fup (w90_9 73) 50 0)) := FRM_f (show up g115_84 73 50 0 = (setO g115_84 73 (fup (w90_9 73) 50 0)) from up_can (hG_84.1 73 (by decide)) rfl rfl) hF_84 (by decide) (by decide)
                have e87_73_42 : (setO g115_84 73 (fup (w90_9 73) 50 0)) 73 42 = (w90_9 73) 42 := rd_ (sOf_eq _ _ _) (fup_ne _ _ (by decide))
                have e88_73_43 : (setO g115_84 73 (fup (w90_9 73) 50 0)) 73 43 = (w90_9 73) 43 := rd_ (sOf_eq _ _ _) (fup_ne _ _ (by decide))
                have e89_83 : (setO g115_84 73 (fup (w90_9 73) 50 0)) 83 = w90_9 83 := (sOf_ne _ _ (by decide)).trans (hG_84.1 83 (by decide))
                exact J129_10 (setO g115_84 73 (fup (w90_9 73) 50 0)) hT_86 hF_86 (by rewrite [e87_73_42, e88_73_43]; first | omega | (simp [up, setR] <;> omega)) (by rewrite [e89_83]; first | exact k83i | (intro q hq; rfl) | (intro q hq; exact fup_ne _ _ (by omega)) | (intro q hq; rw [fup_ne _ _ (by omega)]; exact k83i q hq))
              · refine TT_iconst hK dX12_getHead_121 ?_
                refine TT_goto hK (tgt := 126) dX12_getHead_122 (by decide) ?_
                refine pf_X12_375 hK (by decide) rfl (by first | decide | omega) dX12_getHead_126 ?_
                refine TT_hp (h' := setO g115_84 73 (fup (w90_9 73) 50 1)) (up_can (hG_84.1 73 (by decide)) rfl rfl) ?_
                have hT_90 : TY (setO g115_84 73 (fup (w90_9 73) 50 1)) := tu_73_50 hT_84 (show up g115_84 73 50 1 = (setO g115_84 73 (fup (w90_9 73) 50 1)) from up_can (hG_84.1 73 (by decide)) rfl rfl) (by omega)
                have hF_90 : FRM [73, 83, 86, 88, 104] [42, 43, 45, 50] h (setO g115_84 73 (fup (w90_9 73) 50 1)) := FRM_f (show up g115_84 73 50 1 = (setO g115_84 73 (fup (w90_9 73) 50 1)) from up_can (hG_84.1 73 (by decide)) rfl rfl) hF_84 (by decide) (by decide)
                have e91_73_42 : (setO g115_84 73 (fup (w90_9 73) 50 1)) 73 42 = (w90_9 73) 42 := rd_ (sOf_eq _ _ _) (fup_ne _ _ (by decide))
                have e92_73_43 : (setO g115_84 73 (fup (w90_9 73) 50 1)) 73 43 = (w90_9 73) 43 := rd_ (sOf_eq _ _ _) (fup_ne _ _ (by decide))
                have e93_83 : (setO g115_84 73 (fup (w90_9 73) 50 1)) 83 = w90_9 83 := (sOf_ne _ _ (by decide)).trans (hG_84.1 83 (by decide))
                exact J129_10 (setO g115_84 73 (fup (w90_9 73) 50 1)) hT_90 hF_90 (by rewrite [e91_73_42, e92_73_43]; first | omega | (simp [up, setR] <;> omega)) (by rewrite [e93_83]; first | exact k83i | (intro q hq; rfl) | (intro q hq; exact fup_ne _ _ (by omega)) | (intro q hq; rw [fup_ne _ _ (by omega)]; exact k83i q hq))
        refine TT_aload_n hK rfl 0 rfl dX12_getHead_74 ?_
        refine gf_X12_375 hK (by decide) rfl (v := (w74_8 73) 50) rfl dX12_getHead_75 ?_
        have r94 := ty_73_50 (v := (w74_8 73) 50) hT74_8 rfl
        refine TT_if_eq hK (tgt := 85) (irm (by omega) (by omega)) dX12_getHead_78 (by decide) (fun hb78_95 => ?_) (fun hb78_95 => ?_)
        · refine TT_aload_n hK rfl 0 rfl dX12_getHead_85 ?_
          refine iv_X12_378 hK (s_X12_getPasses_73 w74_8 hT74_8 ) (by decide) rfl ⟨by decide, by decide⟩ (by decide) rfl rfl (Nat.le_of_ble_eq_true rfl) ⟨by decide, by decide⟩ dX12_getHead_86 ?_
          intro r9 g86_96 hp9
          obtain ⟨⟨hT_96, hG_96⟩, z86_96, hr9, hz_96, p6_96⟩ := hp9
          rw [hr9]
          have hF_96 : FRM [73, 83, 86, 88, 104] [42, 43, 45, 50] h g86_96 := FRM_tr hF74_8 hG_96 (by decide) (by decide)
          rw [show w74_8 73 42 = (w74_8 73) 42 from rfl] at p6_96
          rw [show w74_8 73 43 = (w74_8 73) 43 from rfl] at p6_96
          show TT K ly 0 0 89 [(0, vR 73), (1, vI b)] [vI z86_96] g86_96
          refine TT_istore_n hK rfl (lv' := [(2, vI z86_96), (0, vR 73), (1, vI b)]) (by decide) rfl dX12_getHead_89 ?_
          refine TT_sub [1, 2, 0] rfl ?_
          have e97_73_42 : g86_96 73 42 = (g86_96 73) 42 := rfl
          have e98_73_43 : g86_96 73 43 = (g86_96 73) 43 := rfl
          have e99_83 : g86_96 83 = w74_8 83 := (hG_96.1 83 (by decide))
          exact J90_9 z86_96 g86_96 hT_96 hF_96 (by first | omega | (simp [up, setR] <;> omega)) (by rewrite [e97_73_42, e98_73_43]; first | omega | (simp [up, setR] <;> omega)) (by rewrite [e99_83]; first | exact k83i | (intro q hq; rfl) | (intro q hq; exact fup_ne _ _ (by omega)) | (intro q hq; rw [fup_ne _ _ (by omega)]; exact k83i q hq))
        · refine TT_iconst hK dX12_getHead_81 ?_
          refine TT_goto hK (tgt := 89) dX12_getHead_82 (by decide) ?_
          refine TT_istore_n hK rfl (lv' := [(2, vI 1), (0, vR 73), (1, vI b)]) (by decide) rfl dX12_getHead_89 ?_
          refine TT_sub [1, 2, 0] rfl ?_
          have e100_73_42 : w74_8 73 42 = (w74_8 73) 42 := rfl
          have e101_73_43 : w74_8 73 43 = (w74_8 73) 43 := rfl
          exact J90_9 1 w74_8 hT74_8 hF74_8 (by first | omega | (simp [up, setR] <;> omega)) (by rewrite [e100_73_42, e101_73_43]; first | omega | (simp [up, setR] <;> omega)) (by first | exact k83i | (intro q hq; rfl) | (intro q hq; exact fup_ne _ _ (by omega)) | (intro q hq; rw [fup_ne _ _ (by omega)]; exact k83i q hq))
      refine TT_aload_n hK rfl 0 rfl dX12_getHead_16 ?_
      refine gf_X12_54 hK (by decide) rfl (q := 86) rfl rfl dX12_getHead_17 ?_
      refine TT_iload_n hK rfl 1 rfl dX12_getHead_20 ?_
      refine TT_iald hK (o := 86) (n := 20) (by decide) rfl (by first | omega | (simp [up, setR] <;> omega)) (by first | omega | (simp [up, setR] <;> omega)) (v := (h 86) b) (rd_ (hG_1.1 86 (by decide)) rfl) dX12_getHead_21 ?_
      have r102 := ty_86 (i := b) (v := (h 86) b) hT_1 (rd_ (hG_1.1 86 (by decide)) rfl) (by omega) (by omega)
      refine TT_if_ne hK (tgt := 74) (irm (by omega) (by omega)) dX12_getHead_22 (by decide) (fun hb22_103 => ?_) (fun hb22_103 => ?_)
      · have e104_73_42 : g2_1 73 42 = (g2_1 73) 42 := rfl
        have e105_73_43 : g2_1 73 43 = (g2_1 73) 43 := rfl
        have e106_83 : g2_1 83 = h 83 := (hG_1.1 83 (by decide))
        exact J74_8 g2_1 hT_1 hF_1 (by rewrite [e104_73_42, e105_73_43]; first | omega | (simp [up, setR] <;> omega)) (by rewrite [e106_83]; first | (intro q hq; rfl) | (intro q hq; exact fup_ne _ _ (by omega)))
      · refine TT_aload_n hK rfl 0 rfl dX12_getHead_25 ?_
        refine gf_X12_44 hK (by decide) rfl (q := 83) rfl rfl dX12_getHead_26 ?_
        refine TT_iload_n hK rfl 1 rfl dX12_getHead_29 ?_
        refine TT_aload_n hK rfl 0 rfl dX12_getHead_30 ?_
        refine TT_iconst hK dX12_getHead_31 ?_
        refine iv_X12_372 hK (s_X12_getBits_73 4 g2_1 hT_1 (by first | omega | (simp [up, setR] <;> omega))) (by decide) rfl ⟨by decide, by decide⟩ (by decide) rfl rfl (Nat.le_of_ble_eq_true rfl) ⟨by decide, by decide⟩ dX12_getHead_32 ?_
        intro r9 g32_107 hp9
        obtain ⟨⟨hT_107, hG_107⟩, z32_107, hr9, hz_107, p2_107, p3_107, p6_107⟩ := hp9
        rw [hr9]
        have hF_107 : FRM [73, 83, 86, 88, 104] [42, 43, 45, 50] h g32_107 := FRM_tr hF_1 hG_107 (by decide) (by decide)
        rw [show g2_1 73 42 = (g2_1 73) 42 from rfl] at p3_107
        rw [show g2_1 73 43 = (g2_1 73) 43 from rfl] at p3_107
        rw [show g2_1 73 44 = (h 73) 44 from (hG_1.2 44 (by decide))] at p3_107
        rw [show g2_1 73 42 = (g2_1 73) 42 from rfl] at p6_107
        rw [show g2_1 73 43 = (g2_1 73) 43 from rfl] at p6_107
        show TT K ly 0 0 35 [(0, vR 73), (1, vI b)] [vI z32_107, vI b, vR 83] g32_107
        refine TT_iast hK (o := 83) (n := 20) (by decide) rfl (by omega) (by omega) dX12_getHead_35 ?_
        refine TT_hp (h' := setO g32_107 83 (fup (h 83) b z32_107)) (up_can (((hG_107.1 83 (by decide))).trans (hG_1.1 83 (by decide))) rfl rfl) ?_
        have hT_108 : TY (setO g32_107 83 (fup (h 83) b z32_107)) := tu_83 hT_107 (show up g32_107 83 b z32_107 = (setO g32_107 83 (fup (h 83) b z32_107)) from up_can (((hG_107.1 83 (by decide))).trans (hG_1.1 83 (by decide))) rfl rfl) (by omega)
        have hF_108 : FRM [73, 83, 86, 88, 104] [42, 43, 45, 50] h (setO g32_107 83 (fup (h 83) b z32_107)) := FRM_up (show up g32_107 83 b z32_107 = (setO g32_107 83 (fup (h 83) b z32_107)) from up_can (((hG_107.1 83 (by decide))).trans (hG_1.1 83 (by decide))) rfl rfl) hF_107 (by decide) (by decide)
        refine TT_aload_n hK rfl 0 rfl dX12_getHead_36 ?_
        refine TT_aload_n hK rfl 0 rfl dX12_getHead_37 ?_
        refine gf_X12_375 hK (by decide) rfl (v := (h 73) 50) ((rd_ (sOf_ne _ _ (by decide)) rfl).trans (((hG_107.2 50 (by decide))).trans (hG_1.2 50 (by decide)))) dX12_getHead_38 ?_
        have r109 := ty_73_50 (v := (h 73) 50) hT_108 ((rd_ (sOf_ne _ _ (by decide)) rfl).trans (((hG_107.2 50 (by decide))).trans (hG_1.2 50 (by decide))))
        refine TT_if_ne hK (tgt := 66) (irm (by omega) (by omega)) dX12_getHead_41 (by decide) (fun hb41_110 => ?_) (fun hb41_110 => ?_)
        · refine TT_iconst hK dX12_getHead_66 ?_
          refine TT_goto hK (tgt := 71) dX12_getHead_67 (by decide) ?_
          refine pf_X12_375 hK (by decide) rfl (by first | decide | omega) dX12_getHead_71 ?_
          refine TT_hp (h' := setO (setO g32_107 73 (fup (g32_107 73) 50 1)) 83 (fup (h 83) b z32_107)) (up_can (sOf_ne _ _ (by decide)) rfl ((setO_comm _ _ _ (by decide)).trans (setO_cg rfl rfl))) ?_
          have hT_111 : TY (setO (setO g32_107 73 (fup (g32_107 73) 50 1)) 83 (fup (h 83) b z32_107)) := tu_73_50 hT_108 (show up (setO g32_107 83 (fup (h 83) b z32_107)) 73 50 1 = (setO (setO g32_107 73 (fup (g32_107 73) 50 1)) 83 (fup (h 83) b z32_107)) from up_can (sOf_ne _ _ (by decide)) rfl ((setO_comm _ _ _ (by decide)).trans (setO_cg rfl rfl))) (by omega)
          have hF_111 : FRM [73, 83, 86, 88, 104] [42, 43, 45, 50] h (setO (setO g32_107 73 (fup (g32_107 73) 50 1)) 83 (fup (h 83) b z32_107)) := FRM_f (show up (setO g32_107 83 (fup (h 83) b z32_107)) 73 50 1 = (setO (setO g32_107 73 (fup (g32_107 73) 50 1)) 83 (fup (h 83) b z32_107)) from up_can (sOf_ne _ _ (by decide)) rfl ((setO_comm _ _ _ (by decide)).trans (setO_cg rfl rfl))) hF_108 (by decide) (by decide)
          have e112_73_42 : (setO (setO g32_107 73 (fup (g32_107 73) 50 1)) 83 (fup (h 83) b z32_107)) 73 42 = (g32_107 73) 42 := rd_ ((sOf_ne _ _ (by decide)).trans (sOf_eq _ _ _)) (fup_ne _ _ (by decide))
          have e113_73_43 : (setO (setO g32_107 73 (fup (g32_107 73) 50 1)) 83 (fup (h 83) b z32_107)) 73 43 = (g32_107 73) 43 := rd_ ((sOf_ne _ _ (by decide)).trans (sOf_eq _ _ _)) (fup_ne _ _ (by decide))
          have e114_83 : (setO (setO g32_107 73 (fup (g32_107 73) 50 1)) 83 (fup (h 83) b z32_107)) 83 = fup (h 83) b z32_107 := sOf_eq _ _ _
          exact J74_8 (setO (setO g32_107 73 (fup (g32_107 73) 50 1)) 83 (fup (h 83) b z32_107)) hT_111 hF_111 (by rewrite [e112_73_42, e113_73_43]; first | omega | (simp [up, setR] <;> omega)) (by rewrite [e114_83]; first | (intro q hq; rfl) | (intro q hq; exact fup_ne _ _ (by omega)))
        · refine TT_aload_n hK rfl 0 rfl dX12_getHead_44 ?_
          refine gf_X12_365 hK (by decide) rfl (v := (g32_107 73) 45) (rd_ (sOf_ne _ _ (by decide)) rfl) dX12_getHead_45 ?_
          have r115 := ty_73_45 (v := (g32_107 73) 45) hT_108 (rd_ (sOf_ne _ _ (by decide)) rfl)
          refine TT_if_ne hK (tgt := 70) (irm (by omega) (by omega)) dX12_getHead_48 (by decide) (fun hb48_116 => ?_) (fun hb48_116 => ?_)
          · refine TT_iconst hK dX12_getHead_70 ?_
            refine pf_X12_375 hK (by decide) rfl (by first | decide | omega) dX12_getHead_71 ?_
            refine TT_hp (h' := setO (setO g32_107 73 (fup (g32_107 73) 50 0)) 83 (fup (h 83) b z32_107)) (up_can (sOf_ne _ _ (by decide)) rfl ((setO_comm _ _ _ (by decide)).trans (setO_cg rfl rfl))) ?_
            have hT_117 : TY (setO (setO g32_107 73 (fup (g32_107 73) 50 0)) 83 (fup (h 83) b z32_107)) := tu_73_50 hT_108 (show up (setO g32_107 83 (fup (h 83) b z32_107)) 73 50 0 = (setO (setO g32_107 73 (fup (g32_107 73) 50 0)) 83 (fup (h 83) b z32_107)) from up_can (sOf_ne _ _ (by decide)) rfl ((setO_comm _ _ _ (by decide)).trans (setO_cg rfl rfl))) (by omega)
            have hF_117 : FRM [73, 83, 86, 88, 104] [42, 43, 45, 50] h (setO (setO g32_107 73 (fup (g32_107 73) 50 0)) 83 (fup (h 83) b z32_107)) := FRM_f (show up (setO g32_107 83 (fup (h 83) b z32_107)) 73 50 0 = (setO (setO g32_107 73 (fup (g32_107 73) 50 0)) 83 (fup (h 83) b z32_107)) from up_can (sOf_ne _ _ (by decide)) rfl ((setO_comm _ _ _ (by decide)).trans (setO_cg rfl rfl))) hF_108 (by decide) (by decide)
            have e118_73_42 : (setO (setO g32_107 73 (fup (g32_107 73) 50 0)) 83 (fup (h 83) b z32_107)) 73 42 = (g32_107 73) 42 := rd_ ((sOf_ne _ _ (by decide)).trans (sOf_eq _ _ _)) (fup_ne _ _ (by decide))
            have e119_73_43 : (setO (setO g32_107 73 (fup (g32_107 73) 50 0)) 83 (fup (h 83) b z32_107)) 73 43 = (g32_107 73) 43 := rd_ ((sOf_ne _ _ (by decide)).trans (sOf_eq _ _ _)) (fup_ne _ _ (by decide))
            have e120_83 : (setO (setO g32_107 73 (fup (g32_107 73) 50 0)) 83 (fup (h 83) b z32_107)) 83 = fup (h 83) b z32_107 := sOf_eq _ _ _
            exact J74_8 (setO (setO g32_107 73 (fup (g32_107 73) 50 0)) 83 (fup (h 83) b z32_107)) hT_117 hF_117 (by rewrite [e118_73_42, e119_73_43]; first | omega | (simp [up, setR] <;> omega)) (by rewrite [e120_83]; first | (intro q hq; rfl) | (intro q hq; exact fup_ne _ _ (by omega)))
          · refine TT_aload_n hK rfl 0 rfl dX12_getHead_51 ?_
            refine gf_X12_44 hK (by decide) rfl (q := 83) rfl rfl dX12_getHead_52 ?_
            refine TT_iload_n hK rfl 1 rfl dX12_getHead_55 ?_
            refine TT_iald hK (o := 83) (n := 20) (by decide) rfl (by first | omega | (simp [up, setR] <;> omega)) (by first | omega | (simp [up, setR] <;> omega)) (v := z32_107) (rd_ (sOf_eq _ _ _) (fup_eq _ _ _)) dX12_getHead_56 ?_
            have r121 := ty_83 (i := b) (v := z32_107) hT_108 (rd_ (sOf_eq _ _ _) (fup_eq _ _ _)) (by omega) (by omega)
            refine TT_iconst hK dX12_getHead_57 ?_
            refine TT_bipush hK (by decide) dX12_getHead_58 ?_
            refine iv_X12_120 hK (s_X12_within z32_107 1 12 (setO g32_107 83 (fup (h 83) b z32_107)) hT_108 (by first | omega | (simp [up, setR] <;> omega)) (by first | omega | (simp [up, setR] <;> omega)) (by first | omega | (simp [up, setR] <;> omega))) ⟨by decide, by decide⟩ (by decide) rfl rfl (Nat.le_of_ble_eq_true rfl) ⟨by decide, by decide⟩ dX12_getHead_60 ?_
            intro r9 g60_122 hp9
            obtain ⟨⟨hT_122, hG_122⟩, z60_122, hr9, hz_122, p1_122, p2_122⟩ := hp9
            rw [hr9]
            have hF_122 : FRM [73, 83, 86, 88, 104] [42, 43, 45, 50] h g60_122 := FRM_tr hF_108 hG_122 (by decide) (by decide)
            show TT K ly 0 0 63 [(0, vR 73), (1, vI b)] [vI z60_122, vR 73] g60_122
            refine TT_if_ne hK (tgt := 70) (irm (by omega) (by omega)) dX12_getHead_63 (by decide) (fun hb63_123 => ?_) (fun hb63_123 => ?_)
            · refine TT_iconst hK dX12_getHead_70 ?_
              refine pf_X12_375 hK (by decide) rfl (by first | decide | omega) dX12_getHead_71 ?_
              refine TT_hp (h' := setO g60_122 73 (fup (g32_107 73) 50 0)) (up_can (((hG_122.1 73 (by decide))).trans (sOf_ne _ _ (by decide))) rfl rfl) ?_
              have hT_124 : TY (setO g60_122 73 (fup (g32_107 73) 50 0)) := tu_73_50 hT_122 (show up g60_122 73 50 0 = (setO g60_122 73 (fup (g32_107 73) 50 0)) from up_can (((hG_122.1 73 (by decide))).trans (sOf_ne _ _ (by decide))) rfl rfl) (by omega)
              have hF_124 : FRM [73, 83, 86, 88, 104] [42, 43, 45, 50] h (setO g60_122 73 (fup (g32_107 73) 50 0)) := FRM_f (show up g60_122 73 50 0 = (setO g60_122 73 (fup (g32_107 73) 50 0)) from up_can (((hG_122.1 73 (by decide))).trans (sOf_ne _ _ (by decide))) rfl rfl) hF_122 (by decide) (by decide)
              have e125_73_42 : (setO g60_122 73 (fup (g32_107 73) 50 0)) 73 42 = (g32_107 73) 42 := rd_ (sOf_eq _ _ _) (fup_ne _ _ (by decide))
              have e126_73_43 : (setO g60_122 73 (fup (g32_107 73) 50 0)) 73 43 = (g32_107 73) 43 := rd_ (sOf_eq _ _ _) (fup_ne _ _ (by decide))
              have e127_83 : (setO g60_122 73 (fup (g32_107 73) 50 0)) 83 = fup (h 83) b z32_107 := (sOf_ne _ _ (by decide)).trans (((hG_122.1 83 (by decide))).trans (sOf_eq _ _ _))
              exact J74_8 (setO g60_122 73 (fup (g32_107 73) 50 0)) hT_124 hF_124 (by rewrite [e125_73_42, e126_73_43]; first | omega | (simp [up, setR] <;> omega)) (by rewrite [e127_83]; first | (intro q hq; rfl) | (intro q hq; exact fup_ne _ _ (by omega)))
            · refine TT_iconst hK dX12_getHead_66 ?_
              refine TT_goto hK (tgt := 71) dX12_getHead_67 (by decide) ?_
              refine pf_X12_375 hK (by decide) rfl (by first | decide | omega) dX12_getHead_71 ?_
              refine TT_hp (h' := setO g60_122 73 (fup (g32_107 73) 50 1)) (up_can (((hG_122.1 73 (by decide))).trans (sOf_ne _ _ (by decide))) rfl rfl) ?_
              have hT_128 : TY (setO g60_122 73 (fup (g32_107 73) 50 1)) := tu_73_50 hT_122 (show up g60_122 73 50 1 = (setO g60_122 73 (fup (g32_107 73) 50 1)) from up_can (((hG_122.1 73 (by decide))).trans (sOf_ne _ _ (by decide))) rfl rfl) (by omega)
              have hF_128 : FRM [73, 83, 86, 88, 104] [42, 43, 45, 50] h (setO g60_122 73 (fup (g32_107 73) 50 1)) := FRM_f (show up g60_122 73 50 1 = (setO g60_122 73 (fup (g32_107 73) 50 1)) from up_can (((hG_122.1 73 (by decide))).trans (sOf_ne _ _ (by decide))) rfl rfl) hF_122 (by decide) (by decide)
              have e129_73_42 : (setO g60_122 73 (fup (g32_107 73) 50 1)) 73 42 = (g32_107 73) 42 := rd_ (sOf_eq _ _ _) (fup_ne _ _ (by decide))
              have e130_73_43 : (setO g60_122 73 (fup (g32_107 73) 50 1)) 73 43 = (g32_107 73) 43 := rd_ (sOf_eq _ _ _) (fup_ne _ _ (by decide))
              have e131_83 : (setO g60_122 73 (fup (g32_107 73) 50 1)) 83 = fup (h 83) b z32_107 := (sOf_ne _ _ (by decide)).trans (((hG_122.1 83 (by decide))).trans (sOf_eq _ _ _))
              exact J74_8 (setO g60_122 73 (fup (g32_107 73) 50 1)) hT_128 hF_128 (by rewrite [e129_73_42, e130_73_43]; first | omega | (simp [up, setR] <;> omega)) (by rewrite [e131_83]; first | (intro q hq; rfl) | (intro q hq; exact fup_ne _ _ (by omega)))
    · refine TT_vret hK hQ ?_ dX12_getHead_15
      have e132_73_42 : g2_1 73 42 = (g2_1 73) 42 := rfl
      have e133_73_43 : g2_1 73 43 = (g2_1 73) 43 := rfl
      have e134_83 : g2_1 83 = h 83 := (hG_1.1 83 (by decide))
      exact ⟨⟨hT_1, hF_1⟩, rfl, (by rewrite [e132_73_42, e133_73_43]; omega), (by rewrite [e134_83]; first | (intro q hq; rfl) | (intro q hq; exact fup_ne _ _ (by omega)))⟩
set_option maxRecDepth 20000 in
theorem s_getPacket_z (u f n : Int) (h : Hp_) (hT : TY h) (hu : 0 ≤ u ∧ u ≤ 3) (hf : 0 ≤ f ∧ f ≤ n) (hn : n ≤ 4400) (hp2 : ∀ j : Int, FS u ≤ j → j ≤ 3 * u → (h 103) j ≤ 2) (hps : PSQ (h 103) (h 102) f) (hpa : PAQ (h 103) (h 101) (h 102)) : Ctr yX12_getPacket cX12_getPacket 8 (some .int) (rmd 4) ly ly 0 0 [vR 73, vI u, vI f, vI n] h (fun r h' => (TY h' ∧ FRM [73, 83, 86, 87, 88, 101, 102, 103, 104] [42, 43, 44, 45, 50] h h') ∧ ∃ z : Int, r = some (vI z) ∧ (-1 ≤ z ∧ z ≤ 4400) ∧ (z ≤ n) ∧ (z < 0 → (h' 103) = (h 103) ∧ (h' 102) = (h 102) ∧ (h' 101) = (h 101)) ∧ (0 ≤ z → (∀ j : Int, (FS u ≤ j → j ≤ 3 * u → (h' 103) j = (h 103) j + 1) ∧ (j < FS u ∨ 3 * u < j → (h' 103) j = (h 103) j)) ∧ PSQ (h' 103) (h' 102) z ∧ PAQ (h' 103) (h' 101) (h' 102)) ∧ (∀ q : Int, q < 10 → (h' 83) q = (h 83) q)) := by
  refine Ctr_of (by decide) (Nat.le_of_ble_eq_true rfl) ⟨Nat.le_refl _, Nat.le_refl _⟩ (fun K hK hQ _ => ?_)
  show TT K ly 0 0 0 [(0, vR 73), (1, vI u), (2, vI f), (3, vI n)] [] h
  have hF : FRM [73, 83, 86, 87, 88, 101, 102, 103, 104] [42, 43, 44, 45, 50] h h := FRM_rf _ _ _
  have hfs := FS_r (r := u) hu
  refine TT_aload_n hK rfl 0 rfl dX12_getPacket_0 ?_
  refine TT_iload_n hK rfl 2 rfl dX12_getPacket_1 ?_
  refine pf_X12_311 hK (by decide) rfl dX12_getPacket_2 ?_
  refine TT_hp (h' := setO h 73 (fup (h 73) 42 f)) (up_can rfl rfl rfl) ?_
  have hT_1 : TY (setO h 73 (fup (h 73) 42 f)) := tu_73_42 hT (show up h 73 42 f = (setO h 73 (fup (h 73) 42 f)) from up_can rfl rfl rfl) (by omega)
  have hF_1 : FRM [73, 83, 86, 87, 88, 101, 102, 103, 104] [42, 43, 44, 45, 50] h (setO h 73 (fup (h 73) 42 f)) := FRM_f (show up h 73 42 f = (setO h 73 (fup (h 73) 42 f)) from up_can rfl rfl rfl) hF (by decide) (by decide)
  refine TT_aload_n hK rfl 0 rfl dX12_getPacket_5 ?_
  refine TT_iconst hK dX12_getPacket_6 ?_
  refine pf_X12_314 hK (by decide) rfl dX12_getPacket_7 ?_
  refine TT_hp (h' := setO h 73 (fup (fup (h 73) 42 f) 43 0)) (up_can (sOf_eq _ _ _) rfl (setO_same _ _ _ _)) ?_
  have hT_2 : TY (setO h 73 (fup (fup (h 73) 42 f) 43 0)) := tu_73_43 hT_1 (show up (setO h 73 (fup (h 73) 42 f)) 73 43 0 = (setO h 73 (fup (fup (h 73) 42 f) 43 0)) from up_can (sOf_eq _ _ _) rfl (setO_same _ _ _ _)) (by omega)
  have hF_2 : FRM [73, 83, 86, 87, 88, 101, 102, 103, 104] [42, 43, 44, 45, 50] h (setO h 73 (fup (fup (h 73) 42 f) 43 0)) := FRM_f (show up (setO h 73 (fup (h 73) 42 f)) 73 43 0 = (setO h 73 (fup (fup (h 73) 42 f) 43 0)) from up_can (sOf_eq _ _ _) rfl (setO_same _ _ _ _)) hF_1 (by decide) (by decide)
  refine TT_aload_n hK rfl 0 rfl dX12_getPacket_10 ?_
  refine TT_iload_n hK rfl 3 rfl dX12_getPacket_11 ?_
  refine pf_X12_368 hK (by decide) rfl dX12_getPacket_12 ?_
  refine TT_hp (h' := setO h 73 (fup (fup (fup (h 73) 42 f) 43 0) 44 n)) (up_can (sOf_eq _ _ _) rfl (setO_same _ _ _ _)) ?_
  have hT_3 : TY (setO h 73 (fup (fup (fup (h 73) 42 f) 43 0) 44 n)) := tu_73_44 hT_2 (show up (setO h 73 (fup (fup (h 73) 42 f) 43 0)) 73 44 n = (setO h 73 (fup (fup (fup (h 73) 42 f) 43 0) 44 n)) from up_can (sOf_eq _ _ _) rfl (setO_same _ _ _ _)) (by omega)
  have hF_3 : FRM [73, 83, 86, 87, 88, 101, 102, 103, 104] [42, 43, 44, 45, 50] h (setO h 73 (fup (fup (fup (h 73) 42 f) 43 0) 44 n)) := FRM_f (show up (setO h 73 (fup (fup (h 73) 42 f) 43 0)) 73 44 n = (setO h 73 (fup (fup (fup (h 73) 42 f) 43 0) 44 n)) from up_can (sOf_eq _ _ _) rfl (setO_same _ _ _ _)) hF_2 (by decide) (by decide)
  refine TT_aload_n hK rfl 0 rfl dX12_getPacket_15 ?_
  refine TT_iconst hK dX12_getPacket_16 ?_
  refine pf_X12_365 hK (by decide) rfl (by first | decide | omega) dX12_getPacket_17 ?_
  refine TT_hp (h' := setO h 73 (fup (fup (fup (fup (h 73) 42 f) 43 0) 44 n) 45 0)) (up_can (sOf_eq _ _ _) rfl (setO_same _ _ _ _)) ?_
  have hT_4 : TY (setO h 73 (fup (fup (fup (fup (h 73) 42 f) 43 0) 44 n) 45 0)) := tu_73_45 hT_3 (show up (setO h 73 (fup (fup (fup (h 73) 42 f) 43 0) 44 n)) 73 45 0 = (setO h 73 (fup (fup (fup (fup (h 73) 42 f) 43 0) 44 n) 45 0)) from up_can (sOf_eq _ _ _) rfl (setO_same _ _ _ _)) (by omega)
  have hF_4 : FRM [73, 83, 86, 87, 88, 101, 102, 103, 104] [42, 43, 44, 45, 50] h (setO h 73 (fup (fup (fup (fup (h 73) 42 f) 43 0) 44 n) 45 0)) := FRM_f (show up (setO h 73 (fup (fup (fup (h 73) 42 f) 43 0) 44 n)) 73 45 0 = (setO h 73 (fup (fup (fup (fup (h 73) 42 f) 43 0) 44 n) 45 0)) from up_can (sOf_eq _ _ _) rfl (setO_same _ _ _ _)) hF_3 (by decide) (by decide)
  refine TT_iconst hK dX12_getPacket_20 ?_
  refine TT_istore hK (lv' := [(4, vI 0), (0, vR 73), (1, vI u), (2, vI f), (3, vI n)]) (by decide) rfl dX12_getPacket_21 ?_
  have L23_5 : ∀ (k5 : Nat) (k : Int) (w23_5 : Hp_), TY w23_5 → FRM [73, 83, 86, 87, 88, 101, 102, 103, 104] [42, 43, 44, 45, 50] h w23_5 → (0 ≤ k ∧ k ≤ 10) → (8 * f ≤ 8 * (w23_5 73 42) + (w23_5 73 43)) → ((w23_5 101) = h 101) → ((w23_5 102) = h 102) → ((w23_5 103) = h 103) → (∀ q : Int, q < 10 → (w23_5 83) q = h 83 q) → ((10 : Int) - k).toNat < k5 → TT K ly 0 0 23 [(0, vR 73), (1, vI u), (2, vI f), (3, vI n), (4, vI k)] [] w23_5 := by
    intro k5
    induction k5 with
    | zero => intro k w23_5 hT23_5 hF23_5 hk hau k101 k102 k103 k83i hk5; exact absurd hk5 (Nat.not_lt_zero _)
    | succ k5 ih5 =>
      intro k w23_5 hT23_5 hF23_5 hk hau k101 k102 k103 k83i hk5
      refine TT_iload hK 4 rfl dX12_getPacket_23 ?_
      refine TT_bipush hK (by decide) dX12_getPacket_25 ?_
      refine TT_icmp_ge hK (tgt := 44) (irm (by omega) (by omega)) (by decide) dX12_getPacket_27 (by decide) (fun hb27_6 => ?_) (fun hb27_6 => ?_)
      · have J120_7 : ∀ (w120_7 : Hp_), TY w120_7 → FRM [73, 83, 86, 87, 88, 101, 102, 103, 104] [42, 43, 44, 45, 50] h w120_7 → ((w120_7 101) = h 101) → ((w120_7 102) = h 102) → ((w120_7 103) = h 103) → (8 * f ≤ 8 * (w120_7 73 42) + (w120_7 73 43)) → (∀ q : Int, q < 10 → (w120_7 83) q = h 83 q) → TT K ly 0 0 120 [(0, vR 73), (1, vI u), (2, vI f), (3, vI n)] [] w120_7 := by
          intro w120_7 hT120_7 hF120_7 k101 k102 k103 hau k83i
          have J142_8 : ∀ (pl : Int), (f ≤ pl ∧ pl ≤ 4401) → TT K ly 0 0 142 [(0, vR 73), (1, vI u), (2, vI f), (3, vI n)] [vJ pl] w120_7 := by
            intro pl hpl
            refine TT_lstore hK (lv' := [(4, vJ pl), (0, vR 73), (1, vI u), (2, vI f), (3, vI n)]) (by decide) rfl dX12_getPacket_142 ?_
            refine TT_lload hK 0 rfl dX12_getPacket_144 ?_
            refine TT_l2i hK dX12_getPacket_146 ?_
            refine TT_istore hK (lv' := [(6, vI pl), (4, vJ pl), (0, vR 73), (1, vI u), (2, vI f), (3, vI n)]) (by decide) rfl dX12_getPacket_147 ?_
            refine TT_iload_n hK rfl 3 rfl dX12_getPacket_149 ?_
            refine iv_X12_326 hK (s_X12_firstOf u w120_7 hT120_7 (by first | omega | (simp [up, setR] <;> omega))) ⟨by decide, by decide⟩ (by decide) rfl rfl (Nat.le_of_ble_eq_true rfl) ⟨by decide, by decide⟩ dX12_getPacket_150 ?_
            intro r9 g150_9 hp9
            obtain ⟨⟨hT_9, hG_9⟩, z150_9, hr9, hz_9, p1_9⟩ := hp9
            rw [hr9]
            have hF_9 : FRM [73, 83, 86, 87, 88, 101, 102, 103, 104] [42, 43, 44, 45, 50] h g150_9 := FRM_tr hF120_7 hG_9 (by decide) (by decide)
            have p1_at150 := p1_9
            show TT K ly 0 0 153 [(6, vI pl), (4, vJ pl), (0, vR 73), (1, vI u), (2, vI f), (3, vI n)] [vI z150_9] g150_9
            refine TT_istore hK (lv' := [(7, vI z150_9), (6, vI pl), (4, vJ pl), (0, vR 73), (1, vI u), (2, vI f), (3, vI n)]) (by decide) rfl dX12_getPacket_153 ?_
            have L155_10 : ∀ (k10 : Nat) (bh : Int) (m : Int) (T4 : Int → Int) (w155_10 : Hp_), TY w155_10 → FRM [73, 83, 86, 87, 88, 101, 102, 103, 104] [42, 43, 44, 45, 50] h w155_10 → (FS u ≤ m ∧ m ≤ 3 * u + 1) → ((w155_10 104) = T4) → (bh = pl + IS T4 m - IS T4 (FS u)) → (0 ≤ bh ∧ bh ≤ 4401 + 536870912 * (m - FS u)) → ((w155_10 101) = h 101) → ((w155_10 102) = h 102) → ((w155_10 103) = h 103) → (∀ q : Int, q < 10 → (w155_10 83) q = h 83 q) → (3 * u + 1 - m).toNat < k10 → TT K ly 0 0 155 [(0, vR 73), (1, vI u), (2, vI f), (3, vI n), (4, vJ bh), (6, vI pl), (7, vI m)] [] w155_10 := by
              intro k10
              induction k10 with
              | zero => intro bh m T4 w155_10 hT155_10 hF155_10 hb5 hT4 hbh hbh2 k101 k102 k103 k83i hk10; exact absurd hk10 (Nat.not_lt_zero _)
              | succ k10 ih10 =>
                intro bh m T4 w155_10 hT155_10 hF155_10 hb5 hT4 hbh hbh2 k101 k102 k103 k83i hk10
                refine TT_iload hK 6 rfl dX12_getPacket_155 ?_
                refine TT_iconst hK dX12_getPacket_157 ?_
                refine TT_iload_n hK rfl 1 rfl dX12_getPacket_158 ?_
                refine TT_imul hK dX12_getPacket_159 ?_
                refine TT_icmp_gt hK (tgt := 182) (irm (by omega) (by omega)) (irm (by omega) (by omega)) dX12_getPacket_160 (by decide) (fun hb160_11 => ?_) (fun hb160_11 => ?_)
                · have J204_12 : TT K ly 0 0 204 [(0, vR 73)] [] w155_10 := by
                    refine TT_iconst hK dX12_getPacket_204 ?_
                    refine TT_iret hK hQ ?_ dX12_getPacket_205
                    exact ⟨⟨hT155_10, hF155_10⟩, (-1), rfl, (by omega), (by omega), (by first | exact (fun _ => ⟨k103, k102, k101⟩) | (intro h1; exfalso; omega)), (by first | (intro h1; exfalso; omega)), (by first | exact k83i | (intro q hq; rfl) | (intro q hq; exact fup_ne _ _ (by omega)) | (intro q hq; rw [fup_ne _ _ (by omega)]; exact k83i q hq))⟩
                  have em : IS T4 m = IS T4 (3 * u + 1) := by rw [show m = 3 * u + 1 by omega]
                  refine TT_aload_n hK rfl 0 rfl dX12_getPacket_182 ?_
                  refine gf_X12_375 hK (by decide) rfl (v := (w155_10 73) 50) rfl dX12_getPacket_183 ?_
                  have r13 := ty_73_50 (v := (w155_10 73) 50) hT155_10 rfl
                  refine TT_if_ne hK (tgt := 204) (irm (by omega) (by omega)) dX12_getPacket_186 (by decide) (fun hb186_14 => ?_) (fun hb186_14 => ?_)
                  · refine TT_sub [0] rfl ?_
                    exact J204_12  
                  · refine TT_aload_n hK rfl 0 rfl dX12_getPacket_189 ?_
                    refine gf_X12_365 hK (by decide) rfl (v := (w155_10 73) 45) rfl dX12_getPacket_190 ?_
                    have r15 := ty_73_45 (v := (w155_10 73) 45) hT155_10 rfl
                    refine TT_if_ne hK (tgt := 204) (irm (by omega) (by omega)) dX12_getPacket_193 (by decide) (fun hb193_16 => ?_) (fun hb193_16 => ?_)
                    · refine TT_sub [0] rfl ?_
                      exact J204_12  
                    · refine TT_lload hK 4 rfl dX12_getPacket_196 ?_
                      refine TT_iload_n hK rfl 3 rfl dX12_getPacket_198 ?_
                      refine TT_i2l hK (irm (by omega) (by omega)) dX12_getPacket_199 ?_
                      refine TT_lcmp hK (lrm (by omega) (by omega)) (lrm (by omega) (by omega)) dX12_getPacket_200 ?_
                      refine TT_if_le hK (tgt := 206) (lcmp_ir _ _) dX12_getPacket_201 (by decide) (fun hb201_17 => ?_) (fun hb201_17 => ?_)
                      · have hb201_17 := lcmp_le hb201_17
                        have t4n : ∀ k : Int, 0 ≤ k → k < 3 * u + 1 → 0 ≤ T4 k := fun k h1 h2 => by rw [← hT4]; exact (ty_104 (i := k) hT155_10 rfl h1 (by omega)).1
                        refine TT_iload_n hK rfl 1 rfl dX12_getPacket_206 ?_
                        refine iv_X12_326 hK (s_X12_firstOf u w155_10 hT155_10 (by first | omega | (simp [up, setR] <;> omega))) ⟨by decide, by decide⟩ (by decide) rfl rfl (Nat.le_of_ble_eq_true rfl) ⟨by decide, by decide⟩ dX12_getPacket_207 ?_
                        intro r9 g207_18 hp9
                        obtain ⟨⟨hT_18, hG_18⟩, z207_18, hr9, hz_18, p1_18⟩ := hp9
                        rw [hr9]
                        have hF_18 : FRM [73, 83, 86, 87, 88, 101, 102, 103, 104] [42, 43, 44, 45, 50] h g207_18 := FRM_tr hF155_10 hG_18 (by decide) (by decide)
                        have p1_at207 := p1_18
                        show TT K ly 0 0 210 [(0, vR 73), (1, vI u), (2, vI f), (3, vI n), (4, vJ bh), (6, vI pl), (7, vI m)] [vI z207_18] g207_18
                        refine TT_istore hK (lv' := [(7, vI z207_18), (0, vR 73), (1, vI u), (2, vI f), (3, vI n), (4, vJ bh), (6, vI pl)]) (by decide) rfl dX12_getPacket_210 ?_
                        have L212_19 : ∀ (k19 : Nat) (pl2 : Int) (b : Int) (w212_19 : Hp_), TY w212_19 → FRM [73, 83, 86, 87, 88, 101, 102, 103, 104] [42, 43, 44, 45, 50] h w212_19 → (FS u ≤ b ∧ b ≤ 3 * u + 1) → ((w212_19 104) = T4) → (pl2 = pl + IS T4 b - IS T4 (FS u)) → (∀ j : Int, (FS u ≤ j → j < b → (w212_19 103) j = h 103 j + 1) ∧ (j < FS u ∨ b ≤ j → (w212_19 103) j = h 103 j)) → (PSQ (w212_19 103) (w212_19 102) pl2) → (PAQ (w212_19 103) (w212_19 101) (w212_19 102)) → (∀ q : Int, q < 10 → (w212_19 83) q = h 83 q) → (3 * u + 1 - b).toNat < k19 → TT K ly 0 0 212 [(0, vR 73), (1, vI u), (2, vI f), (3, vI n), (6, vI pl2), (7, vI b)] [] w212_19 := by
                          intro k19
                          induction k19 with
                          | zero => intro pl2 b w212_19 hT212_19 hF212_19 hb hT4b hpl2 hpc hps2 hpa2 k83i hk19; exact absurd hk19 (Nat.not_lt_zero _)
                          | succ k19 ih19 =>
                            intro pl2 b w212_19 hT212_19 hF212_19 hb hT4b hpl2 hpc hps2 hpa2 k83i hk19
                            have il := IS_mono (f := T4) (b := FS u) (c := b) (by omega) (by omega) (fun k h1 h2 => t4n k h1 (by omega))
                            refine TT_iload hK 5 rfl dX12_getPacket_212 ?_
                            refine TT_iconst hK dX12_getPacket_214 ?_
                            refine TT_iload_n hK rfl 1 rfl dX12_getPacket_215 ?_
                            refine TT_imul hK dX12_getPacket_216 ?_
                            refine TT_icmp_gt hK (tgt := 312) (irm (by omega) (by omega)) (irm (by omega) (by omega)) dX12_getPacket_217 (by decide) (fun hb217_20 => ?_) (fun hb217_20 => ?_)
                            · have eb : IS T4 b = IS T4 (3 * u + 1) := by rw [show b = 3 * u + 1 by omega]
                              refine TT_iload hK 4 rfl dX12_getPacket_312 ?_
                              refine TT_iret hK hQ ?_ dX12_getPacket_314
                              exact ⟨⟨hT212_19, hF212_19⟩, pl2, rfl, (by omega), (by omega), (by first | exact (fun _ => ⟨k103, k102, k101⟩) | (intro h1; exfalso; omega)), (by first | (intro h1; exfalso; omega) | exact (fun _ => ⟨fun j => ⟨fun h2 h3 => (hpc j).1 h2 (by omega), fun h2 => (hpc j).2 (by omega)⟩, hps2, hpa2⟩)), (by first | exact k83i | (intro q hq; rfl) | (intro q hq; exact fup_ne _ _ (by omega)) | (intro q hq; rw [fup_ne _ _ (by omega)]; exact k83i q hq))⟩
                            · have is1 : IS T4 (b + 1) = IS T4 b + T4 b := IS_s (by omega)
                              have e4 := congrFun hT4b b
                              have t4b := t4n b (by omega) (by omega)
                              have im := IS_mono (f := T4) (b := b + 1) (c := 3 * u + 1) (by omega) (by omega) t4n
                              have hpb := (hpc b).2 (Or.inr (Int.le_refl _))
                              have hp2b := hp2 b (by omega) (by omega)
                              refine TT_aload_n hK rfl 0 rfl dX12_getPacket_220 ?_
                              refine gf_X12_99 hK (by decide) rfl (q := 101) rfl rfl dX12_getPacket_221 ?_
                              refine TT_iconst hK dX12_getPacket_224 ?_
                              refine TT_iload hK 5 rfl dX12_getPacket_225 ?_
                              refine TT_imul hK dX12_getPacket_227 ?_
                              refine TT_aload_n hK rfl 0 rfl dX12_getPacket_228 ?_
                              refine gf_X12_105 hK (by decide) rfl (q := 103) rfl rfl dX12_getPacket_229 ?_
                              refine TT_iload hK 5 rfl dX12_getPacket_232 ?_
                              refine TT_iald hK (o := 103) (n := 10) (by decide) rfl (by first | omega | (simp [up, setR] <;> omega)) (by first | omega | (simp [up, setR] <;> omega)) (v := (w212_19 103) b) rfl dX12_getPacket_234 ?_
                              have r21 := ty_103 (i := b) (v := (w212_19 103) b) hT212_19 rfl (by omega) (by omega)
                              refine TT_iadd hK dX12_getPacket_235 ?_
                              refine TT_iload hK 4 rfl dX12_getPacket_236 ?_
                              refine TT_iast hK (o := 101) (n := 30) (by decide) rfl (by omega) (by omega) dX12_getPacket_238 ?_
                              refine TT_hp (h' := setO w212_19 101 (fup (w212_19 101) ((3 * b) + ((w212_19 103) b)) pl2)) (up_can rfl rfl rfl) ?_
                              have hT_22 : TY (setO w212_19 101 (fup (w212_19 101) ((3 * b) + ((w212_19 103) b)) pl2)) := tu_101 hT212_19 (show up w212_19 101 ((3 * b) + ((w212_19 103) b)) pl2 = (setO w212_19 101 (fup (w212_19 101) ((3 * b) + ((w212_19 103) b)) pl2)) from up_can rfl rfl rfl) (by omega)
                              have hF_22 : FRM [73, 83, 86, 87, 88, 101, 102, 103, 104] [42, 43, 44, 45, 50] h (setO w212_19 101 (fup (w212_19 101) ((3 * b) + ((w212_19 103) b)) pl2)) := FRM_up (show up w212_19 101 ((3 * b) + ((w212_19 103) b)) pl2 = (setO w212_19 101 (fup (w212_19 101) ((3 * b) + ((w212_19 103) b)) pl2)) from up_can rfl rfl rfl) hF212_19 (by decide) (by decide)
                              refine TT_aload_n hK rfl 0 rfl dX12_getPacket_239 ?_
                              refine gf_X12_102 hK (by decide) rfl (q := 102) rfl rfl dX12_getPacket_240 ?_
                              refine TT_iconst hK dX12_getPacket_243 ?_
                              refine TT_iload hK 5 rfl dX12_getPacket_244 ?_
                              refine TT_imul hK dX12_getPacket_246 ?_
                              refine TT_aload_n hK rfl 0 rfl dX12_getPacket_247 ?_
                              refine gf_X12_105 hK (by decide) rfl (q := 103) rfl rfl dX12_getPacket_248 ?_
                              refine TT_iload hK 5 rfl dX12_getPacket_251 ?_
                              refine TT_iald hK (o := 103) (n := 10) (by decide) rfl (by first | omega | (simp [up, setR] <;> omega)) (by first | omega | (simp [up, setR] <;> omega)) (v := (w212_19 103) b) (rd_ (sOf_ne _ _ (by decide)) rfl) dX12_getPacket_253 ?_
                              refine TT_iadd hK dX12_getPacket_254 ?_
                              refine TT_aload_n hK rfl 0 rfl dX12_getPacket_255 ?_
                              refine gf_X12_108 hK (by decide) rfl (q := 104) rfl rfl dX12_getPacket_256 ?_
                              refine TT_iload hK 5 rfl dX12_getPacket_259 ?_
                              refine TT_iald hK (o := 104) (n := 10) (by decide) rfl (by first | omega | (simp [up, setR] <;> omega)) (by first | omega | (simp [up, setR] <;> omega)) (v := (w212_19 104) b) (rd_ (sOf_ne _ _ (by decide)) rfl) dX12_getPacket_261 ?_
                              have r23 := ty_104 (i := b) (v := (w212_19 104) b) hT_22 (rd_ (sOf_ne _ _ (by decide)) rfl) (by omega) (by omega)
                              refine TT_iast hK (o := 102) (n := 30) (by decide) rfl (by omega) (by omega) dX12_getPacket_262 ?_
                              refine TT_hp (h' := setO (setO w212_19 101 (fup (w212_19 101) ((3 * b) + ((w212_19 103) b)) pl2)) 102 (fup (w212_19 102) ((3 * b) + ((w212_19 103) b)) ((w212_19 104) b))) (up_can (sOf_ne _ _ (by decide)) rfl rfl) ?_
                              have hT_24 : TY (setO (setO w212_19 101 (fup (w212_19 101) ((3 * b) + ((w212_19 103) b)) pl2)) 102 (fup (w212_19 102) ((3 * b) + ((w212_19 103) b)) ((w212_19 104) b))) := tu_102 hT_22 (show up (setO w212_19 101 (fup (w212_19 101) ((3 * b) + ((w212_19 103) b)) pl2)) 102 ((3 * b) + ((w212_19 103) b)) ((w212_19 104) b) = (setO (setO w212_19 101 (fup (w212_19 101) ((3 * b) + ((w212_19 103) b)) pl2)) 102 (fup (w212_19 102) ((3 * b) + ((w212_19 103) b)) ((w212_19 104) b))) from up_can (sOf_ne _ _ (by decide)) rfl rfl) (by omega)
                              have hF_24 : FRM [73, 83, 86, 87, 88, 101, 102, 103, 104] [42, 43, 44, 45, 50] h (setO (setO w212_19 101 (fup (w212_19 101) ((3 * b) + ((w212_19 103) b)) pl2)) 102 (fup (w212_19 102) ((3 * b) + ((w212_19 103) b)) ((w212_19 104) b))) := FRM_up (show up (setO w212_19 101 (fup (w212_19 101) ((3 * b) + ((w212_19 103) b)) pl2)) 102 ((3 * b) + ((w212_19 103) b)) ((w212_19 104) b) = (setO (setO w212_19 101 (fup (w212_19 101) ((3 * b) + ((w212_19 103) b)) pl2)) 102 (fup (w212_19 102) ((3 * b) + ((w212_19 103) b)) ((w212_19 104) b))) from up_can (sOf_ne _ _ (by decide)) rfl rfl) hF_22 (by decide) (by decide)
                              refine TT_aload_n hK rfl 0 rfl dX12_getPacket_263 ?_
                              refine gf_X12_105 hK (by decide) rfl (q := 103) rfl rfl dX12_getPacket_264 ?_
                              refine TT_iload hK 5 rfl dX12_getPacket_267 ?_
                              refine TT_dup2 hK rfl rfl dX12_getPacket_269 ?_
                              refine TT_iald hK (o := 103) (n := 10) (by decide) rfl (by first | omega | (simp [up, setR] <;> omega)) (by first | omega | (simp [up, setR] <;> omega)) (v := (w212_19 103) b) (rd_ ((sOf_ne _ _ (by decide)).trans (sOf_ne _ _ (by decide))) rfl) dX12_getPacket_270 ?_
                              refine TT_iconst hK dX12_getPacket_271 ?_
                              refine TT_iadd hK dX12_getPacket_272 ?_
                              refine TT_iast hK (o := 103) (n := 10) (by decide) rfl (by omega) (by omega) dX12_getPacket_273 ?_
                              refine TT_hp (h' := setO (setO (setO w212_19 101 (fup (w212_19 101) ((3 * b) + ((w212_19 103) b)) pl2)) 102 (fup (w212_19 102) ((3 * b) + ((w212_19 103) b)) ((w212_19 104) b))) 103 (fup (w212_19 103) b (((w212_19 103) b) + 1))) (up_can ((sOf_ne _ _ (by decide)).trans (sOf_ne _ _ (by decide))) rfl rfl) ?_
                              have hT_25 : TY (setO (setO (setO w212_19 101 (fup (w212_19 101) ((3 * b) + ((w212_19 103) b)) pl2)) 102 (fup (w212_19 102) ((3 * b) + ((w212_19 103) b)) ((w212_19 104) b))) 103 (fup (w212_19 103) b (((w212_19 103) b) + 1))) := tu_103 hT_24 (show up (setO (setO w212_19 101 (fup (w212_19 101) ((3 * b) + ((w212_19 103) b)) pl2)) 102 (fup (w212_19 102) ((3 * b) + ((w212_19 103) b)) ((w212_19 104) b))) 103 b (((w212_19 103) b) + 1) = (setO (setO (setO w212_19 101 (fup (w212_19 101) ((3 * b) + ((w212_19 103) b)) pl2)) 102 (fup (w212_19 102) ((3 * b) + ((w212_19 103) b)) ((w212_19 104) b))) 103 (fup (w212_19 103) b (((w212_19 103) b) + 1))) from up_can ((sOf_ne _ _ (by decide)).trans (sOf_ne _ _ (by decide))) rfl rfl) (by omega)
                              have hF_25 : FRM [73, 83, 86, 87, 88, 101, 102, 103, 104] [42, 43, 44, 45, 50] h (setO (setO (setO w212_19 101 (fup (w212_19 101) ((3 * b) + ((w212_19 103) b)) pl2)) 102 (fup (w212_19 102) ((3 * b) + ((w212_19 103) b)) ((w212_19 104) b))) 103 (fup (w212_19 103) b (((w212_19 103) b) + 1))) := FRM_up (show up (setO (setO w212_19 101 (fup (w212_19 101) ((3 * b) + ((w212_19 103) b)) pl2)) 102 (fup (w212_19 102) ((3 * b) + ((w212_19 103) b)) ((w212_19 104) b))) 103 b (((w212_19 103) b) + 1) = (setO (setO (setO w212_19 101 (fup (w212_19 101) ((3 * b) + ((w212_19 103) b)) pl2)) 102 (fup (w212_19 102) ((3 * b) + ((w212_19 103) b)) ((w212_19 104) b))) 103 (fup (w212_19 103) b (((w212_19 103) b) + 1))) from up_can ((sOf_ne _ _ (by decide)).trans (sOf_ne _ _ (by decide))) rfl rfl) hF_24 (by decide) (by decide)
                              refine TT_iload hK 4 rfl dX12_getPacket_274 ?_
                              refine TT_aload_n hK rfl 0 rfl dX12_getPacket_276 ?_
                              refine gf_X12_108 hK (by decide) rfl (q := 104) rfl rfl dX12_getPacket_277 ?_
                              refine TT_iload hK 5 rfl dX12_getPacket_280 ?_
                              refine TT_iald hK (o := 104) (n := 10) (by decide) rfl (by first | omega | (simp [up, setR] <;> omega)) (by first | omega | (simp [up, setR] <;> omega)) (v := (w212_19 104) b) (rd_ ((sOf_ne _ _ (by decide)).trans ((sOf_ne _ _ (by decide)).trans (sOf_ne _ _ (by decide)))) rfl) dX12_getPacket_282 ?_
                              refine TT_iadd hK dX12_getPacket_283 ?_
                              refine TT_istore hK (lv' := [(6, vI (pl2 + ((w212_19 104) b))), (0, vR 73), (1, vI u), (2, vI f), (3, vI n), (7, vI b)]) (by decide) rfl dX12_getPacket_284 ?_
                              refine TT_aload_n hK rfl 1 rfl dX12_getPacket_286 ?_
                              refine gf_X12_57 hK (by decide) rfl (q := 87) rfl rfl dX12_getPacket_287 ?_
                              refine TT_bipush hK (by decide) dX12_getPacket_290 ?_
                              refine TT_iload hK 5 rfl dX12_getPacket_292 ?_
                              refine TT_iadd hK dX12_getPacket_294 ?_
                              refine TT_aload_n hK rfl 1 rfl dX12_getPacket_295 ?_
                              refine gf_X12_54 hK (by decide) rfl (q := 86) rfl rfl dX12_getPacket_296 ?_
                              refine TT_bipush hK (by decide) dX12_getPacket_299 ?_
                              refine TT_iload hK 5 rfl dX12_getPacket_301 ?_
                              refine TT_iadd hK dX12_getPacket_303 ?_
                              refine TT_iald hK (o := 86) (n := 20) (by decide) rfl (by first | omega | (simp [up, setR] <;> omega)) (by first | omega | (simp [up, setR] <;> omega)) (v := (w212_19 86) (10 + b)) (rd_ ((sOf_ne _ _ (by decide)).trans ((sOf_ne _ _ (by decide)).trans (sOf_ne _ _ (by decide)))) rfl) dX12_getPacket_304 ?_
                              have r26 := ty_86 (i := 10 + b) (v := (w212_19 86) (10 + b)) hT_25 (rd_ ((sOf_ne _ _ (by decide)).trans ((sOf_ne _ _ (by decide)).trans (sOf_ne _ _ (by decide)))) rfl) (by omega) (by omega)
                              refine TT_iast hK (o := 87) (n := 20) (by decide) rfl (by omega) (by omega) dX12_getPacket_305 ?_
                              refine TT_hp (h' := setO (setO (setO (setO w212_19 87 (fup (w212_19 87) (10 + b) ((w212_19 86) (10 + b)))) 101 (fup (w212_19 101) ((3 * b) + ((w212_19 103) b)) pl2)) 102 (fup (w212_19 102) ((3 * b) + ((w212_19 103) b)) ((w212_19 104) b))) 103 (fup (w212_19 103) b (((w212_19 103) b) + 1))) (up_can ((sOf_ne _ _ (by decide)).trans ((sOf_ne _ _ (by decide)).trans (sOf_ne _ _ (by decide)))) rfl ((setO_comm _ _ _ (by decide)).trans (setO_cg ((setO_comm _ _ _ (by decide)).trans (setO_cg ((setO_comm _ _ _ (by decide)).trans (setO_cg rfl rfl)) rfl)) rfl))) ?_
                              have hT_27 : TY (setO (setO (setO (setO w212_19 87 (fup (w212_19 87) (10 + b) ((w212_19 86) (10 + b)))) 101 (fup (w212_19 101) ((3 * b) + ((w212_19 103) b)) pl2)) 102 (fup (w212_19 102) ((3 * b) + ((w212_19 103) b)) ((w212_19 104) b))) 103 (fup (w212_19 103) b (((w212_19 103) b) + 1))) := tu_87 hT_25 (show up (setO (setO (setO w212_19 101 (fup (w212_19 101) ((3 * b) + ((w212_19 103) b)) pl2)) 102 (fup (w212_19 102) ((3 * b) + ((w212_19 103) b)) ((w212_19 104) b))) 103 (fup (w212_19 103) b (((w212_19 103) b) + 1))) 87 (10 + b) ((w212_19 86) (10 + b)) = (setO (setO (setO (setO w212_19 87 (fup (w212_19 87) (10 + b) ((w212_19 86) (10 + b)))) 101 (fup (w212_19 101) ((3 * b) + ((w212_19 103) b)) pl2)) 102 (fup (w212_19 102) ((3 * b) + ((w212_19 103) b)) ((w212_19 104) b))) 103 (fup (w212_19 103) b (((w212_19 103) b) + 1))) from up_can ((sOf_ne _ _ (by decide)).trans ((sOf_ne _ _ (by decide)).trans (sOf_ne _ _ (by decide)))) rfl ((setO_comm _ _ _ (by decide)).trans (setO_cg ((setO_comm _ _ _ (by decide)).trans (setO_cg ((setO_comm _ _ _ (by decide)).trans (setO_cg rfl rfl)) rfl)) rfl))) (by omega)
                              have hF_27 : FRM [73, 83, 86, 87, 88, 101, 102, 103, 104] [42, 43, 44, 45, 50] h (setO (setO (setO (setO w212_19 87 (fup (w212_19 87) (10 + b) ((w212_19 86) (10 + b)))) 101 (fup (w212_19 101) ((3 * b) + ((w212_19 103) b)) pl2)) 102 (fup (w212_19 102) ((3 * b) + ((w212_19 103) b)) ((w212_19 104) b))) 103 (fup (w212_19 103) b (((w212_19 103) b) + 1))) := FRM_up (show up (setO (setO (setO w212_19 101 (fup (w212_19 101) ((3 * b) + ((w212_19 103) b)) pl2)) 102 (fup (w212_19 102) ((3 * b) + ((w212_19 103) b)) ((w212_19 104) b))) 103 (fup (w212_19 103) b (((w212_19 103) b) + 1))) 87 (10 + b) ((w212_19 86) (10 + b)) = (setO (setO (setO (setO w212_19 87 (fup (w212_19 87) (10 + b) ((w212_19 86) (10 + b)))) 101 (fup (w212_19 101) ((3 * b) + ((w212_19 103) b)) pl2)) 102 (fup (w212_19 102) ((3 * b) + ((w212_19 103) b)) ((w212_19 104) b))) 103 (fup (w212_19 103) b (((w212_19 103) b) + 1))) from up_can ((sOf_ne _ _ (by decide)).trans ((sOf_ne _ _ (by decide)).trans (sOf_ne _ _ (by decide)))) rfl ((setO_comm _ _ _ (by decide)).trans (setO_cg ((setO_comm _ _ _ (by decide)).trans (setO_cg ((setO_comm _ _ _ (by decide)).trans (setO_cg rfl rfl)) rfl)) rfl))) hF_25 (by decide) (by decide)
                              refine TT_iinc hK (v := b + 1) (lv' := [(7, vI (b + 1)), (6, vI (pl2 + ((w212_19 104) b))), (0, vR 73), (1, vI u), (2, vI f), (3, vI n)]) 5 rfl rfl (by decide) rfl dX12_getPacket_306 ?_
                              refine TT_goto hK (tgt := 212) dX12_getPacket_309 (by decide) ?_
                              refine TT_sub [2, 3, 4, 5, 1, 0] rfl ?_
                              have e28_104 : (setO (setO (setO (setO w212_19 87 (fup (w212_19 87) (10 + b) ((w212_19 86) (10 + b)))) 101 (fup (w212_19 101) ((3 * b) + ((w212_19 103) b)) pl2)) 102 (fup (w212_19 102) ((3 * b) + ((w212_19 103) b)) ((w212_19 104) b))) 103 (fup (w212_19 103) b (((w212_19 103) b) + 1))) 104 = w212_19 104 := (sOf_ne _ _ (by decide)).trans ((sOf_ne _ _ (by decide)).trans ((sOf_ne _ _ (by decide)).trans (sOf_ne _ _ (by decide))))
                              have e29_103 : (setO (setO (setO (setO w212_19 87 (fup (w212_19 87) (10 + b) ((w212_19 86) (10 + b)))) 101 (fup (w212_19 101) ((3 * b) + ((w212_19 103) b)) pl2)) 102 (fup (w212_19 102) ((3 * b) + ((w212_19 103) b)) ((w212_19 104) b))) 103 (fup (w212_19 103) b (((w212_19 103) b) + 1))) 103 = fup (w212_19 103) b (((w212_19 103) b) + 1) := sOf_eq _ _ _
                              have e30_102 : (setO (setO (setO (setO w212_19 87 (fup (w212_19 87) (10 + b) ((w212_19 86) (10 + b)))) 101 (fup (w212_19 101) ((3 * b) + ((w212_19 103) b)) pl2)) 102 (fup (w212_19 102) ((3 * b) + ((w212_19 103) b)) ((w212_19 104) b))) 103 (fup (w212_19 103) b (((w212_19 103) b) + 1))) 102 = fup (w212_19 102) ((3 * b) + ((w212_19 103) b)) ((w212_19 104) b) := (sOf_ne _ _ (by decide)).trans (sOf_eq _ _ _)
                              have e31_103 : (setO (setO (setO (setO w212_19 87 (fup (w212_19 87) (10 + b) ((w212_19 86) (10 + b)))) 101 (fup (w212_19 101) ((3 * b) + ((w212_19 103) b)) pl2)) 102 (fup (w212_19 102) ((3 * b) + ((w212_19 103) b)) ((w212_19 104) b))) 103 (fup (w212_19 103) b (((w212_19 103) b) + 1))) 103 = fup (w212_19 103) b (((w212_19 103) b) + 1) := sOf_eq _ _ _
                              have e32_101 : (setO (setO (setO (setO w212_19 87 (fup (w212_19 87) (10 + b) ((w212_19 86) (10 + b)))) 101 (fup (w212_19 101) ((3 * b) + ((w212_19 103) b)) pl2)) 102 (fup (w212_19 102) ((3 * b) + ((w212_19 103) b)) ((w212_19 104) b))) 103 (fup (w212_19 103) b (((w212_19 103) b) + 1))) 101 = fup (w212_19 101) ((3 * b) + ((w212_19 103) b)) pl2 := (sOf_ne _ _ (by decide)).trans ((sOf_ne _ _ (by decide)).trans (sOf_eq _ _ _))
                              have e33_102 : (setO (setO (setO (setO w212_19 87 (fup (w212_19 87) (10 + b) ((w212_19 86) (10 + b)))) 101 (fup (w212_19 101) ((3 * b) + ((w212_19 103) b)) pl2)) 102 (fup (w212_19 102) ((3 * b) + ((w212_19 103) b)) ((w212_19 104) b))) 103 (fup (w212_19 103) b (((w212_19 103) b) + 1))) 102 = fup (w212_19 102) ((3 * b) + ((w212_19 103) b)) ((w212_19 104) b) := (sOf_ne _ _ (by decide)).trans (sOf_eq _ _ _)
                              have e34_103 : (setO (setO (setO (setO w212_19 87 (fup (w212_19 87) (10 + b) ((w212_19 86) (10 + b)))) 101 (fup (w212_19 101) ((3 * b) + ((w212_19 103) b)) pl2)) 102 (fup (w212_19 102) ((3 * b) + ((w212_19 103) b)) ((w212_19 104) b))) 103 (fup (w212_19 103) b (((w212_19 103) b) + 1))) 103 = fup (w212_19 103) b (((w212_19 103) b) + 1) := sOf_eq _ _ _
                              have e35_83 : (setO (setO (setO (setO w212_19 87 (fup (w212_19 87) (10 + b) ((w212_19 86) (10 + b)))) 101 (fup (w212_19 101) ((3 * b) + ((w212_19 103) b)) pl2)) 102 (fup (w212_19 102) ((3 * b) + ((w212_19 103) b)) ((w212_19 104) b))) 103 (fup (w212_19 103) b (((w212_19 103) b) + 1))) 83 = w212_19 83 := (sOf_ne _ _ (by decide)).trans ((sOf_ne _ _ (by decide)).trans ((sOf_ne _ _ (by decide)).trans (sOf_ne _ _ (by decide))))
                              exact ih19 (pl2 + ((w212_19 104) b)) (b + 1) (setO (setO (setO (setO w212_19 87 (fup (w212_19 87) (10 + b) ((w212_19 86) (10 + b)))) 101 (fup (w212_19 101) ((3 * b) + ((w212_19 103) b)) pl2)) 102 (fup (w212_19 102) ((3 * b) + ((w212_19 103) b)) ((w212_19 104) b))) 103 (fup (w212_19 103) b (((w212_19 103) b) + 1))) hT_27 hF_27 (by first | omega | (simp [up, setR] <;> omega)) (by rewrite [e28_104]; exact hT4b) (by omega) (by rewrite [e29_103]; intro j; by_cases e : j = b; (rw [e, fup_eq]; exact ⟨fun h1 h2 => by omega, fun h1 => by omega⟩); (rw [fup_ne _ _ e]; exact ⟨fun h1 h2 => (hpc j).1 h1 (by omega), fun h1 => (hpc j).2 (by omega)⟩)) (by rewrite [e30_102, e31_103]; exact PSQ_n hps2 (by omega) (by omega) (by omega)) (by rewrite [e32_101, e33_102, e34_103]; exact PAQ_n hpa2 (by omega) (by omega) (by omega)) (by rewrite [e35_83]; first | exact k83i | (intro q hq; rfl) | (intro q hq; exact fup_ne _ _ (by omega)) | (intro q hq; rw [fup_ne _ _ (by omega)]; exact k83i q hq)) (by first | omega | (simp [up, setR] <;> omega))
                        refine TT_sub [1, 2, 3, 4, 6, 0] rfl ?_
                        have e36_104 : g207_18 104 = w155_10 104 := (hG_18.1 104 (by decide))
                        have e37_103 : g207_18 103 = w155_10 103 := (hG_18.1 103 (by decide))
                        have e38_102 : g207_18 102 = w155_10 102 := (hG_18.1 102 (by decide))
                        have e39_103 : g207_18 103 = w155_10 103 := (hG_18.1 103 (by decide))
                        have e40_101 : g207_18 101 = w155_10 101 := (hG_18.1 101 (by decide))
                        have e41_102 : g207_18 102 = w155_10 102 := (hG_18.1 102 (by decide))
                        have e42_103 : g207_18 103 = w155_10 103 := (hG_18.1 103 (by decide))
                        have e43_83 : g207_18 83 = w155_10 83 := (hG_18.1 83 (by decide))
                        have fs3 := p1_at207
                        exact L212_19 (((3 * u + 1 - z207_18).toNat) + 1) pl z207_18 g207_18 hT_18 hF_18 (by first | omega | (simp [up, setR] <;> omega)) (by rewrite [e36_104]; exact hT4) (by rw [fs3]; omega) (by rewrite [e37_103]; intro j; rw [k103]; exact ⟨fun h1 h2 => by exfalso; omega, fun _ => rfl⟩) (by rewrite [e38_102, e39_103]; rw [k103, k102]; exact PSQ_m hps hpl.1) (by rewrite [e40_101, e41_102, e42_103]; rw [k103, k101, k102]; exact hpa) (by rewrite [e43_83]; first | exact k83i | (intro q hq; rfl) | (intro q hq; exact fup_ne _ _ (by omega)) | (intro q hq; rw [fup_ne _ _ (by omega)]; exact k83i q hq)) (Nat.lt_succ_self _)
                      · have hb201_17 := lcmp_gt hb201_17
                        refine TT_sub [0] rfl ?_
                        exact J204_12  
                · refine TT_lload hK 4 rfl dX12_getPacket_163 ?_
                  refine TT_aload_n hK rfl 0 rfl dX12_getPacket_165 ?_
                  refine gf_X12_108 hK (by decide) rfl (q := 104) rfl rfl dX12_getPacket_166 ?_
                  refine TT_iload hK 6 rfl dX12_getPacket_169 ?_
                  refine TT_iald hK (o := 104) (n := 10) (by decide) rfl (by first | omega | (simp [up, setR] <;> omega)) (by first | omega | (simp [up, setR] <;> omega)) (v := (w155_10 104) m) rfl dX12_getPacket_171 ?_
                  have r44 := ty_104 (i := m) (v := (w155_10 104) m) hT155_10 rfl (by omega) (by omega)
                  refine TT_i2l hK (irm (by omega) (by omega)) dX12_getPacket_172 ?_
                  refine TT_ladd hK dX12_getPacket_173 ?_
                  refine TT_lstore hK (lv' := [(4, vJ (bh + ((w155_10 104) m))), (0, vR 73), (1, vI u), (2, vI f), (3, vI n), (6, vI pl), (7, vI m)]) (by decide) rfl dX12_getPacket_174 ?_
                  refine TT_iinc hK (v := m + 1) (lv' := [(7, vI (m + 1)), (4, vJ (bh + ((w155_10 104) m))), (0, vR 73), (1, vI u), (2, vI f), (3, vI n), (6, vI pl)]) 6 rfl rfl (by decide) rfl dX12_getPacket_176 ?_
                  refine TT_goto hK (tgt := 155) dX12_getPacket_179 (by decide) ?_
                  refine TT_sub [2, 3, 4, 5, 1, 6, 0] rfl ?_
                  have is1 : IS T4 (m + 1) = IS T4 m + T4 m := IS_s (by omega)
                  have e4 := congrFun hT4 m
                  exact ih10 (bh + ((w155_10 104) m)) (m + 1) T4 w155_10 hT155_10 hF155_10 (by first | omega | (simp [up, setR] <;> omega)) (by first | rfl | exact hT4) (by omega) (by first | omega | (simp [up, setR] <;> omega)) (by first | rfl | exact k101) (by first | rfl | exact k102) (by first | rfl | exact k103) (by first | exact k83i | (intro q hq; rfl) | (intro q hq; exact fup_ne _ _ (by omega)) | (intro q hq; rw [fup_ne _ _ (by omega)]; exact k83i q hq)) (by first | omega | (simp [up, setR] <;> omega))
            refine TT_sub [3, 4, 5, 6, 2, 1, 0] rfl ?_
            have e45_104 : g150_9 104 = w120_7 104 := (hG_9.1 104 (by decide))
            have e46_101 : g150_9 101 = w120_7 101 := (hG_9.1 101 (by decide))
            have e47_102 : g150_9 102 = w120_7 102 := (hG_9.1 102 (by decide))
            have e48_103 : g150_9 103 = w120_7 103 := (hG_9.1 103 (by decide))
            have e49_83 : g150_9 83 = w120_7 83 := (hG_9.1 83 (by decide))
            have fs2 := p1_at150
            exact L155_10 (((3 * u + 1 - z150_9).toNat) + 1) pl z150_9 (w120_7 104) g150_9 hT_9 hF_9 (by first | omega | (simp [up, setR] <;> omega)) (by rewrite [e45_104]; rfl) (by rw [fs2]; omega) (by first | omega | (simp [up, setR] <;> omega)) (by rewrite [e46_101]; first | rfl | exact k101) (by rewrite [e47_102]; first | rfl | exact k102) (by rewrite [e48_103]; first | rfl | exact k103) (by rewrite [e49_83]; first | exact k83i | (intro q hq; rfl) | (intro q hq; exact fup_ne _ _ (by omega)) | (intro q hq; rw [fup_ne _ _ (by omega)]; exact k83i q hq)) (Nat.lt_succ_self _)
          refine TT_aload_n hK rfl 0 rfl dX12_getPacket_120 ?_
          refine gf_X12_314 hK (by decide) rfl (v := (w120_7 73) 43) rfl dX12_getPacket_121 ?_
          have r50 := ty_73_43 (v := (w120_7 73) 43) hT120_7 rfl
          refine TT_if_le hK (tgt := 137) (irm (by omega) (by omega)) dX12_getPacket_124 (by decide) (fun hb124_51 => ?_) (fun hb124_51 => ?_)
          · refine TT_aload_n hK rfl 0 rfl dX12_getPacket_137 ?_
            refine gf_X12_311 hK (by decide) rfl (v := (w120_7 73) 42) rfl dX12_getPacket_138 ?_
            have r52 := ty_73_42 (v := (w120_7 73) 42) hT120_7 rfl
            refine TT_i2l hK (irm (by omega) (by omega)) dX12_getPacket_141 ?_
            exact J142_8 ((w120_7 73) 42) (by first | omega | (simp [up, setR] <;> omega))
          · refine TT_aload_n hK rfl 0 rfl dX12_getPacket_127 ?_
            refine gf_X12_311 hK (by decide) rfl (v := (w120_7 73) 42) rfl dX12_getPacket_128 ?_
            have r53 := ty_73_42 (v := (w120_7 73) 42) hT120_7 rfl
            refine TT_iconst hK dX12_getPacket_131 ?_
            refine TT_iadd hK dX12_getPacket_132 ?_
            refine TT_i2l hK (irm (by omega) (by omega)) dX12_getPacket_133 ?_
            refine TT_goto hK (tgt := 142) dX12_getPacket_134 (by decide) ?_
            exact J142_8 (((w120_7 73) 42) + 1) (by first | omega | (simp [up, setR] <;> omega))
        refine TT_aload_n hK rfl 0 rfl dX12_getPacket_44 ?_
        refine TT_iconst hK dX12_getPacket_45 ?_
        refine iv_X12_372 hK (s_X12_getBits_73 1 w23_5 hT23_5 (by first | omega | (simp [up, setR] <;> omega))) (by decide) rfl ⟨by decide, by decide⟩ (by decide) rfl rfl (Nat.le_of_ble_eq_true rfl) ⟨by decide, by decide⟩ dX12_getPacket_46 ?_
        intro r9 g46_54 hp9
        obtain ⟨⟨hT_54, hG_54⟩, z46_54, hr9, hz_54, p2_54, p3_54, p6_54⟩ := hp9
        rw [hr9]
        have hF_54 : FRM [73, 83, 86, 87, 88, 101, 102, 103, 104] [42, 43, 44, 45, 50] h g46_54 := FRM_tr hF23_5 hG_54 (by decide) (by decide)
        rw [show w23_5 73 42 = (w23_5 73) 42 from rfl] at p3_54
        rw [show w23_5 73 43 = (w23_5 73) 43 from rfl] at p3_54
        rw [show w23_5 73 44 = (w23_5 73) 44 from rfl] at p3_54
        rw [show w23_5 73 42 = (w23_5 73) 42 from rfl] at p6_54
        rw [show w23_5 73 43 = (w23_5 73) 43 from rfl] at p6_54
        show TT K ly 0 0 49 [(0, vR 73), (1, vI u), (2, vI f), (3, vI n), (4, vI k)] [vI z46_54] g46_54
        refine TT_iconst hK dX12_getPacket_49 ?_
        refine TT_icmp_ne hK (tgt := 120) (irm (by omega) (by omega)) (by decide) dX12_getPacket_50 (by decide) (fun hb50_55 => ?_) (fun hb50_55 => ?_)
        · refine TT_sub [0, 1, 2, 3] rfl ?_
          have e56_101 : g46_54 101 = w23_5 101 := (hG_54.1 101 (by decide))
          have e57_102 : g46_54 102 = w23_5 102 := (hG_54.1 102 (by decide))
          have e58_103 : g46_54 103 = w23_5 103 := (hG_54.1 103 (by decide))
          have e59_73_42 : g46_54 73 42 = (g46_54 73) 42 := rfl
          have e60_73_43 : g46_54 73 43 = (g46_54 73) 43 := rfl
          have e61_83 : g46_54 83 = w23_5 83 := (hG_54.1 83 (by decide))
          exact J120_7 g46_54 hT_54 hF_54 (by rewrite [e56_101]; first | rfl | exact k101) (by rewrite [e57_102]; first | rfl | exact k102) (by rewrite [e58_103]; first | rfl | exact k103) (by rewrite [e59_73_42, e60_73_43]; first | omega | (simp [up, setR] <;> omega)) (by rewrite [e61_83]; first | exact k83i | (intro q hq; rfl) | (intro q hq; exact fup_ne _ _ (by omega)) | (intro q hq; rw [fup_ne _ _ (by omega)]; exact k83i q hq))
        · refine TT_iload_n hK rfl 1 rfl dX12_getPacket_53 ?_
          refine iv_X12_326 hK (s_X12_firstOf u g46_54 hT_54 (by first | omega | (simp [up, setR] <;> omega))) ⟨by decide, by decide⟩ (by decide) rfl rfl (Nat.le_of_ble_eq_true rfl) ⟨by decide, by decide⟩ dX12_getPacket_54 ?_
          intro r9 g54_62 hp9
          obtain ⟨⟨hT_62, hG_62⟩, z54_62, hr9, hz_62, p1_62⟩ := hp9
          rw [hr9]
          have hF_62 : FRM [73, 83, 86, 87, 88, 101, 102, 103, 104] [42, 43, 44, 45, 50] h g54_62 := FRM_tr hF_54 hG_62 (by decide) (by decide)
          have p1_at54 := p1_62
          show TT K ly 0 0 57 [(0, vR 73), (1, vI u), (2, vI f), (3, vI n), (4, vI k)] [vI z54_62] g54_62
          refine TT_istore hK (lv' := [(4, vI z54_62), (0, vR 73), (1, vI u), (2, vI f), (3, vI n)]) (by decide) rfl dX12_getPacket_57 ?_
          have L59_63 : ∀ (k63 : Nat) (b : Int) (w59_63 : Hp_), TY w59_63 → FRM [73, 83, 86, 87, 88, 101, 102, 103, 104] [42, 43, 44, 45, 50] h w59_63 → (FS u ≤ b ∧ b ≤ 3 * u + 1) → (8 * f ≤ 8 * (w59_63 73 42) + (w59_63 73 43)) → ((w59_63 101) = h 101) → ((w59_63 102) = h 102) → ((w59_63 103) = h 103) → (∀ q : Int, q < 10 → (w59_63 83) q = h 83 q) → (3 * u + 1 - b).toNat < k63 → TT K ly 0 0 59 [(0, vR 73), (1, vI u), (2, vI f), (3, vI n), (4, vI b)] [] w59_63 := by
            intro k63
            induction k63 with
            | zero => intro b w59_63 hT59_63 hF59_63 hb hau k101 k102 k103 k83i hk63; exact absurd hk63 (Nat.not_lt_zero _)
            | succ k63 ih63 =>
              intro b w59_63 hT59_63 hF59_63 hb hau k101 k102 k103 k83i hk63
              refine TT_iload hK 4 rfl dX12_getPacket_59 ?_
              refine TT_iconst hK dX12_getPacket_61 ?_
              refine TT_iload_n hK rfl 1 rfl dX12_getPacket_62 ?_
              refine TT_imul hK dX12_getPacket_63 ?_
              refine TT_icmp_gt hK (tgt := 120) (irm (by omega) (by omega)) (irm (by omega) (by omega)) dX12_getPacket_64 (by decide) (fun hb64_64 => ?_) (fun hb64_64 => ?_)
              · refine TT_sub [0, 1, 2, 3] rfl ?_
                have e65_73_42 : w59_63 73 42 = (w59_63 73) 42 := rfl
                have e66_73_43 : w59_63 73 43 = (w59_63 73) 43 := rfl
                exact J120_7 w59_63 hT59_63 hF59_63 (by first | rfl | exact k101) (by first | rfl | exact k102) (by first | rfl | exact k103) (by rewrite [e65_73_42, e66_73_43]; first | omega | (simp [up, setR] <;> omega)) (by first | exact k83i | (intro q hq; rfl) | (intro q hq; exact fup_ne _ _ (by omega)) | (intro q hq; rw [fup_ne _ _ (by omega)]; exact k83i q hq))
              · refine TT_aload_n hK rfl 0 rfl dX12_getPacket_67 ?_
                refine gf_X12_365 hK (by decide) rfl (v := (w59_63 73) 45) rfl dX12_getPacket_68 ?_
                have r67 := ty_73_45 (v := (w59_63 73) 45) hT59_63 rfl
                refine TT_if_ne hK (tgt := 120) (irm (by omega) (by omega)) dX12_getPacket_71 (by decide) (fun hb71_68 => ?_) (fun hb71_68 => ?_)
                · refine TT_sub [0, 1, 2, 3] rfl ?_
                  have e69_73_42 : w59_63 73 42 = (w59_63 73) 42 := rfl
                  have e70_73_43 : w59_63 73 43 = (w59_63 73) 43 := rfl
                  exact J120_7 w59_63 hT59_63 hF59_63 (by first | rfl | exact k101) (by first | rfl | exact k102) (by first | rfl | exact k103) (by rewrite [e69_73_42, e70_73_43]; first | omega | (simp [up, setR] <;> omega)) (by first | exact k83i | (intro q hq; rfl) | (intro q hq; exact fup_ne _ _ (by omega)) | (intro q hq; rw [fup_ne _ _ (by omega)]; exact k83i q hq))
                · refine TT_aload_n hK rfl 0 rfl dX12_getPacket_74 ?_
                  refine gf_X12_375 hK (by decide) rfl (v := (w59_63 73) 50) rfl dX12_getPacket_75 ?_
                  have r71 := ty_73_50 (v := (w59_63 73) 50) hT59_63 rfl
                  refine TT_if_ne hK (tgt := 120) (irm (by omega) (by omega)) dX12_getPacket_78 (by decide) (fun hb78_72 => ?_) (fun hb78_72 => ?_)
                  · refine TT_sub [0, 1, 2, 3] rfl ?_
                    have e73_73_42 : w59_63 73 42 = (w59_63 73) 42 := rfl
                    have e74_73_43 : w59_63 73 43 = (w59_63 73) 43 := rfl
                    exact J120_7 w59_63 hT59_63 hF59_63 (by first | rfl | exact k101) (by first | rfl | exact k102) (by first | rfl | exact k103) (by rewrite [e73_73_42, e74_73_43]; first | omega | (simp [up, setR] <;> omega)) (by first | exact k83i | (intro q hq; rfl) | (intro q hq; exact fup_ne _ _ (by omega)) | (intro q hq; rw [fup_ne _ _ (by omega)]; exact k83i q hq))
                  · refine TT_aload_n hK rfl 0 rfl dX12_getPacket_81 ?_
                    refine gf_X12_35 hK (by decide) rfl (q := 80) rfl rfl dX12_getPacket_82 ?_
                    refine TT_bipush hK (by decide) dX12_getPacket_85 ?_
                    refine TT_iload hK 4 rfl dX12_getPacket_87 ?_
                    refine TT_iadd hK dX12_getPacket_89 ?_
                    refine TT_iald hK (o := 80) (n := 20) (by decide) rfl (by first | omega | (simp [up, setR] <;> omega)) (by first | omega | (simp [up, setR] <;> omega)) (v := (h 80) (10 + b)) (rd_ (hF59_63.1 80 (by decide)) rfl) dX12_getPacket_90 ?_
                    have r75 := ty_80 (i := 10 + b) (v := (h 80) (10 + b)) hT59_63 (rd_ (hF59_63.1 80 (by decide)) rfl) (by omega) (by omega)
                    refine TT_aload_n hK rfl 0 rfl dX12_getPacket_91 ?_
                    refine gf_X12_38 hK (by decide) rfl (q := 81) rfl rfl dX12_getPacket_92 ?_
                    refine TT_bipush hK (by decide) dX12_getPacket_95 ?_
                    refine TT_iload hK 4 rfl dX12_getPacket_97 ?_
                    refine TT_iadd hK dX12_getPacket_99 ?_
                    refine TT_iald hK (o := 81) (n := 20) (by decide) rfl (by first | omega | (simp [up, setR] <;> omega)) (by first | omega | (simp [up, setR] <;> omega)) (v := (h 81) (10 + b)) (rd_ (hF59_63.1 81 (by decide)) rfl) dX12_getPacket_100 ?_
                    have r76 := ty_81 (i := 10 + b) (v := (h 81) (10 + b)) hT59_63 (rd_ (hF59_63.1 81 (by decide)) rfl) (by omega) (by omega)
                    refine TT_imul hK dX12_getPacket_101 ?_
                    refine TT_w32 (fun x102_77 hx77 => ?_)
                    refine TT_if_le hK (tgt := 114) (irm (by omega) (by omega)) dX12_getPacket_102 (by decide) (fun hb102_78 => ?_) (fun hb102_78 => ?_)
                    · refine TT_iinc hK (v := b + 1) (lv' := [(4, vI (b + 1)), (0, vR 73), (1, vI u), (2, vI f), (3, vI n)]) 4 rfl rfl (by decide) rfl dX12_getPacket_114 ?_
                      refine TT_goto hK (tgt := 59) dX12_getPacket_117 (by decide) ?_
                      refine TT_sub [1, 2, 3, 4, 0] rfl ?_
                      have e79_73_42 : w59_63 73 42 = (w59_63 73) 42 := rfl
                      have e80_73_43 : w59_63 73 43 = (w59_63 73) 43 := rfl
                      exact ih63 (b + 1) w59_63 hT59_63 hF59_63 (by first | omega | (simp [up, setR] <;> omega)) (by rewrite [e79_73_42, e80_73_43]; first | omega | (simp [up, setR] <;> omega)) (by first | rfl | exact k101) (by first | rfl | exact k102) (by first | rfl | exact k103) (by first | exact k83i | (intro q hq; rfl) | (intro q hq; exact fup_ne _ _ (by omega)) | (intro q hq; rw [fup_ne _ _ (by omega)]; exact k83i q hq)) (by first | omega | (simp [up, setR] <;> omega))
                    · refine TT_aload_n hK rfl 0 rfl dX12_getPacket_105 ?_
                      refine TT_bipush hK (by decide) dX12_getPacket_106 ?_
                      refine TT_iload hK 4 rfl dX12_getPacket_108 ?_
                      refine TT_iadd hK dX12_getPacket_110 ?_
                      refine iv_X12_382 hK (s_getHead_z (10 + b) w59_63 hT59_63 (by first | omega | (simp [up, setR] <;> omega))) (by decide) rfl ⟨by decide, by decide⟩ (by decide) rfl rfl (Nat.le_of_ble_eq_true rfl) ⟨by decide, by decide⟩ dX12_getPacket_111 ?_
                      intro r9 g111_81 hp9
                      obtain ⟨⟨hT_81, hG_81⟩, hr9, p6_81, k83_81⟩ := hp9
                      rw [hr9]
                      have hF_81 : FRM [73, 83, 86, 87, 88, 101, 102, 103, 104] [42, 43, 44, 45, 50] h g111_81 := FRM_tr hF59_63 hG_81 (by decide) (by decide)
                      rw [show w59_63 73 42 = (w59_63 73) 42 from rfl] at p6_81
                      rw [show w59_63 73 43 = (w59_63 73) 43 from rfl] at p6_81
                      have k83_at111 := k83_81
                      show TT K ly 0 0 114 [(0, vR 73), (1, vI u), (2, vI f), (3, vI n), (4, vI b)] [] g111_81
                      refine TT_iinc hK (v := b + 1) (lv' := [(4, vI (b + 1)), (0, vR 73), (1, vI u), (2, vI f), (3, vI n)]) 4 rfl rfl (by decide) rfl dX12_getPacket_114 ?_
                      refine TT_goto hK (tgt := 59) dX12_getPacket_117 (by decide) ?_
                      refine TT_sub [1, 2, 3, 4, 0] rfl ?_
                      have e82_73_42 : g111_81 73 42 = (g111_81 73) 42 := rfl
                      have e83_73_43 : g111_81 73 43 = (g111_81 73) 43 := rfl
                      have e84_101 : g111_81 101 = w59_63 101 := (hG_81.1 101 (by decide))
                      have e85_102 : g111_81 102 = w59_63 102 := (hG_81.1 102 (by decide))
                      have e86_103 : g111_81 103 = w59_63 103 := (hG_81.1 103 (by decide))
                      exact ih63 (b + 1) g111_81 hT_81 hF_81 (by first | omega | (simp [up, setR] <;> omega)) (by rewrite [e82_73_42, e83_73_43]; first | omega | (simp [up, setR] <;> omega)) (by rewrite [e84_101]; first | rfl | exact k101) (by rewrite [e85_102]; first | rfl | exact k102) (by rewrite [e86_103]; first | rfl | exact k103) (by first | exact k83i | (intro q hq; rfl) | (intro q hq; exact (k83_at111 q hq).trans (k83i q hq)) | exact k83_at111 | (intro q hq; exact fup_ne _ _ (by omega)) | (intro q hq; rw [fup_ne _ _ (by omega)]; exact k83i q hq)) (by first | omega | (simp [up, setR] <;> omega))
          refine TT_sub [1, 2, 3, 4, 0] rfl ?_
          have e87_73_42 : g54_62 73 42 = (g46_54 73) 42 := congrFun (hG_62.1 73 (by decide)) 42
          have e88_73_43 : g54_62 73 43 = (g46_54 73) 43 := congrFun (hG_62.1 73 (by decide)) 43
          have e89_101 : g54_62 101 = w23_5 101 := ((hG_62.1 101 (by decide))).trans (hG_54.1 101 (by decide))
          have e90_102 : g54_62 102 = w23_5 102 := ((hG_62.1 102 (by decide))).trans (hG_54.1 102 (by decide))
          have e91_103 : g54_62 103 = w23_5 103 := ((hG_62.1 103 (by decide))).trans (hG_54.1 103 (by decide))
          have e92_83 : g54_62 83 = w23_5 83 := ((hG_62.1 83 (by decide))).trans (hG_54.1 83 (by decide))
          have fs1 := p1_at54
          exact L59_63 (((3 * u + 1 - z54_62).toNat) + 1) z54_62 g54_62 hT_62 hF_62 (by first | omega | (simp [up, setR] <;> omega)) (by rewrite [e87_73_42, e88_73_43]; first | omega | (simp [up, setR] <;> omega)) (by rewrite [e89_101]; first | rfl | exact k101) (by rewrite [e90_102]; first | rfl | exact k102) (by rewrite [e91_103]; first | rfl | exact k103) (by rewrite [e92_83]; first | exact k83i | (intro q hq; rfl) | (intro q hq; exact fup_ne _ _ (by omega)) | (intro q hq; rw [fup_ne _ _ (by omega)]; exact k83i q hq)) (Nat.lt_succ_self _)
      · refine TT_aload_n hK rfl 0 rfl dX12_getPacket_30 ?_
        refine gf_X12_108 hK (by decide) rfl (q := 104) rfl rfl dX12_getPacket_31 ?_
        refine TT_iload hK 4 rfl dX12_getPacket_34 ?_
        refine TT_iconst hK dX12_getPacket_36 ?_
        refine TT_iast hK (o := 104) (n := 10) (by decide) rfl (by omega) (by omega) dX12_getPacket_37 ?_
        refine TT_hp (h' := setO w23_5 104 (fup (w23_5 104) k 0)) (up_can rfl rfl rfl) ?_
        have hT_93 : TY (setO w23_5 104 (fup (w23_5 104) k 0)) := tu_104 hT23_5 (show up w23_5 104 k 0 = (setO w23_5 104 (fup (w23_5 104) k 0)) from up_can rfl rfl rfl) (by omega)
        have hF_93 : FRM [73, 83, 86, 87, 88, 101, 102, 103, 104] [42, 43, 44, 45, 50] h (setO w23_5 104 (fup (w23_5 104) k 0)) := FRM_up (show up w23_5 104 k 0 = (setO w23_5 104 (fup (w23_5 104) k 0)) from up_can rfl rfl rfl) hF23_5 (by decide) (by decide)
        refine TT_iinc hK (v := k + 1) (lv' := [(4, vI (k + 1)), (0, vR 73), (1, vI u), (2, vI f), (3, vI n)]) 4 rfl rfl (by decide) rfl dX12_getPacket_38 ?_
        refine TT_goto hK (tgt := 23) dX12_getPacket_41 (by decide) ?_
        refine TT_sub [1, 2, 3, 4, 0] rfl ?_
        have e94_73_42 : (setO w23_5 104 (fup (w23_5 104) k 0)) 73 42 = (w23_5 73) 42 := rd_ (sOf_ne _ _ (by decide)) rfl
        have e95_73_43 : (setO w23_5 104 (fup (w23_5 104) k 0)) 73 43 = (w23_5 73) 43 := rd_ (sOf_ne _ _ (by decide)) rfl
        have e96_101 : (setO w23_5 104 (fup (w23_5 104) k 0)) 101 = w23_5 101 := sOf_ne _ _ (by decide)
        have e97_102 : (setO w23_5 104 (fup (w23_5 104) k 0)) 102 = w23_5 102 := sOf_ne _ _ (by decide)
        have e98_103 : (setO w23_5 104 (fup (w23_5 104) k 0)) 103 = w23_5 103 := sOf_ne _ _ (by decide)
        have e99_83 : (setO w23_5 104 (fup (w23_5 104) k 0)) 83 = w23_5 83 := sOf_ne _ _ (by decide)
        exact ih5 (k + 1) (setO w23_5 104 (fup (w23_5 104) k 0)) hT_93 hF_93 (by first | omega | (simp [up, setR] <;> omega)) (by rewrite [e94_73_42, e95_73_43]; first | omega | (simp [up, setR] <;> omega)) (by rewrite [e96_101]; first | rfl | exact k101) (by rewrite [e97_102]; first | rfl | exact k102) (by rewrite [e98_103]; first | rfl | exact k103) (by rewrite [e99_83]; first | exact k83i | (intro q hq; rfl) | (intro q hq; exact fup_ne _ _ (by omega)) | (intro q hq; rw [fup_ne _ _ (by omega)]; exact k83i q hq)) (by first | omega | (simp [up, setR] <;> omega))
  refine TT_sub [1, 2, 3, 4, 0] rfl ?_
  have e100_73_42 : (setO h 73 (fup (fup (fup (fup (h 73) 42 f) 43 0) 44 n) 45 0)) 73 42 = f := rd_ (sOf_eq _ _ _) ((fup_ne _ _ (by decide)).trans ((fup_ne _ _ (by decide)).trans ((fup_ne _ _ (by decide)).trans (fup_eq _ _ _))))
  have e101_73_43 : (setO h 73 (fup (fup (fup (fup (h 73) 42 f) 43 0) 44 n) 45 0)) 73 43 = 0 := rd_ (sOf_eq _ _ _) ((fup_ne _ _ (by decide)).trans ((fup_ne _ _ (by decide)).trans (fup_eq _ _ _)))
  have e102_101 : (setO h 73 (fup (fup (fup (fup (h 73) 42 f) 43 0) 44 n) 45 0)) 101 = h 101 := sOf_ne _ _ (by decide)
  have e103_102 : (setO h 73 (fup (fup (fup (fup (h 73) 42 f) 43 0) 44 n) 45 0)) 102 = h 102 := sOf_ne _ _ (by decide)
  have e104_103 : (setO h 73 (fup (fup (fup (fup (h 73) 42 f) 43 0) 44 n) 45 0)) 103 = h 103 := sOf_ne _ _ (by decide)
  have e105_83 : (setO h 73 (fup (fup (fup (fup (h 73) 42 f) 43 0) 44 n) 45 0)) 83 = h 83 := sOf_ne _ _ (by decide)
  exact L23_5 ((((10 : Int) - 0).toNat) + 1) 0 (setO h 73 (fup (fup (fup (fup (h 73) 42 f) 43 0) 44 n) 45 0)) hT_4 hF_4 (by first | omega | (simp [up, setR] <;> omega)) (by rewrite [e100_73_42, e101_73_43]; first | omega | (simp [up, setR] <;> omega)) (by rewrite [e102_101]; first | rfl) (by rewrite [e103_102]; first | rfl) (by rewrite [e104_103]; first | rfl) (by rewrite [e105_83]; first | (intro q hq; rfl) | (intro q hq; exact fup_ne _ _ (by omega))) (Nat.lt_succ_self _)
set_option maxRecDepth 20000 in
theorem s_decode_z (n : Int) (h : Hp_) (hT : TY h) (hn : -2147483648 ≤ n ∧ n ≤ 2147483647) (htb : TBL (h 74) (h 75)) : Ctr yX12_decode cX12_decode 10 (some .int) (rmd 10) ly ly 0 0 [vR 73, vI n] h (fun r h' => (TY h' ∧ FRM [73, 77, 78, 79, 80, 81, 82, 83, 84, 85, 86, 87, 88, 93, 94, 95, 96, 97, 98, 99, 101, 102, 103, 104, 105, 106] [2, 26, 27, 28, 29, 32, 33, 34, 36, 38, 39, 42, 43, 44, 45, 50, 51, 52, 55] h h') ∧ ∃ z : Int, r = some (vI z) ∧ (0 ≤ z ∧ z ≤ 12) ∧ ((∀ q : Int, q < 10 → (h' 80) q = (h 80) q ∧ (h' 81) q = (h 81) q) ∧ (∀ j : Int, j < 640 → (h' 84) j = (h 84) j ∧ (h' 85) j = (h 85) j)) ∧ (∀ q : Int, q < 10 → (h' 83) q = (h 83) q)) := by
  refine Ctr_of (by decide) (Nat.le_of_ble_eq_true rfl) ⟨Nat.le_refl _, Nat.le_refl _⟩ (fun K hK hQ _ => ?_)
  show TT K ly 0 0 0 [(0, vR 73), (1, vI n)] [] h
  have hF : FRM [73, 77, 78, 79, 80, 81, 82, 83, 84, 85, 86, 87, 88, 93, 94, 95, 96, 97, 98, 99, 101, 102, 103, 104, 105, 106] [2, 26, 27, 28, 29, 32, 33, 34, 36, 38, 39, 42, 43, 44, 45, 50, 51, 52, 55] h h := FRM_rf _ _ _
  refine TT_aload_n hK rfl 0 rfl dX12_decode_0 ?_
  refine TT_iconst hK dX12_decode_1 ?_
  refine pf_X12_117 hK (by decide) rfl dX12_decode_2 ?_
  refine TT_hp (h' := setO h 73 (fup (h 73) 2 0)) (up_can rfl rfl rfl) ?_
  have hT_1 : TY (setO h 73 (fup (h 73) 2 0)) := tu_73_2 hT (show up h 73 2 0 = (setO h 73 (fup (h 73) 2 0)) from up_can rfl rfl rfl) (by omega)
  have hF_1 : FRM [73, 77, 78, 79, 80, 81, 82, 83, 84, 85, 86, 87, 88, 93, 94, 95, 96, 97, 98, 99, 101, 102, 103, 104, 105, 106] [2, 26, 27, 28, 29, 32, 33, 34, 36, 38, 39, 42, 43, 44, 45, 50, 51, 52, 55] h (setO h 73 (fup (h 73) 2 0)) := FRM_f (show up h 73 2 0 = (setO h 73 (fup (h 73) 2 0)) from up_can rfl rfl rfl) hF (by decide) (by decide)
  have J76_2 : ∀ (w76_2 : Hp_), TY w76_2 → FRM [73, 77, 78, 79, 80, 81, 82, 83, 84, 85, 86, 87, 88, 93, 94, 95, 96, 97, 98, 99, 101, 102, 103, 104, 105, 106] [2, 26, 27, 28, 29, 32, 33, 34, 36, 38, 39, 42, 43, 44, 45, 50, 51, 52, 55] h w76_2 → ((∀ q : Int, q < 10 → (w76_2 80) q = h 80 q ∧ (w76_2 81) q = h 81 q) ∧ (∀ j : Int, j < 640 → (w76_2 84) j = h 84 j ∧ (w76_2 85) j = h 85 j)) → (∀ q : Int, q < 10 → (w76_2 83) q = h 83 q) → TT K ly 0 0 76 [(0, vR 73), (1, vI n)] [] w76_2 := by
    intro w76_2 hT76_2 hF76_2 kq k83i
    refine TT_aload_n hK rfl 0 rfl dX12_decode_76 ?_
    refine TT_iconst hK dX12_decode_77 ?_
    refine iv_X12_385 hK (s_X12_refuse_73 1 w76_2 hT76_2 (by first | omega | (simp [up, setR] <;> omega))) (by decide) rfl ⟨by decide, by decide⟩ (by decide) rfl rfl (Nat.le_of_ble_eq_true rfl) ⟨by decide, by decide⟩ dX12_decode_78 ?_
    intro r9 g78_3 hp9
    obtain ⟨⟨hT_3, hG_3⟩, z78_3, hr9, hz_3⟩ := hp9
    rw [hr9]
    have hF_3 : FRM [73, 77, 78, 79, 80, 81, 82, 83, 84, 85, 86, 87, 88, 93, 94, 95, 96, 97, 98, 99, 101, 102, 103, 104, 105, 106] [2, 26, 27, 28, 29, 32, 33, 34, 36, 38, 39, 42, 43, 44, 45, 50, 51, 52, 55] h g78_3 := FRM_tr hF76_2 hG_3 (by decide) (by decide)
    show TT K ly 0 0 81 [(0, vR 73), (1, vI n)] [vI z78_3] g78_3
    refine TT_iret hK hQ ?_ dX12_decode_81
    have e4_80 : g78_3 80 = w76_2 80 := (hG_3.1 80 (by decide))
    have e5_81 : g78_3 81 = w76_2 81 := (hG_3.1 81 (by decide))
    have e6_84 : g78_3 84 = w76_2 84 := (hG_3.1 84 (by decide))
    have e7_85 : g78_3 85 = w76_2 85 := (hG_3.1 85 (by decide))
    have e8_83 : g78_3 83 = w76_2 83 := (hG_3.1 83 (by decide))
    exact ⟨⟨hT_3, hF_3⟩, z78_3, rfl, (by omega), (by rewrite [e4_80, e5_81, e6_84, e7_85]; exact kq), (by rewrite [e8_83]; first | exact k83i | (intro q hq; rfl) | (intro q hq; exact fup_ne _ _ (by omega)) | (intro q hq; rw [fup_ne _ _ (by omega)]; exact k83i q hq))⟩
  refine TT_iload_n hK rfl 1 rfl dX12_decode_5 ?_
  refine TT_iconst hK dX12_decode_6 ?_
  refine TT_icmp_lt hK (tgt := 76) (irm (by omega) (by omega)) (by decide) dX12_decode_7 (by decide) (fun hb7_9 => ?_) (fun hb7_9 => ?_)
  · have e10_80 : (setO h 73 (fup (h 73) 2 0)) 80 = h 80 := sOf_ne _ _ (by decide)
    have e11_81 : (setO h 73 (fup (h 73) 2 0)) 81 = h 81 := sOf_ne _ _ (by decide)
    have e12_84 : (setO h 73 (fup (h 73) 2 0)) 84 = h 84 := sOf_ne _ _ (by decide)
    have e13_85 : (setO h 73 (fup (h 73) 2 0)) 85 = h 85 := sOf_ne _ _ (by decide)
    have e14_83 : (setO h 73 (fup (h 73) 2 0)) 83 = h 83 := sOf_ne _ _ (by decide)
    exact J76_2 (setO h 73 (fup (h 73) 2 0)) hT_1 hF_1 (by rewrite [e10_80, e11_81, e12_84, e13_85]; exact ⟨fun q hq => ⟨rfl, rfl⟩, fun j hj => ⟨rfl, rfl⟩⟩) (by rewrite [e14_83]; first | (intro q hq; rfl) | (intro q hq; exact fup_ne _ _ (by omega)))
  · refine TT_iload_n hK rfl 1 rfl dX12_decode_10 ?_
    refine TT_aload_n hK rfl 0 rfl dX12_decode_11 ?_
    refine gf_X12_329 hK (by decide) rfl (v := (h 73) 41) (rd_ (sOf_eq _ _ _) (fup_ne _ _ (by decide))) dX12_decode_12 ?_
    have r15 := ty_73_41 (v := (h 73) 41) hT_1 (rd_ (sOf_eq _ _ _) (fup_ne _ _ (by decide)))
    refine TT_icmp_gt hK (tgt := 76) (irm (by omega) (by omega)) (irm (by omega) (by omega)) dX12_decode_15 (by decide) (fun hb15_16 => ?_) (fun hb15_16 => ?_)
    · have e17_80 : (setO h 73 (fup (h 73) 2 0)) 80 = h 80 := sOf_ne _ _ (by decide)
      have e18_81 : (setO h 73 (fup (h 73) 2 0)) 81 = h 81 := sOf_ne _ _ (by decide)
      have e19_84 : (setO h 73 (fup (h 73) 2 0)) 84 = h 84 := sOf_ne _ _ (by decide)
      have e20_85 : (setO h 73 (fup (h 73) 2 0)) 85 = h 85 := sOf_ne _ _ (by decide)
      have e21_83 : (setO h 73 (fup (h 73) 2 0)) 83 = h 83 := sOf_ne _ _ (by decide)
      exact J76_2 (setO h 73 (fup (h 73) 2 0)) hT_1 hF_1 (by rewrite [e17_80, e18_81, e19_84, e20_85]; exact ⟨fun q hq => ⟨rfl, rfl⟩, fun j hj => ⟨rfl, rfl⟩⟩) (by rewrite [e21_83]; first | (intro q hq; rfl) | (intro q hq; exact fup_ne _ _ (by omega)))
    · refine TT_aload_n hK rfl 0 rfl dX12_decode_18 ?_
      refine gf_X12_96 hK (by decide) rfl (q := 100) rfl rfl dX12_decode_19 ?_
      refine TT_iconst hK dX12_decode_22 ?_
      refine TT_iald hK (o := 100) (n := 4700) (by decide) rfl (by first | omega | (simp [up, setR] <;> omega)) (by first | omega | (simp [up, setR] <;> omega)) (v := (h 100) 0) (rd_ (sOf_ne _ _ (by decide)) rfl) dX12_decode_23 ?_
      have r22 := ty_100 (i := 0) (v := (h 100) 0) hT_1 (rd_ (sOf_ne _ _ (by decide)) rfl) (by omega) (by omega)
      refine TT_iconst hK dX12_decode_24 ?_
      refine TT_bipush hK (by decide) dX12_decode_25 ?_
      refine iv_X12_120 hK (s_X12_within ((h 100) 0) 1 8 (setO h 73 (fup (h 73) 2 0)) hT_1 (by first | omega | (simp [up, setR] <;> omega)) (by first | omega | (simp [up, setR] <;> omega)) (by first | omega | (simp [up, setR] <;> omega))) ⟨by decide, by decide⟩ (by decide) rfl rfl (Nat.le_of_ble_eq_true rfl) ⟨by decide, by decide⟩ dX12_decode_27 ?_
      intro r9 g27_23 hp9
      obtain ⟨⟨hT_23, hG_23⟩, z27_23, hr9, hz_23, p1_23, p2_23⟩ := hp9
      rw [hr9]
      have hF_23 : FRM [73, 77, 78, 79, 80, 81, 82, 83, 84, 85, 86, 87, 88, 93, 94, 95, 96, 97, 98, 99, 101, 102, 103, 104, 105, 106] [2, 26, 27, 28, 29, 32, 33, 34, 36, 38, 39, 42, 43, 44, 45, 50, 51, 52, 55] h g27_23 := FRM_tr hF_1 hG_23 (by decide) (by decide)
      show TT K ly 0 0 30 [(0, vR 73), (1, vI n)] [vI z27_23] g27_23
      refine TT_if_eq hK (tgt := 76) (irm (by omega) (by omega)) dX12_decode_30 (by decide) (fun hb30_24 => ?_) (fun hb30_24 => ?_)
      · have e25_80 : g27_23 80 = h 80 := ((hG_23.1 80 (by decide))).trans (sOf_ne _ _ (by decide))
        have e26_81 : g27_23 81 = h 81 := ((hG_23.1 81 (by decide))).trans (sOf_ne _ _ (by decide))
        have e27_84 : g27_23 84 = h 84 := ((hG_23.1 84 (by decide))).trans (sOf_ne _ _ (by decide))
        have e28_85 : g27_23 85 = h 85 := ((hG_23.1 85 (by decide))).trans (sOf_ne _ _ (by decide))
        have e29_83 : g27_23 83 = h 83 := ((hG_23.1 83 (by decide))).trans (sOf_ne _ _ (by decide))
        exact J76_2 g27_23 hT_23 hF_23 (by rewrite [e25_80, e26_81, e27_84, e28_85]; exact ⟨fun q hq => ⟨rfl, rfl⟩, fun j hj => ⟨rfl, rfl⟩⟩) (by rewrite [e29_83]; first | (intro q hq; rfl) | (intro q hq; exact fup_ne _ _ (by omega)))
      · refine TT_aload_n hK rfl 0 rfl dX12_decode_33 ?_
        refine gf_X12_96 hK (by decide) rfl (q := 100) rfl rfl dX12_decode_34 ?_
        refine TT_iconst hK dX12_decode_37 ?_
        refine TT_iald hK (o := 100) (n := 4700) (by decide) rfl (by first | omega | (simp [up, setR] <;> omega)) (by first | omega | (simp [up, setR] <;> omega)) (v := (h 100) 1) (rd_ (((hG_23.1 100 (by decide))).trans (sOf_ne _ _ (by decide))) rfl) dX12_decode_38 ?_
        have r30 := ty_100 (i := 1) (v := (h 100) 1) hT_23 (rd_ (((hG_23.1 100 (by decide))).trans (sOf_ne _ _ (by decide))) rfl) (by omega) (by omega)
        refine TT_iconst hK dX12_decode_39 ?_
        refine TT_bipush hK (by decide) dX12_decode_40 ?_
        refine iv_X12_120 hK (s_X12_within ((h 100) 1) 1 8 g27_23 hT_23 (by first | omega | (simp [up, setR] <;> omega)) (by first | omega | (simp [up, setR] <;> omega)) (by first | omega | (simp [up, setR] <;> omega))) ⟨by decide, by decide⟩ (by decide) rfl rfl (Nat.le_of_ble_eq_true rfl) ⟨by decide, by decide⟩ dX12_decode_42 ?_
        intro r9 g42_31 hp9
        obtain ⟨⟨hT_31, hG_31⟩, z42_31, hr9, hz_31, p1_31, p2_31⟩ := hp9
        rw [hr9]
        have hF_31 : FRM [73, 77, 78, 79, 80, 81, 82, 83, 84, 85, 86, 87, 88, 93, 94, 95, 96, 97, 98, 99, 101, 102, 103, 104, 105, 106] [2, 26, 27, 28, 29, 32, 33, 34, 36, 38, 39, 42, 43, 44, 45, 50, 51, 52, 55] h g42_31 := FRM_tr hF_23 hG_31 (by decide) (by decide)
        show TT K ly 0 0 45 [(0, vR 73), (1, vI n)] [vI z42_31] g42_31
        refine TT_if_eq hK (tgt := 76) (irm (by omega) (by omega)) dX12_decode_45 (by decide) (fun hb45_32 => ?_) (fun hb45_32 => ?_)
        · have e33_80 : g42_31 80 = h 80 := ((hG_31.1 80 (by decide))).trans (((hG_23.1 80 (by decide))).trans (sOf_ne _ _ (by decide)))
          have e34_81 : g42_31 81 = h 81 := ((hG_31.1 81 (by decide))).trans (((hG_23.1 81 (by decide))).trans (sOf_ne _ _ (by decide)))
          have e35_84 : g42_31 84 = h 84 := ((hG_31.1 84 (by decide))).trans (((hG_23.1 84 (by decide))).trans (sOf_ne _ _ (by decide)))
          have e36_85 : g42_31 85 = h 85 := ((hG_31.1 85 (by decide))).trans (((hG_23.1 85 (by decide))).trans (sOf_ne _ _ (by decide)))
          have e37_83 : g42_31 83 = h 83 := ((hG_31.1 83 (by decide))).trans (((hG_23.1 83 (by decide))).trans (sOf_ne _ _ (by decide)))
          exact J76_2 g42_31 hT_31 hF_31 (by rewrite [e33_80, e34_81, e35_84, e36_85]; exact ⟨fun q hq => ⟨rfl, rfl⟩, fun j hj => ⟨rfl, rfl⟩⟩) (by rewrite [e37_83]; first | (intro q hq; rfl) | (intro q hq; exact fup_ne _ _ (by omega)))
        · refine TT_aload_n hK rfl 0 rfl dX12_decode_48 ?_
          refine gf_X12_96 hK (by decide) rfl (q := 100) rfl rfl dX12_decode_49 ?_
          refine TT_iconst hK dX12_decode_52 ?_
          refine TT_iald hK (o := 100) (n := 4700) (by decide) rfl (by first | omega | (simp [up, setR] <;> omega)) (by first | omega | (simp [up, setR] <;> omega)) (v := (h 100) 2) (rd_ (((hG_31.1 100 (by decide))).trans (((hG_23.1 100 (by decide))).trans (sOf_ne _ _ (by decide)))) rfl) dX12_decode_53 ?_
          have r38 := ty_100 (i := 2) (v := (h 100) 2) hT_31 (rd_ (((hG_31.1 100 (by decide))).trans (((hG_23.1 100 (by decide))).trans (sOf_ne _ _ (by decide)))) rfl) (by omega) (by omega)
          refine TT_iconst hK dX12_decode_54 ?_
          refine TT_iconst hK dX12_decode_55 ?_
          refine iv_X12_120 hK (s_X12_within ((h 100) 2) 0 3 g42_31 hT_31 (by first | omega | (simp [up, setR] <;> omega)) (by first | omega | (simp [up, setR] <;> omega)) (by first | omega | (simp [up, setR] <;> omega))) ⟨by decide, by decide⟩ (by decide) rfl rfl (Nat.le_of_ble_eq_true rfl) ⟨by decide, by decide⟩ dX12_decode_56 ?_
          intro r9 g56_39 hp9
          obtain ⟨⟨hT_39, hG_39⟩, z56_39, hr9, hz_39, p1_39, p2_39⟩ := hp9
          rw [hr9]
          have hF_39 : FRM [73, 77, 78, 79, 80, 81, 82, 83, 84, 85, 86, 87, 88, 93, 94, 95, 96, 97, 98, 99, 101, 102, 103, 104, 105, 106] [2, 26, 27, 28, 29, 32, 33, 34, 36, 38, 39, 42, 43, 44, 45, 50, 51, 52, 55] h g56_39 := FRM_tr hF_31 hG_39 (by decide) (by decide)
          show TT K ly 0 0 59 [(0, vR 73), (1, vI n)] [vI z56_39] g56_39
          refine TT_if_eq hK (tgt := 76) (irm (by omega) (by omega)) dX12_decode_59 (by decide) (fun hb59_40 => ?_) (fun hb59_40 => ?_)
          · have e41_80 : g56_39 80 = h 80 := ((hG_39.1 80 (by decide))).trans (((hG_31.1 80 (by decide))).trans (((hG_23.1 80 (by decide))).trans (sOf_ne _ _ (by decide))))
            have e42_81 : g56_39 81 = h 81 := ((hG_39.1 81 (by decide))).trans (((hG_31.1 81 (by decide))).trans (((hG_23.1 81 (by decide))).trans (sOf_ne _ _ (by decide))))
            have e43_84 : g56_39 84 = h 84 := ((hG_39.1 84 (by decide))).trans (((hG_31.1 84 (by decide))).trans (((hG_23.1 84 (by decide))).trans (sOf_ne _ _ (by decide))))
            have e44_85 : g56_39 85 = h 85 := ((hG_39.1 85 (by decide))).trans (((hG_31.1 85 (by decide))).trans (((hG_23.1 85 (by decide))).trans (sOf_ne _ _ (by decide))))
            have e45_83 : g56_39 83 = h 83 := ((hG_39.1 83 (by decide))).trans (((hG_31.1 83 (by decide))).trans (((hG_23.1 83 (by decide))).trans (sOf_ne _ _ (by decide))))
            exact J76_2 g56_39 hT_39 hF_39 (by rewrite [e41_80, e42_81, e43_84, e44_85]; exact ⟨fun q hq => ⟨rfl, rfl⟩, fun j hj => ⟨rfl, rfl⟩⟩) (by rewrite [e45_83]; first | (intro q hq; rfl) | (intro q hq; exact fup_ne _ _ (by omega)))
          · refine TT_aload_n hK rfl 0 rfl dX12_decode_62 ?_
            refine gf_X12_96 hK (by decide) rfl (q := 100) rfl rfl dX12_decode_63 ?_
            refine TT_iconst hK dX12_decode_66 ?_
            refine TT_iald hK (o := 100) (n := 4700) (by decide) rfl (by first | omega | (simp [up, setR] <;> omega)) (by first | omega | (simp [up, setR] <;> omega)) (v := (h 100) 3) (rd_ (((hG_39.1 100 (by decide))).trans (((hG_31.1 100 (by decide))).trans (((hG_23.1 100 (by decide))).trans (sOf_ne _ _ (by decide))))) rfl) dX12_decode_67 ?_
            have r46 := ty_100 (i := 3) (v := (h 100) 3) hT_39 (rd_ (((hG_39.1 100 (by decide))).trans (((hG_31.1 100 (by decide))).trans (((hG_23.1 100 (by decide))).trans (sOf_ne _ _ (by decide))))) rfl) (by omega) (by omega)
            refine TT_iconst hK dX12_decode_68 ?_
            refine TT_iconst hK dX12_decode_69 ?_
            refine iv_X12_120 hK (s_X12_within ((h 100) 3) 1 3 g56_39 hT_39 (by first | omega | (simp [up, setR] <;> omega)) (by first | omega | (simp [up, setR] <;> omega)) (by first | omega | (simp [up, setR] <;> omega))) ⟨by decide, by decide⟩ (by decide) rfl rfl (Nat.le_of_ble_eq_true rfl) ⟨by decide, by decide⟩ dX12_decode_70 ?_
            intro r9 g70_47 hp9
            obtain ⟨⟨hT_47, hG_47⟩, z70_47, hr9, hz_47, p1_47, p2_47⟩ := hp9
            rw [hr9]
            have hF_47 : FRM [73, 77, 78, 79, 80, 81, 82, 83, 84, 85, 86, 87, 88, 93, 94, 95, 96, 97, 98, 99, 101, 102, 103, 104, 105, 106] [2, 26, 27, 28, 29, 32, 33, 34, 36, 38, 39, 42, 43, 44, 45, 50, 51, 52, 55] h g70_47 := FRM_tr hF_39 hG_47 (by decide) (by decide)
            show TT K ly 0 0 73 [(0, vR 73), (1, vI n)] [vI z70_47] g70_47
            refine TT_if_ne hK (tgt := 82) (irm (by omega) (by omega)) dX12_decode_73 (by decide) (fun hb73_48 => ?_) (fun hb73_48 => ?_)
            · refine TT_aload_n hK rfl 0 rfl dX12_decode_82 ?_
              refine gf_X12_96 hK (by decide) rfl (q := 100) rfl rfl dX12_decode_83 ?_
              refine TT_iconst hK dX12_decode_86 ?_
              refine TT_iald hK (o := 100) (n := 4700) (by decide) rfl (by first | omega | (simp [up, setR] <;> omega)) (by first | omega | (simp [up, setR] <;> omega)) (v := (h 100) 0) (rd_ (((hG_47.1 100 (by decide))).trans (((hG_39.1 100 (by decide))).trans (((hG_31.1 100 (by decide))).trans (((hG_23.1 100 (by decide))).trans (sOf_ne _ _ (by decide)))))) rfl) dX12_decode_87 ?_
              refine TT_nmI (fun wq hwq => ?_)
              refine TT_istore_n hK rfl (lv' := [(2, vI wq), (0, vR 73), (1, vI n)]) (by decide) rfl dX12_decode_88 ?_
              refine TT_aload_n hK rfl 1 rfl dX12_decode_89 ?_
              refine gf_X12_96 hK (by decide) rfl (q := 100) rfl rfl dX12_decode_90 ?_
              refine TT_iconst hK dX12_decode_93 ?_
              refine TT_iald hK (o := 100) (n := 4700) (by decide) rfl (by first | omega | (simp [up, setR] <;> omega)) (by first | omega | (simp [up, setR] <;> omega)) (v := (h 100) 1) (rd_ (((hG_47.1 100 (by decide))).trans (((hG_39.1 100 (by decide))).trans (((hG_31.1 100 (by decide))).trans (((hG_23.1 100 (by decide))).trans (sOf_ne _ _ (by decide)))))) rfl) dX12_decode_94 ?_
              refine TT_nmI (fun eq heq => ?_)
              refine TT_istore_n hK rfl (lv' := [(3, vI eq), (2, vI wq), (0, vR 73), (1, vI n)]) (by decide) rfl dX12_decode_95 ?_
              refine TT_aload_n hK rfl 2 rfl dX12_decode_96 ?_
              refine gf_X12_96 hK (by decide) rfl (q := 100) rfl rfl dX12_decode_97 ?_
              refine TT_iconst hK dX12_decode_100 ?_
              refine TT_iald hK (o := 100) (n := 4700) (by decide) rfl (by first | omega | (simp [up, setR] <;> omega)) (by first | omega | (simp [up, setR] <;> omega)) (v := (h 100) 2) (rd_ (((hG_47.1 100 (by decide))).trans (((hG_39.1 100 (by decide))).trans (((hG_31.1 100 (by decide))).trans (((hG_23.1 100 (by decide))).trans (sOf_ne _ _ (by decide)))))) rfl) dX12_decode_101 ?_
              refine TT_nmI (fun lq hlq => ?_)
              refine TT_istore hK (lv' := [(4, vI lq), (3, vI eq), (2, vI wq), (0, vR 73), (1, vI n)]) (by decide) rfl dX12_decode_102 ?_
              refine TT_aload_n hK rfl 3 rfl dX12_decode_104 ?_
              refine TT_bipush hK (by decide) dX12_decode_105 ?_
              refine TT_iload_n hK rfl 2 rfl dX12_decode_107 ?_
              refine TT_iload_n hK rfl 1 rfl dX12_decode_108 ?_
              refine TT_iload hK 0 rfl dX12_decode_109 ?_
              refine iv_X12_342 hK (s_beBands_z 10 wq eq lq g70_47 hT_47 (by first | omega | (simp [up, setR] <;> omega)) (by first | omega | (simp [up, setR] <;> omega)) (by first | omega | (simp [up, setR] <;> omega)) (by first | omega | (simp [up, setR] <;> omega))) (by decide) rfl ⟨by decide, by decide⟩ (by decide) rfl rfl (Nat.le_of_ble_eq_true rfl) ⟨by decide, by decide⟩ dX12_decode_111 ?_
              intro r9 g111_49 hp9
              obtain ⟨⟨hT_49, hG_49⟩, hr9, q1_49, q2_49, q3_49, q6_49, q7_49, q8_49, q10_49⟩ := hp9
              rw [hr9]
              have hF_49 : FRM [73, 77, 78, 79, 80, 81, 82, 83, 84, 85, 86, 87, 88, 93, 94, 95, 96, 97, 98, 99, 101, 102, 103, 104, 105, 106] [2, 26, 27, 28, 29, 32, 33, 34, 36, 38, 39, 42, 43, 44, 45, 50, 51, 52, 55] h g111_49 := FRM_tr hF_47 hG_49 (by decide) (by decide)
              rw [show g70_47 80 = h 80 from ((hG_47.1 80 (by decide))).trans (((hG_39.1 80 (by decide))).trans (((hG_31.1 80 (by decide))).trans (((hG_23.1 80 (by decide))).trans (sOf_ne _ _ (by decide)))))] at q6_49
              rw [show g70_47 81 = h 81 from ((hG_47.1 81 (by decide))).trans (((hG_39.1 81 (by decide))).trans (((hG_31.1 81 (by decide))).trans (((hG_23.1 81 (by decide))).trans (sOf_ne _ _ (by decide)))))] at q6_49
              rw [show g70_47 84 = h 84 from ((hG_47.1 84 (by decide))).trans (((hG_39.1 84 (by decide))).trans (((hG_31.1 84 (by decide))).trans (((hG_23.1 84 (by decide))).trans (sOf_ne _ _ (by decide)))))] at q6_49
              rw [show g70_47 85 = h 85 from ((hG_47.1 85 (by decide))).trans (((hG_39.1 85 (by decide))).trans (((hG_31.1 85 (by decide))).trans (((hG_23.1 85 (by decide))).trans (sOf_ne _ _ (by decide)))))] at q6_49
              rw [show g70_47 83 = h 83 from ((hG_47.1 83 (by decide))).trans (((hG_39.1 83 (by decide))).trans (((hG_31.1 83 (by decide))).trans (((hG_23.1 83 (by decide))).trans (sOf_ne _ _ (by decide)))))] at q10_49
              have q1_at111 := q1_49
              have q2_at111 := q2_49
              have q6_at111 := q6_49
              have q10_at111 := q10_49
              show TT K ly 0 0 114 [(4, vI lq), (3, vI eq), (2, vI wq), (0, vR 73), (1, vI n)] [] g111_49
              refine TT_iconst hK dX12_decode_114 ?_
              refine TT_istore hK (lv' := [(5, vI 0), (4, vI lq), (3, vI eq), (2, vI wq), (0, vR 73), (1, vI n)]) (by decide) rfl dX12_decode_115 ?_
              have L117_50 : ∀ (k50 : Nat) (j9 : Int) (w117_50 : Hp_), TY w117_50 → FRM [73, 77, 78, 79, 80, 81, 82, 83, 84, 85, 86, 87, 88, 93, 94, 95, 96, 97, 98, 99, 101, 102, 103, 104, 105, 106] [2, 26, 27, 28, 29, 32, 33, 34, 36, 38, 39, 42, 43, 44, 45, 50, 51, 52, 55] h w117_50 → (0 ≤ j9 ∧ j9 ≤ 10) → (∀ t : Int, 0 ≤ t → t < j9 → (w117_50 103) t = 0) → (∀ j : Int, 0 ≤ j → j < 3 * lq + 1 → (w117_50 80) (10 + j) = BW wq lq j) → (∀ j : Int, 0 ≤ j → j < 3 * lq + 1 → (w117_50 81) (10 + j) = BH eq lq j) → ((∀ q : Int, q < 10 → (w117_50 80) q = h 80 q ∧ (w117_50 81) q = h 81 q) ∧ (∀ j : Int, j < 640 → (w117_50 84) j = h 84 j ∧ (w117_50 85) j = h 85 j)) → (∀ q : Int, q < 10 → (w117_50 83) q = h 83 q) → ((10 : Int) - j9).toNat < k50 → TT K ly 0 0 117 [(0, vR 73), (1, vI n), (2, vI wq), (3, vI eq), (4, vI lq), (5, vI j9)] [] w117_50 := by
                intro k50
                induction k50 with
                | zero => intro j9 w117_50 hT117_50 hF117_50 hj9 hpz hbw hbh kq k83i hk50; exact absurd hk50 (Nat.not_lt_zero _)
                | succ k50 ih50 =>
                  intro j9 w117_50 hT117_50 hF117_50 hj9 hpz hbw hbh kq k83i hk50
                  refine TT_iload hK 5 rfl dX12_decode_117 ?_
                  refine TT_bipush hK (by decide) dX12_decode_119 ?_
                  refine TT_icmp_ge hK (tgt := 138) (irm (by omega) (by omega)) (by decide) dX12_decode_121 (by decide) (fun hb121_51 => ?_) (fun hb121_51 => ?_)
                  · refine TT_aload_n hK rfl 0 rfl dX12_decode_138 ?_
                    refine TT_iconst hK dX12_decode_139 ?_
                    refine pf_X12_375 hK (by decide) rfl (by first | decide | omega) dX12_decode_140 ?_
                    refine TT_hp (h' := setO w117_50 73 (fup (w117_50 73) 50 0)) (up_can rfl rfl rfl) ?_
                    have hT_52 : TY (setO w117_50 73 (fup (w117_50 73) 50 0)) := tu_73_50 hT117_50 (show up w117_50 73 50 0 = (setO w117_50 73 (fup (w117_50 73) 50 0)) from up_can rfl rfl rfl) (by omega)
                    have hF_52 : FRM [73, 77, 78, 79, 80, 81, 82, 83, 84, 85, 86, 87, 88, 93, 94, 95, 96, 97, 98, 99, 101, 102, 103, 104, 105, 106] [2, 26, 27, 28, 29, 32, 33, 34, 36, 38, 39, 42, 43, 44, 45, 50, 51, 52, 55] h (setO w117_50 73 (fup (w117_50 73) 50 0)) := FRM_f (show up w117_50 73 50 0 = (setO w117_50 73 (fup (w117_50 73) 50 0)) from up_can rfl rfl rfl) hF117_50 (by decide) (by decide)
                    refine TT_iconst hK dX12_decode_143 ?_
                    refine TT_istore hK (lv' := [(5, vI 0), (0, vR 73), (1, vI n), (2, vI wq), (3, vI eq), (4, vI lq)]) (by decide) rfl dX12_decode_144 ?_
                    refine TT_iconst hK dX12_decode_146 ?_
                    refine TT_istore hK (lv' := [(6, vI 4), (5, vI 0), (0, vR 73), (1, vI n), (2, vI wq), (3, vI eq), (4, vI lq)]) (by decide) rfl dX12_decode_147 ?_
                    refine TT_aload_n hK rfl 2 rfl dX12_decode_149 ?_
                    refine gf_X12_96 hK (by decide) rfl (q := 100) rfl rfl dX12_decode_150 ?_
                    refine TT_iconst hK dX12_decode_153 ?_
                    refine TT_iald hK (o := 100) (n := 4700) (by decide) rfl (by first | omega | (simp [up, setR] <;> omega)) (by first | omega | (simp [up, setR] <;> omega)) (v := (h 100) 3) (rd_ ((sOf_ne _ _ (by decide)).trans (hF117_50.1 100 (by decide))) rfl) dX12_decode_154 ?_
                    have r53 := ty_100 (i := 3) (v := (h 100) 3) hT_52 (rd_ ((sOf_ne _ _ (by decide)).trans (hF117_50.1 100 (by decide))) rfl) (by omega) (by omega)
                    refine TT_iload hK 6 rfl dX12_decode_155 ?_
                    refine TT_iconst hK dX12_decode_157 ?_
                    refine TT_iadd hK dX12_decode_158 ?_
                    refine TT_imul hK dX12_decode_159 ?_
                    refine TT_nmI (fun al hal => ?_)
                    refine TT_istore hK (lv' := [(7, vI al), (6, vI 4), (5, vI 0), (0, vR 73), (1, vI n), (2, vI wq), (3, vI eq), (4, vI lq)]) (by decide) rfl dX12_decode_160 ?_
                    have L162_54 : ∀ (k54 : Nat) (k : Int) (f : Int) (w162_54 : Hp_), TY w162_54 → FRM [73, 77, 78, 79, 80, 81, 82, 83, 84, 85, 86, 87, 88, 93, 94, 95, 96, 97, 98, 99, 101, 102, 103, 104, 105, 106] [2, 26, 27, 28, 29, 32, 33, 34, 36, 38, 39, 42, 43, 44, 45, 50, 51, 52, 55] h w162_54 → (0 ≤ k ∧ k ≤ al) → (-1 ≤ f ∧ f ≤ n) → (PQ (w162_54 103) lq k) → ((0 ≤ f → PSQ (w162_54 103) (w162_54 102) f) ∧ PSQ (w162_54 103) (w162_54 102) n) → (PAQ (w162_54 103) (w162_54 101) (w162_54 102)) → (∀ j : Int, 0 ≤ j → j < 3 * lq + 1 → (w162_54 80) (10 + j) = BW wq lq j) → (∀ j : Int, 0 ≤ j → j < 3 * lq + 1 → (w162_54 81) (10 + j) = BH eq lq j) → ((∀ q : Int, q < 10 → (w162_54 80) q = h 80 q ∧ (w162_54 81) q = h 81 q) ∧ (∀ j : Int, j < 640 → (w162_54 84) j = h 84 j ∧ (w162_54 85) j = h 85 j)) → (∀ q : Int, q < 10 → (w162_54 83) q = h 83 q) → (2 * (al - k) + min 1 (f + 1)).toNat < k54 → TT K ly 0 0 162 [(0, vR 73), (1, vI n), (2, vI wq), (3, vI eq), (4, vI lq), (5, vI k), (6, vI f), (7, vI al)] [] w162_54 := by
                      intro k54
                      induction k54 with
                      | zero => intro k f w162_54 hT162_54 hF162_54 hk hf hpq hps hpa hbw hbh kq k83i hk54; exact absurd hk54 (Nat.not_lt_zero _)
                      | succ k54 ih54 =>
                        intro k f w162_54 hT162_54 hF162_54 hk hf hpq hps hpa hbw hbh kq k83i hk54
                        have ha := pu2 hal (by omega) (by omega)
                        have ha3 := pu2b hal (by omega) (by omega)
                        have J209_55 : TT K ly 0 0 209 [(0, vR 73), (1, vI n), (2, vI wq), (3, vI eq), (4, vI lq), (5, vI k)] [] w162_54 := by
                          refine TT_aload_n hK rfl 0 rfl dX12_decode_209 ?_
                          refine gf_X12_375 hK (by decide) rfl (v := (w162_54 73) 50) rfl dX12_decode_210 ?_
                          have r56 := ty_73_50 (v := (w162_54 73) 50) hT162_54 rfl
                          refine TT_if_eq hK (tgt := 222) (irm (by omega) (by omega)) dX12_decode_213 (by decide) (fun hb213_57 => ?_) (fun hb213_57 => ?_)
                          · refine TT_aload_n hK rfl 0 rfl dX12_decode_222 ?_
                            refine TT_iload_n hK rfl 2 rfl dX12_decode_223 ?_
                            refine pf_X12_392 hK (by decide) rfl dX12_decode_224 ?_
                            refine TT_hp (h' := setO w162_54 73 (fup (w162_54 73) 51 wq)) (up_can rfl rfl rfl) ?_
                            have hT_58 : TY (setO w162_54 73 (fup (w162_54 73) 51 wq)) := tu_73_51 hT162_54 (show up w162_54 73 51 wq = (setO w162_54 73 (fup (w162_54 73) 51 wq)) from up_can rfl rfl rfl) (by omega)
                            have hF_58 : FRM [73, 77, 78, 79, 80, 81, 82, 83, 84, 85, 86, 87, 88, 93, 94, 95, 96, 97, 98, 99, 101, 102, 103, 104, 105, 106] [2, 26, 27, 28, 29, 32, 33, 34, 36, 38, 39, 42, 43, 44, 45, 50, 51, 52, 55] h (setO w162_54 73 (fup (w162_54 73) 51 wq)) := FRM_f (show up w162_54 73 51 wq = (setO w162_54 73 (fup (w162_54 73) 51 wq)) from up_can rfl rfl rfl) hF162_54 (by decide) (by decide)
                            refine TT_aload_n hK rfl 0 rfl dX12_decode_227 ?_
                            refine TT_iload_n hK rfl 3 rfl dX12_decode_228 ?_
                            refine pf_X12_395 hK (by decide) rfl dX12_decode_229 ?_
                            refine TT_hp (h' := setO w162_54 73 (fup (fup (w162_54 73) 51 wq) 52 eq)) (up_can (sOf_eq _ _ _) rfl (setO_same _ _ _ _)) ?_
                            have hT_59 : TY (setO w162_54 73 (fup (fup (w162_54 73) 51 wq) 52 eq)) := tu_73_52 hT_58 (show up (setO w162_54 73 (fup (w162_54 73) 51 wq)) 73 52 eq = (setO w162_54 73 (fup (fup (w162_54 73) 51 wq) 52 eq)) from up_can (sOf_eq _ _ _) rfl (setO_same _ _ _ _)) (by omega)
                            have hF_59 : FRM [73, 77, 78, 79, 80, 81, 82, 83, 84, 85, 86, 87, 88, 93, 94, 95, 96, 97, 98, 99, 101, 102, 103, 104, 105, 106] [2, 26, 27, 28, 29, 32, 33, 34, 36, 38, 39, 42, 43, 44, 45, 50, 51, 52, 55] h (setO w162_54 73 (fup (fup (w162_54 73) 51 wq) 52 eq)) := FRM_f (show up (setO w162_54 73 (fup (w162_54 73) 51 wq)) 73 52 eq = (setO w162_54 73 (fup (fup (w162_54 73) 51 wq) 52 eq)) from up_can (sOf_eq _ _ _) rfl (setO_same _ _ _ _)) hF_58 (by decide) (by decide)
                            refine TT_aload_n hK rfl 0 rfl dX12_decode_232 ?_
                            refine TT_iconst hK dX12_decode_233 ?_
                            refine TT_iload hK 4 rfl dX12_decode_234 ?_
                            refine TT_imul hK dX12_decode_236 ?_
                            refine TT_iconst hK dX12_decode_237 ?_
                            refine TT_iadd hK dX12_decode_238 ?_
                            refine pf_X12_398 hK (by decide) rfl dX12_decode_239 ?_
                            refine TT_hp (h' := setO w162_54 73 (fup (fup (fup (w162_54 73) 51 wq) 52 eq) 55 ((3 * lq) + 1))) (up_can (sOf_eq _ _ _) rfl (setO_same _ _ _ _)) ?_
                            have hT_60 : TY (setO w162_54 73 (fup (fup (fup (w162_54 73) 51 wq) 52 eq) 55 ((3 * lq) + 1))) := tu_73_55 hT_59 (show up (setO w162_54 73 (fup (fup (w162_54 73) 51 wq) 52 eq)) 73 55 ((3 * lq) + 1) = (setO w162_54 73 (fup (fup (fup (w162_54 73) 51 wq) 52 eq) 55 ((3 * lq) + 1))) from up_can (sOf_eq _ _ _) rfl (setO_same _ _ _ _)) (by omega)
                            have hF_60 : FRM [73, 77, 78, 79, 80, 81, 82, 83, 84, 85, 86, 87, 88, 93, 94, 95, 96, 97, 98, 99, 101, 102, 103, 104, 105, 106] [2, 26, 27, 28, 29, 32, 33, 34, 36, 38, 39, 42, 43, 44, 45, 50, 51, 52, 55] h (setO w162_54 73 (fup (fup (fup (w162_54 73) 51 wq) 52 eq) 55 ((3 * lq) + 1))) := FRM_f (show up (setO w162_54 73 (fup (fup (w162_54 73) 51 wq) 52 eq)) 73 55 ((3 * lq) + 1) = (setO w162_54 73 (fup (fup (fup (w162_54 73) 51 wq) 52 eq) 55 ((3 * lq) + 1))) from up_can (sOf_eq _ _ _) rfl (setO_same _ _ _ _)) hF_59 (by decide) (by decide)
                            refine TT_iconst hK dX12_decode_242 ?_
                            refine TT_istore hK (lv' := [(8, vI 0), (0, vR 73), (1, vI n), (2, vI wq), (3, vI eq), (4, vI lq), (5, vI k)]) (by decide) rfl dX12_decode_243 ?_
                            have L245_61 : ∀ (k61 : Nat) (b : Int) (w245_61 : Hp_), TY w245_61 → FRM [73, 77, 78, 79, 80, 81, 82, 83, 84, 85, 86, 87, 88, 93, 94, 95, 96, 97, 98, 99, 101, 102, 103, 104, 105, 106] [2, 26, 27, 28, 29, 32, 33, 34, 36, 38, 39, 42, 43, 44, 45, 50, 51, 52, 55] h w245_61 → (0 ≤ b ∧ b ≤ 3 * lq + 1) → ((w245_61 73 55) = 3 * lq + 1) → (PSQ (w245_61 103) (w245_61 102) n) → (PAQ (w245_61 103) (w245_61 101) (w245_61 102)) → (∀ j : Int, 0 ≤ j → j < 3 * lq + 1 → (w245_61 80) (10 + j) = BW wq lq j) → (∀ j : Int, 0 ≤ j → j < 3 * lq + 1 → (w245_61 81) (10 + j) = BH eq lq j) → ((∀ q : Int, q < 10 → (w245_61 80) q = h 80 q ∧ (w245_61 81) q = h 81 q) ∧ (∀ j : Int, j < 640 → (w245_61 84) j = h 84 j ∧ (w245_61 85) j = h 85 j)) → (∀ q : Int, q < 10 → (w245_61 83) q = h 83 q) → ((10 : Int) - b).toNat < k61 → TT K ly 0 0 245 [(0, vR 73), (1, vI n), (2, vI wq), (3, vI eq), (4, vI lq), (5, vI k), (8, vI b)] [] w245_61 := by
                              intro k61
                              induction k61 with
                              | zero => intro b w245_61 hT245_61 hF245_61 hb k55 hps2 hpa hbw hbh kq k83i hk61; exact absurd hk61 (Nat.not_lt_zero _)
                              | succ k61 ih61 =>
                                intro b w245_61 hT245_61 hF245_61 hb k55 hps2 hpa hbw hbh kq k83i hk61
                                refine TT_iload hK 6 rfl dX12_decode_245 ?_
                                refine TT_aload_n hK rfl 0 rfl dX12_decode_247 ?_
                                refine gf_X12_398 hK (by decide) rfl (v := (w245_61 73) 55) rfl dX12_decode_248 ?_
                                have r62 := ty_73_55 (v := (w245_61 73) 55) hT245_61 rfl
                                refine TT_icmp_ge hK (tgt := 298) (irm (by omega) (by omega)) (irm (by omega) (by omega)) dX12_decode_251 (by decide) (fun hb251_63 => ?_) (fun hb251_63 => ?_)
                                · refine TT_iload hK 4 rfl dX12_decode_298 ?_
                                  refine TT_iconst hK dX12_decode_300 ?_
                                  refine TT_isub hK dX12_decode_301 ?_
                                  refine TT_istore hK (lv' := [(8, vI (lq - 1)), (0, vR 73), (1, vI n), (2, vI wq), (3, vI eq), (4, vI lq), (5, vI k)]) (by decide) rfl dX12_decode_302 ?_
                                  have L304_64 : ∀ (k64 : Nat) (l2 : Int) (w304_64 : Hp_), TY w304_64 → FRM [73, 77, 78, 79, 80, 81, 82, 83, 84, 85, 86, 87, 88, 93, 94, 95, 96, 97, 98, 99, 101, 102, 103, 104, 105, 106] [2, 26, 27, 28, 29, 32, 33, 34, 36, 38, 39, 42, 43, 44, 45, 50, 51, 52, 55] h w304_64 → (-1 ≤ l2 ∧ l2 ≤ lq - 1) → ((∀ q : Int, q < 10 → (w304_64 80) q = h 80 q ∧ (w304_64 81) q = h 81 q) ∧ (∀ j : Int, j < 640 → (w304_64 84) j = h 84 j ∧ (w304_64 85) j = h 85 j)) → (∀ q : Int, q < 10 → (w304_64 83) q = h 83 q) → (l2 + 1).toNat < k64 → TT K ly 0 0 304 [(0, vR 73), (1, vI n), (2, vI wq), (3, vI eq), (4, vI lq), (5, vI k), (8, vI l2)] [] w304_64 := by
                                    intro k64
                                    induction k64 with
                                    | zero => intro l2 w304_64 hT304_64 hF304_64 hl2 kq k83i hk64; exact absurd hk64 (Nat.not_lt_zero _)
                                    | succ k64 ih64 =>
                                      intro l2 w304_64 hT304_64 hF304_64 hl2 kq k83i hk64
                                      refine TT_iload hK 6 rfl dX12_decode_304 ?_
                                      refine TT_if_lt hK (tgt := 349) (irm (by omega) (by omega)) dX12_decode_306 (by decide) (fun hb306_65 => ?_) (fun hb306_65 => ?_)
                                      · refine TT_iconst hK dX12_decode_349 ?_
                                        refine TT_istore hK (lv' := [(8, vI 0), (0, vR 73), (1, vI n), (2, vI wq), (3, vI eq), (4, vI lq), (5, vI k)]) (by decide) rfl dX12_decode_350 ?_
                                        have L352_66 : ∀ (k66 : Nat) (k2 : Int) (w352_66 : Hp_), TY w352_66 → FRM [73, 77, 78, 79, 80, 81, 82, 83, 84, 85, 86, 87, 88, 93, 94, 95, 96, 97, 98, 99, 101, 102, 103, 104, 105, 106] [2, 26, 27, 28, 29, 32, 33, 34, 36, 38, 39, 42, 43, 44, 45, 50, 51, 52, 55] h w352_66 → (0 ≤ k2 ∧ k2 ≤ 64) → ((∀ q : Int, q < 10 → (w352_66 80) q = h 80 q ∧ (w352_66 81) q = h 81 q) ∧ (∀ j : Int, j < 640 → (w352_66 84) j = h 84 j ∧ (w352_66 85) j = h 85 j)) → (∀ q : Int, q < 10 → (w352_66 83) q = h 83 q) → ((64 : Int) - k2).toNat < k66 → TT K ly 0 0 352 [(0, vR 73), (1, vI n), (2, vI wq), (3, vI eq), (4, vI lq), (5, vI k), (8, vI k2)] [] w352_66 := by
                                          intro k66
                                          induction k66 with
                                          | zero => intro k2 w352_66 hT352_66 hF352_66 hk2 kq k83i hk66; exact absurd hk66 (Nat.not_lt_zero _)
                                          | succ k66 ih66 =>
                                            intro k2 w352_66 hT352_66 hF352_66 hk2 kq k83i hk66
                                            refine TT_iload hK 6 rfl dX12_decode_352 ?_
                                            refine TT_bipush hK (by decide) dX12_decode_354 ?_
                                            refine TT_icmp_ge hK (tgt := 410) (irm (by omega) (by omega)) (by decide) dX12_decode_356 (by decide) (fun hb356_67 => ?_) (fun hb356_67 => ?_)
                                            · refine TT_iload hK 5 rfl dX12_decode_410 ?_
                                              refine TT_iret hK hQ ?_ dX12_decode_412
                                              exact ⟨⟨hT352_66, hF352_66⟩, k, rfl, (by omega), (by exact kq), (by first | exact k83i | (intro q hq; rfl) | (intro q hq; exact fup_ne _ _ (by omega)) | (intro q hq; rw [fup_ne _ _ (by omega)]; exact k83i q hq))⟩
                                            · refine TT_aload_n hK rfl 0 rfl dX12_decode_359 ?_
                                              refine gf_X12_26 hK (by decide) rfl (q := 77) rfl rfl dX12_decode_360 ?_
                                              refine TT_iload hK 6 rfl dX12_decode_363 ?_
                                              refine TT_iald hK (o := 77) (n := 64) (by decide) rfl (by first | omega | (simp [up, setR] <;> omega)) (by first | omega | (simp [up, setR] <;> omega)) (v := (w352_66 77) k2) rfl dX12_decode_365 ?_
                                              have r68 := ty_77 (i := k2) (v := (w352_66 77) k2) hT352_66 rfl (by omega) (by omega)
                                              refine TT_sipush hK (by decide) dX12_decode_366 ?_
                                              refine TT_iadd hK dX12_decode_369 ?_
                                              refine TT_w32 (fun x370_69 hx69 => ?_)
                                              refine TT_istore hK (lv' := [(9, vI x370_69), (0, vR 73), (1, vI n), (2, vI wq), (3, vI eq), (4, vI lq), (5, vI k), (8, vI k2)]) (by decide) rfl dX12_decode_370 ?_
                                              refine TT_aload_n hK rfl 1 rfl dX12_decode_372 ?_
                                              refine gf_X12_111 hK (by decide) rfl (q := 105) rfl rfl dX12_decode_373 ?_
                                              refine TT_iload hK 7 rfl dX12_decode_376 ?_
                                              refine TT_iload hK 0 rfl dX12_decode_378 ?_
                                              refine TT_if_ge hK (tgt := 387) (irm (by omega) (by omega)) dX12_decode_380 (by decide) (fun hb380_70 => ?_) (fun hb380_70 => ?_)
                                              · refine TT_iload hK 0 rfl dX12_decode_387 ?_
                                                refine TT_sipush hK (by decide) dX12_decode_389 ?_
                                                refine TT_icmp_le hK (tgt := 401) (irm (by omega) (by omega)) (by decide) dX12_decode_392 (by decide) (fun hb392_71 => ?_) (fun hb392_71 => ?_)
                                                · refine TT_iload hK 0 rfl dX12_decode_401 ?_
                                                  refine TT_iast hK (o := 105) (n := 64) (by decide) rfl (by omega) (by omega) dX12_decode_403 ?_
                                                  refine TT_hp (h' := setO w352_66 105 (fup (w352_66 105) k2 x370_69)) (up_can rfl rfl rfl) ?_
                                                  have hT_72 : TY (setO w352_66 105 (fup (w352_66 105) k2 x370_69)) := tu_105 hT352_66 (show up w352_66 105 k2 x370_69 = (setO w352_66 105 (fup (w352_66 105) k2 x370_69)) from up_can rfl rfl rfl) (by omega)
                                                  have hF_72 : FRM [73, 77, 78, 79, 80, 81, 82, 83, 84, 85, 86, 87, 88, 93, 94, 95, 96, 97, 98, 99, 101, 102, 103, 104, 105, 106] [2, 26, 27, 28, 29, 32, 33, 34, 36, 38, 39, 42, 43, 44, 45, 50, 51, 52, 55] h (setO w352_66 105 (fup (w352_66 105) k2 x370_69)) := FRM_up (show up w352_66 105 k2 x370_69 = (setO w352_66 105 (fup (w352_66 105) k2 x370_69)) from up_can rfl rfl rfl) hF352_66 (by decide) (by decide)
                                                  refine TT_iinc hK (v := k2 + 1) (lv' := [(8, vI (k2 + 1)), (9, vI x370_69), (0, vR 73), (1, vI n), (2, vI wq), (3, vI eq), (4, vI lq), (5, vI k)]) 7 rfl rfl (by decide) rfl dX12_decode_404 ?_
                                                  refine TT_goto hK (tgt := 352) dX12_decode_407 (by decide) ?_
                                                  refine TT_sub [2, 3, 4, 5, 6, 7, 0] rfl ?_
                                                  have e73_80 : (setO w352_66 105 (fup (w352_66 105) k2 x370_69)) 80 = w352_66 80 := sOf_ne _ _ (by decide)
                                                  have e74_81 : (setO w352_66 105 (fup (w352_66 105) k2 x370_69)) 81 = w352_66 81 := sOf_ne _ _ (by decide)
                                                  have e75_84 : (setO w352_66 105 (fup (w352_66 105) k2 x370_69)) 84 = w352_66 84 := sOf_ne _ _ (by decide)
                                                  have e76_85 : (setO w352_66 105 (fup (w352_66 105) k2 x370_69)) 85 = w352_66 85 := sOf_ne _ _ (by decide)
                                                  have e77_83 : (setO w352_66 105 (fup (w352_66 105) k2 x370_69)) 83 = w352_66 83 := sOf_ne _ _ (by decide)
                                                  exact ih66 (k2 + 1) (setO w352_66 105 (fup (w352_66 105) k2 x370_69)) hT_72 hF_72 (by first | omega | (simp [up, setR] <;> omega)) (by rewrite [e73_80, e74_81, e75_84, e76_85]; exact kq) (by rewrite [e77_83]; first | exact k83i | (intro q hq; rfl) | (intro q hq; exact fup_ne _ _ (by omega)) | (intro q hq; rw [fup_ne _ _ (by omega)]; exact k83i q hq)) (by first | omega | (simp [up, setR] <;> omega))
                                                · refine TT_sipush hK (by decide) dX12_decode_395 ?_
                                                  refine TT_goto hK (tgt := 403) dX12_decode_398 (by decide) ?_
                                                  refine TT_iast hK (o := 105) (n := 64) (by decide) rfl (by omega) (by omega) dX12_decode_403 ?_
                                                  refine TT_hp (h' := setO w352_66 105 (fup (w352_66 105) k2 255)) (up_can rfl rfl rfl) ?_
                                                  have hT_78 : TY (setO w352_66 105 (fup (w352_66 105) k2 255)) := tu_105 hT352_66 (show up w352_66 105 k2 255 = (setO w352_66 105 (fup (w352_66 105) k2 255)) from up_can rfl rfl rfl) (by omega)
                                                  have hF_78 : FRM [73, 77, 78, 79, 80, 81, 82, 83, 84, 85, 86, 87, 88, 93, 94, 95, 96, 97, 98, 99, 101, 102, 103, 104, 105, 106] [2, 26, 27, 28, 29, 32, 33, 34, 36, 38, 39, 42, 43, 44, 45, 50, 51, 52, 55] h (setO w352_66 105 (fup (w352_66 105) k2 255)) := FRM_up (show up w352_66 105 k2 255 = (setO w352_66 105 (fup (w352_66 105) k2 255)) from up_can rfl rfl rfl) hF352_66 (by decide) (by decide)
                                                  refine TT_iinc hK (v := k2 + 1) (lv' := [(8, vI (k2 + 1)), (9, vI x370_69), (0, vR 73), (1, vI n), (2, vI wq), (3, vI eq), (4, vI lq), (5, vI k)]) 7 rfl rfl (by decide) rfl dX12_decode_404 ?_
                                                  refine TT_goto hK (tgt := 352) dX12_decode_407 (by decide) ?_
                                                  refine TT_sub [2, 3, 4, 5, 6, 7, 0] rfl ?_
                                                  have e79_80 : (setO w352_66 105 (fup (w352_66 105) k2 255)) 80 = w352_66 80 := sOf_ne _ _ (by decide)
                                                  have e80_81 : (setO w352_66 105 (fup (w352_66 105) k2 255)) 81 = w352_66 81 := sOf_ne _ _ (by decide)
                                                  have e81_84 : (setO w352_66 105 (fup (w352_66 105) k2 255)) 84 = w352_66 84 := sOf_ne _ _ (by decide)
                                                  have e82_85 : (setO w352_66 105 (fup (w352_66 105) k2 255)) 85 = w352_66 85 := sOf_ne _ _ (by decide)
                                                  have e83_83 : (setO w352_66 105 (fup (w352_66 105) k2 255)) 83 = w352_66 83 := sOf_ne _ _ (by decide)
                                                  exact ih66 (k2 + 1) (setO w352_66 105 (fup (w352_66 105) k2 255)) hT_78 hF_78 (by first | omega | (simp [up, setR] <;> omega)) (by rewrite [e79_80, e80_81, e81_84, e82_85]; exact kq) (by rewrite [e83_83]; first | exact k83i | (intro q hq; rfl) | (intro q hq; exact fup_ne _ _ (by omega)) | (intro q hq; rw [fup_ne _ _ (by omega)]; exact k83i q hq)) (by first | omega | (simp [up, setR] <;> omega))
                                              · refine TT_iconst hK dX12_decode_383 ?_
                                                refine TT_goto hK (tgt := 403) dX12_decode_384 (by decide) ?_
                                                refine TT_iast hK (o := 105) (n := 64) (by decide) rfl (by omega) (by omega) dX12_decode_403 ?_
                                                refine TT_hp (h' := setO w352_66 105 (fup (w352_66 105) k2 0)) (up_can rfl rfl rfl) ?_
                                                have hT_84 : TY (setO w352_66 105 (fup (w352_66 105) k2 0)) := tu_105 hT352_66 (show up w352_66 105 k2 0 = (setO w352_66 105 (fup (w352_66 105) k2 0)) from up_can rfl rfl rfl) (by omega)
                                                have hF_84 : FRM [73, 77, 78, 79, 80, 81, 82, 83, 84, 85, 86, 87, 88, 93, 94, 95, 96, 97, 98, 99, 101, 102, 103, 104, 105, 106] [2, 26, 27, 28, 29, 32, 33, 34, 36, 38, 39, 42, 43, 44, 45, 50, 51, 52, 55] h (setO w352_66 105 (fup (w352_66 105) k2 0)) := FRM_up (show up w352_66 105 k2 0 = (setO w352_66 105 (fup (w352_66 105) k2 0)) from up_can rfl rfl rfl) hF352_66 (by decide) (by decide)
                                                refine TT_iinc hK (v := k2 + 1) (lv' := [(8, vI (k2 + 1)), (9, vI x370_69), (0, vR 73), (1, vI n), (2, vI wq), (3, vI eq), (4, vI lq), (5, vI k)]) 7 rfl rfl (by decide) rfl dX12_decode_404 ?_
                                                refine TT_goto hK (tgt := 352) dX12_decode_407 (by decide) ?_
                                                refine TT_sub [2, 3, 4, 5, 6, 7, 0] rfl ?_
                                                have e85_80 : (setO w352_66 105 (fup (w352_66 105) k2 0)) 80 = w352_66 80 := sOf_ne _ _ (by decide)
                                                have e86_81 : (setO w352_66 105 (fup (w352_66 105) k2 0)) 81 = w352_66 81 := sOf_ne _ _ (by decide)
                                                have e87_84 : (setO w352_66 105 (fup (w352_66 105) k2 0)) 84 = w352_66 84 := sOf_ne _ _ (by decide)
                                                have e88_85 : (setO w352_66 105 (fup (w352_66 105) k2 0)) 85 = w352_66 85 := sOf_ne _ _ (by decide)
                                                have e89_83 : (setO w352_66 105 (fup (w352_66 105) k2 0)) 83 = w352_66 83 := sOf_ne _ _ (by decide)
                                                exact ih66 (k2 + 1) (setO w352_66 105 (fup (w352_66 105) k2 0)) hT_84 hF_84 (by first | omega | (simp [up, setR] <;> omega)) (by rewrite [e85_80, e86_81, e87_84, e88_85]; exact kq) (by rewrite [e89_83]; first | exact k83i | (intro q hq; rfl) | (intro q hq; exact fup_ne _ _ (by omega)) | (intro q hq; rw [fup_ne _ _ (by omega)]; exact k83i q hq)) (by first | omega | (simp [up, setR] <;> omega))
                                        refine TT_sub [1, 2, 3, 4, 5, 6, 0] rfl ?_
                                        exact L352_66 ((((64 : Int) - 0).toNat) + 1) 0 w304_64 hT304_64 hF304_64 (by first | omega | (simp [up, setR] <;> omega)) (by exact kq) (by first | exact k83i | (intro q hq; rfl) | (intro q hq; exact fup_ne _ _ (by omega)) | (intro q hq; rw [fup_ne _ _ (by omega)]; exact k83i q hq)) (Nat.lt_succ_self _)
                                      · refine TT_aload_n hK rfl 0 rfl dX12_decode_309 ?_
                                        refine TT_iload_n hK rfl 2 rfl dX12_decode_310 ?_
                                        refine TT_iload hK 6 rfl dX12_decode_311 ?_
                                        refine iv_X12_153 hK (s_X12_left wq l2 w304_64 hT304_64 (by first | omega | (simp [up, setR] <;> omega)) (by first | omega | (simp [up, setR] <;> omega))) ⟨by decide, by decide⟩ (by decide) rfl rfl (Nat.le_of_ble_eq_true rfl) ⟨by decide, by decide⟩ dX12_decode_313 ?_
                                        intro r9 g313_90 hp9
                                        obtain ⟨⟨hT_90, hG_90⟩, z313_90, hr9, hz_90, p1_90⟩ := hp9
                                        rw [hr9]
                                        have hF_90 : FRM [73, 77, 78, 79, 80, 81, 82, 83, 84, 85, 86, 87, 88, 93, 94, 95, 96, 97, 98, 99, 101, 102, 103, 104, 105, 106] [2, 26, 27, 28, 29, 32, 33, 34, 36, 38, 39, 42, 43, 44, 45, 50, 51, 52, 55] h g313_90 := FRM_tr hF304_64 hG_90 (by decide) (by decide)
                                        show TT K ly 0 0 316 [(0, vR 73), (1, vI n), (2, vI wq), (3, vI eq), (4, vI lq), (5, vI k), (8, vI l2)] [vI z313_90, vR 73] g313_90
                                        refine TT_iload_n hK rfl 3 rfl dX12_decode_316 ?_
                                        refine TT_iload hK 6 rfl dX12_decode_317 ?_
                                        refine iv_X12_153 hK (s_X12_left eq l2 g313_90 hT_90 (by first | omega | (simp [up, setR] <;> omega)) (by first | omega | (simp [up, setR] <;> omega))) ⟨by decide, by decide⟩ (by decide) rfl rfl (Nat.le_of_ble_eq_true rfl) ⟨by decide, by decide⟩ dX12_decode_319 ?_
                                        intro r9 g319_91 hp9
                                        obtain ⟨⟨hT_91, hG_91⟩, z319_91, hr9, hz_91, p1_91⟩ := hp9
                                        rw [hr9]
                                        have hF_91 : FRM [73, 77, 78, 79, 80, 81, 82, 83, 84, 85, 86, 87, 88, 93, 94, 95, 96, 97, 98, 99, 101, 102, 103, 104, 105, 106] [2, 26, 27, 28, 29, 32, 33, 34, 36, 38, 39, 42, 43, 44, 45, 50, 51, 52, 55] h g319_91 := FRM_tr hF_90 hG_91 (by decide) (by decide)
                                        show TT K ly 0 0 322 [(0, vR 73), (1, vI n), (2, vI wq), (3, vI eq), (4, vI lq), (5, vI k), (8, vI l2)] [vI z319_91, vI z313_90, vR 73] g319_91
                                        refine TT_iconst hK dX12_decode_322 ?_
                                        refine iv_X12_339 hK (s_rows_1 z313_90 z319_91 g319_91 hT_91 (by first | omega | (simp [up, setR] <;> omega)) (by first | omega | (simp [up, setR] <;> omega))) (by decide) rfl ⟨by decide, by decide⟩ (by decide) rfl rfl (Nat.le_of_ble_eq_true rfl) ⟨by decide, by decide⟩ dX12_decode_323 ?_
                                        intro r9 g323_92 hp9
                                        obtain ⟨⟨hT_92, hG_92⟩, hr9⟩ := hp9
                                        rw [hr9]
                                        have hF_92 : FRM [73, 77, 78, 79, 80, 81, 82, 83, 84, 85, 86, 87, 88, 93, 94, 95, 96, 97, 98, 99, 101, 102, 103, 104, 105, 106] [2, 26, 27, 28, 29, 32, 33, 34, 36, 38, 39, 42, 43, 44, 45, 50, 51, 52, 55] h g323_92 := FRM_tr hF_91 hG_92 (by decide) (by decide)
                                        show TT K ly 0 0 326 [(0, vR 73), (1, vI n), (2, vI wq), (3, vI eq), (4, vI lq), (5, vI k), (8, vI l2)] [] g323_92
                                        refine TT_aload_n hK rfl 0 rfl dX12_decode_326 ?_
                                        refine TT_iload_n hK rfl 2 rfl dX12_decode_327 ?_
                                        refine TT_iload hK 6 rfl dX12_decode_328 ?_
                                        refine iv_X12_153 hK (s_X12_left wq l2 g323_92 hT_92 (by first | omega | (simp [up, setR] <;> omega)) (by first | omega | (simp [up, setR] <;> omega))) ⟨by decide, by decide⟩ (by decide) rfl rfl (Nat.le_of_ble_eq_true rfl) ⟨by decide, by decide⟩ dX12_decode_330 ?_
                                        intro r9 g330_93 hp9
                                        obtain ⟨⟨hT_93, hG_93⟩, z330_93, hr9, hz_93, p1_93⟩ := hp9
                                        rw [hr9]
                                        have hF_93 : FRM [73, 77, 78, 79, 80, 81, 82, 83, 84, 85, 86, 87, 88, 93, 94, 95, 96, 97, 98, 99, 101, 102, 103, 104, 105, 106] [2, 26, 27, 28, 29, 32, 33, 34, 36, 38, 39, 42, 43, 44, 45, 50, 51, 52, 55] h g330_93 := FRM_tr hF_92 hG_93 (by decide) (by decide)
                                        show TT K ly 0 0 333 [(0, vR 73), (1, vI n), (2, vI wq), (3, vI eq), (4, vI lq), (5, vI k), (8, vI l2)] [vI z330_93, vR 73] g330_93
                                        refine TT_iload_n hK rfl 3 rfl dX12_decode_333 ?_
                                        refine TT_iload hK 6 rfl dX12_decode_334 ?_
                                        refine iv_X12_153 hK (s_X12_left eq l2 g330_93 hT_93 (by first | omega | (simp [up, setR] <;> omega)) (by first | omega | (simp [up, setR] <;> omega))) ⟨by decide, by decide⟩ (by decide) rfl rfl (Nat.le_of_ble_eq_true rfl) ⟨by decide, by decide⟩ dX12_decode_336 ?_
                                        intro r9 g336_94 hp9
                                        obtain ⟨⟨hT_94, hG_94⟩, z336_94, hr9, hz_94, p1_94⟩ := hp9
                                        rw [hr9]
                                        have hF_94 : FRM [73, 77, 78, 79, 80, 81, 82, 83, 84, 85, 86, 87, 88, 93, 94, 95, 96, 97, 98, 99, 101, 102, 103, 104, 105, 106] [2, 26, 27, 28, 29, 32, 33, 34, 36, 38, 39, 42, 43, 44, 45, 50, 51, 52, 55] h g336_94 := FRM_tr hF_93 hG_94 (by decide) (by decide)
                                        show TT K ly 0 0 339 [(0, vR 73), (1, vI n), (2, vI wq), (3, vI eq), (4, vI lq), (5, vI k), (8, vI l2)] [vI z336_94, vI z330_93, vR 73] g336_94
                                        refine TT_iconst hK dX12_decode_339 ?_
                                        refine iv_X12_335 hK (s_columns_1 z330_93 z336_94 g336_94 hT_94 (by first | omega | (simp [up, setR] <;> omega)) (by first | omega | (simp [up, setR] <;> omega))) (by decide) rfl ⟨by decide, by decide⟩ (by decide) rfl rfl (Nat.le_of_ble_eq_true rfl) ⟨by decide, by decide⟩ dX12_decode_340 ?_
                                        intro r9 g340_95 hp9
                                        obtain ⟨⟨hT_95, hG_95⟩, hr9⟩ := hp9
                                        rw [hr9]
                                        have hF_95 : FRM [73, 77, 78, 79, 80, 81, 82, 83, 84, 85, 86, 87, 88, 93, 94, 95, 96, 97, 98, 99, 101, 102, 103, 104, 105, 106] [2, 26, 27, 28, 29, 32, 33, 34, 36, 38, 39, 42, 43, 44, 45, 50, 51, 52, 55] h g340_95 := FRM_tr hF_94 hG_95 (by decide) (by decide)
                                        show TT K ly 0 0 343 [(0, vR 73), (1, vI n), (2, vI wq), (3, vI eq), (4, vI lq), (5, vI k), (8, vI l2)] [] g340_95
                                        refine TT_iinc hK (v := l2 - 1) (lv' := [(8, vI (l2 - 1)), (0, vR 73), (1, vI n), (2, vI wq), (3, vI eq), (4, vI lq), (5, vI k)]) 6 rfl (by omega) (by decide) rfl dX12_decode_343 ?_
                                        refine TT_goto hK (tgt := 304) dX12_decode_346 (by decide) ?_
                                        refine TT_sub [1, 2, 3, 4, 5, 6, 0] rfl ?_
                                        have e96_80 : g340_95 80 = w304_64 80 := ((hG_95.1 80 (by decide))).trans (((hG_94.1 80 (by decide))).trans (((hG_93.1 80 (by decide))).trans (((hG_92.1 80 (by decide))).trans (((hG_91.1 80 (by decide))).trans (hG_90.1 80 (by decide))))))
                                        have e97_81 : g340_95 81 = w304_64 81 := ((hG_95.1 81 (by decide))).trans (((hG_94.1 81 (by decide))).trans (((hG_93.1 81 (by decide))).trans (((hG_92.1 81 (by decide))).trans (((hG_91.1 81 (by decide))).trans (hG_90.1 81 (by decide))))))
                                        have e98_84 : g340_95 84 = w304_64 84 := ((hG_95.1 84 (by decide))).trans (((hG_94.1 84 (by decide))).trans (((hG_93.1 84 (by decide))).trans (((hG_92.1 84 (by decide))).trans (((hG_91.1 84 (by decide))).trans (hG_90.1 84 (by decide))))))
                                        have e99_85 : g340_95 85 = w304_64 85 := ((hG_95.1 85 (by decide))).trans (((hG_94.1 85 (by decide))).trans (((hG_93.1 85 (by decide))).trans (((hG_92.1 85 (by decide))).trans (((hG_91.1 85 (by decide))).trans (hG_90.1 85 (by decide))))))
                                        have e100_83 : g340_95 83 = w304_64 83 := ((hG_95.1 83 (by decide))).trans (((hG_94.1 83 (by decide))).trans (((hG_93.1 83 (by decide))).trans (((hG_92.1 83 (by decide))).trans (((hG_91.1 83 (by decide))).trans (hG_90.1 83 (by decide))))))
                                        exact ih64 (l2 - 1) g340_95 hT_95 hF_95 (by first | omega | (simp [up, setR] <;> omega)) (by rewrite [e96_80, e97_81, e98_84, e99_85]; exact kq) (by rewrite [e100_83]; first | exact k83i | (intro q hq; rfl) | (intro q hq; exact fup_ne _ _ (by omega)) | (intro q hq; rw [fup_ne _ _ (by omega)]; exact k83i q hq)) (by first | omega | (simp [up, setR] <;> omega))
                                  refine TT_sub [1, 2, 3, 4, 5, 6, 0] rfl ?_
                                  exact L304_64 ((((lq - 1) + 1).toNat) + 1) (lq - 1) w245_61 hT245_61 hF245_61 (by first | omega | (simp [up, setR] <;> omega)) (by exact kq) (by first | exact k83i | (intro q hq; rfl) | (intro q hq; exact fup_ne _ _ (by omega)) | (intro q hq; rw [fup_ne _ _ (by omega)]; exact k83i q hq)) (Nat.lt_succ_self _)
                                · have k103 := ty_103 (i := b) (v := (w245_61 103) b) hT245_61 rfl (by omega) (by omega)
                                  have p103 := hps2 b (by omega) (by omega) k103.2
                                  refine TT_aload_n hK rfl 0 rfl dX12_decode_254 ?_
                                  refine gf_X12_114 hK (by decide) rfl (q := 106) rfl rfl dX12_decode_255 ?_
                                  refine TT_iload hK 6 rfl dX12_decode_258 ?_
                                  refine TT_aload_n hK rfl 0 rfl dX12_decode_260 ?_
                                  refine gf_X12_57 hK (by decide) rfl (q := 87) rfl rfl dX12_decode_261 ?_
                                  refine TT_bipush hK (by decide) dX12_decode_264 ?_
                                  refine TT_iload hK 6 rfl dX12_decode_266 ?_
                                  refine TT_iadd hK dX12_decode_268 ?_
                                  refine TT_iald hK (o := 87) (n := 20) (by decide) rfl (by first | omega | (simp [up, setR] <;> omega)) (by first | omega | (simp [up, setR] <;> omega)) (v := (w245_61 87) (10 + b)) rfl dX12_decode_269 ?_
                                  have r101 := ty_87 (i := 10 + b) (v := (w245_61 87) (10 + b)) hT245_61 rfl (by omega) (by omega)
                                  refine TT_iast hK (o := 106) (n := 10) (by decide) rfl (by omega) (by omega) dX12_decode_270 ?_
                                  refine TT_hp (h' := setO w245_61 106 (fup (w245_61 106) b ((w245_61 87) (10 + b)))) (up_can rfl rfl rfl) ?_
                                  have hT_102 : TY (setO w245_61 106 (fup (w245_61 106) b ((w245_61 87) (10 + b)))) := tu_106 hT245_61 (show up w245_61 106 b ((w245_61 87) (10 + b)) = (setO w245_61 106 (fup (w245_61 106) b ((w245_61 87) (10 + b)))) from up_can rfl rfl rfl) (by omega)
                                  have hF_102 : FRM [73, 77, 78, 79, 80, 81, 82, 83, 84, 85, 86, 87, 88, 93, 94, 95, 96, 97, 98, 99, 101, 102, 103, 104, 105, 106] [2, 26, 27, 28, 29, 32, 33, 34, 36, 38, 39, 42, 43, 44, 45, 50, 51, 52, 55] h (setO w245_61 106 (fup (w245_61 106) b ((w245_61 87) (10 + b)))) := FRM_up (show up w245_61 106 b ((w245_61 87) (10 + b)) = (setO w245_61 106 (fup (w245_61 106) b ((w245_61 87) (10 + b)))) from up_can rfl rfl rfl) hF245_61 (by decide) (by decide)
                                  refine TT_aload_n hK rfl 0 rfl dX12_decode_271 ?_
                                  refine TT_iload hK 6 rfl dX12_decode_272 ?_
                                  have e103_74 : (setO w245_61 106 (fup (w245_61 106) b ((w245_61 87) (10 + b)))) 74 = h 74 := (sOf_ne _ _ (by decide)).trans (hF245_61.1 74 (by decide))
                                  have e104_75 : (setO w245_61 106 (fup (w245_61 106) b ((w245_61 87) (10 + b)))) 75 = h 75 := (sOf_ne _ _ (by decide)).trans (hF245_61.1 75 (by decide))
                                  have e105_102 : (setO w245_61 106 (fup (w245_61 106) b ((w245_61 87) (10 + b)))) 102 = w245_61 102 := sOf_ne _ _ (by decide)
                                  have e106_103 : (setO w245_61 106 (fup (w245_61 106) b ((w245_61 87) (10 + b)))) 103 = w245_61 103 := sOf_ne _ _ (by decide)
                                  have e107_101 : (setO w245_61 106 (fup (w245_61 106) b ((w245_61 87) (10 + b)))) 101 = w245_61 101 := sOf_ne _ _ (by decide)
                                  have e108_102 : (setO w245_61 106 (fup (w245_61 106) b ((w245_61 87) (10 + b)))) 102 = w245_61 102 := sOf_ne _ _ (by decide)
                                  have e109_103 : (setO w245_61 106 (fup (w245_61 106) b ((w245_61 87) (10 + b)))) 103 = w245_61 103 := sOf_ne _ _ (by decide)
                                  refine iv_X12_401 hK (s_readBand_k b (setO w245_61 106 (fup (w245_61 106) b ((w245_61 87) (10 + b)))) hT_102 (by first | omega | (simp [up, setR] <;> omega)) (by rewrite [e103_74, e104_75]; first | assumption | exact htb) (by rewrite [e105_102, e106_103]; omega) (by rewrite [e107_101, e108_102, e109_103]; intro k h1 h2; exact hpa b k (by omega) (by omega) h1 h2 (by omega))) (by decide) rfl ⟨by decide, by decide⟩ (by decide) rfl rfl (Nat.le_of_ble_eq_true rfl) ⟨by decide, by decide⟩ dX12_decode_274 ?_
                                  intro r9 g274_110 hp9
                                  obtain ⟨⟨hT_110, hG_110⟩, hr9, pk_110⟩ := hp9
                                  rw [hr9]
                                  have hF_110 : FRM [73, 77, 78, 79, 80, 81, 82, 83, 84, 85, 86, 87, 88, 93, 94, 95, 96, 97, 98, 99, 101, 102, 103, 104, 105, 106] [2, 26, 27, 28, 29, 32, 33, 34, 36, 38, 39, 42, 43, 44, 45, 50, 51, 52, 55] h g274_110 := FRM_tr hF_102 hG_110 (by decide) (by decide)
                                  rw [show (setO w245_61 106 (fup (w245_61 106) b ((w245_61 87) (10 + b)))) 84 = w245_61 84 from sOf_ne _ _ (by decide)] at pk_110
                                  rw [show (setO w245_61 106 (fup (w245_61 106) b ((w245_61 87) (10 + b)))) 85 = w245_61 85 from sOf_ne _ _ (by decide)] at pk_110
                                  have pk_at274 := pk_110
                                  show TT K ly 0 0 277 [(0, vR 73), (1, vI n), (2, vI wq), (3, vI eq), (4, vI lq), (5, vI k), (8, vI b)] [] g274_110
                                  refine TT_aload_n hK rfl 0 rfl dX12_decode_277 ?_
                                  refine TT_iload hK 6 rfl dX12_decode_278 ?_
                                  refine TT_iload hK 6 rfl dX12_decode_280 ?_
                                  refine TT_iload_n hK rfl 2 rfl dX12_decode_282 ?_
                                  refine TT_iload_n hK rfl 3 rfl dX12_decode_283 ?_
                                  refine TT_iload hK 4 rfl dX12_decode_284 ?_
                                  refine iv_X12_348 hK (s_corner_x b wq eq lq g274_110 hT_110 (by first | omega | (simp [up, setR] <;> omega)) (by first | omega | (simp [up, setR] <;> omega)) (by first | omega | (simp [up, setR] <;> omega)) (by first | omega | (simp [up, setR] <;> omega))) ⟨by decide, by decide⟩ (by decide) rfl rfl (Nat.le_of_ble_eq_true rfl) ⟨by decide, by decide⟩ dX12_decode_286 ?_
                                  intro r9 g286_111 hp9
                                  obtain ⟨⟨hT_111, hG_111⟩, z286_111, hr9, hz_111, p1_111⟩ := hp9
                                  rw [hr9]
                                  have hF_111 : FRM [73, 77, 78, 79, 80, 81, 82, 83, 84, 85, 86, 87, 88, 93, 94, 95, 96, 97, 98, 99, 101, 102, 103, 104, 105, 106] [2, 26, 27, 28, 29, 32, 33, 34, 36, 38, 39, 42, 43, 44, 45, 50, 51, 52, 55] h g286_111 := FRM_tr hF_110 hG_111 (by decide) (by decide)
                                  have p1_at286 := p1_111
                                  show TT K ly 0 0 289 [(0, vR 73), (1, vI n), (2, vI wq), (3, vI eq), (4, vI lq), (5, vI k), (8, vI b)] [vI z286_111, vI b, vR 73] g286_111
                                  have e112_80 : g286_111 80 = w245_61 80 := ((hG_111.1 80 (by decide))).trans (((hG_110.1 80 (by decide))).trans (sOf_ne _ _ (by decide)))
                                  have e113_81 : g286_111 81 = w245_61 81 := ((hG_111.1 81 (by decide))).trans (((hG_110.1 81 (by decide))).trans (sOf_ne _ _ (by decide)))
                                  refine iv_X12_404 hK (s_X12_unloadBand_73 b z286_111 g286_111 hT_111 (by first | omega | (simp [up, setR] <;> omega)) (by rewrite [e112_80, e113_81]; rw [hbw b (by omega) (by omega), hbh b (by omega) (by omega)]; exact p1_at286)) (by decide) rfl ⟨by decide, by decide⟩ (by decide) rfl rfl (Nat.le_of_ble_eq_true rfl) ⟨by decide, by decide⟩ dX12_decode_289 ?_
                                  intro r9 g289_114 hp9
                                  obtain ⟨⟨hT_114, hG_114⟩, hr9⟩ := hp9
                                  rw [hr9]
                                  have hF_114 : FRM [73, 77, 78, 79, 80, 81, 82, 83, 84, 85, 86, 87, 88, 93, 94, 95, 96, 97, 98, 99, 101, 102, 103, 104, 105, 106] [2, 26, 27, 28, 29, 32, 33, 34, 36, 38, 39, 42, 43, 44, 45, 50, 51, 52, 55] h g289_114 := FRM_tr hF_111 hG_114 (by decide) (by decide)
                                  show TT K ly 0 0 292 [(0, vR 73), (1, vI n), (2, vI wq), (3, vI eq), (4, vI lq), (5, vI k), (8, vI b)] [] g289_114
                                  refine TT_iinc hK (v := b + 1) (lv' := [(8, vI (b + 1)), (0, vR 73), (1, vI n), (2, vI wq), (3, vI eq), (4, vI lq), (5, vI k)]) 6 rfl rfl (by decide) rfl dX12_decode_292 ?_
                                  refine TT_goto hK (tgt := 245) dX12_decode_295 (by decide) ?_
                                  refine TT_sub [1, 2, 3, 4, 5, 6, 0] rfl ?_
                                  have e115_73_55 : g289_114 73 55 = (w245_61 73) 55 := (congrFun (hG_114.1 73 (by decide)) 55).trans ((congrFun (hG_111.1 73 (by decide)) 55).trans (((hG_110.2 55 (by decide))).trans (rd_ (sOf_ne _ _ (by decide)) rfl)))
                                  have e116_102 : g289_114 102 = w245_61 102 := ((hG_114.1 102 (by decide))).trans (((hG_111.1 102 (by decide))).trans (((hG_110.1 102 (by decide))).trans (sOf_ne _ _ (by decide))))
                                  have e117_103 : g289_114 103 = w245_61 103 := ((hG_114.1 103 (by decide))).trans (((hG_111.1 103 (by decide))).trans (((hG_110.1 103 (by decide))).trans (sOf_ne _ _ (by decide))))
                                  have e118_101 : g289_114 101 = w245_61 101 := ((hG_114.1 101 (by decide))).trans (((hG_111.1 101 (by decide))).trans (((hG_110.1 101 (by decide))).trans (sOf_ne _ _ (by decide))))
                                  have e119_102 : g289_114 102 = w245_61 102 := ((hG_114.1 102 (by decide))).trans (((hG_111.1 102 (by decide))).trans (((hG_110.1 102 (by decide))).trans (sOf_ne _ _ (by decide))))
                                  have e120_103 : g289_114 103 = w245_61 103 := ((hG_114.1 103 (by decide))).trans (((hG_111.1 103 (by decide))).trans (((hG_110.1 103 (by decide))).trans (sOf_ne _ _ (by decide))))
                                  have e121_80 : g289_114 80 = w245_61 80 := ((hG_114.1 80 (by decide))).trans (((hG_111.1 80 (by decide))).trans (((hG_110.1 80 (by decide))).trans (sOf_ne _ _ (by decide))))
                                  have e122_81 : g289_114 81 = w245_61 81 := ((hG_114.1 81 (by decide))).trans (((hG_111.1 81 (by decide))).trans (((hG_110.1 81 (by decide))).trans (sOf_ne _ _ (by decide))))
                                  have e123_80 : g289_114 80 = w245_61 80 := ((hG_114.1 80 (by decide))).trans (((hG_111.1 80 (by decide))).trans (((hG_110.1 80 (by decide))).trans (sOf_ne _ _ (by decide))))
                                  have e124_81 : g289_114 81 = w245_61 81 := ((hG_114.1 81 (by decide))).trans (((hG_111.1 81 (by decide))).trans (((hG_110.1 81 (by decide))).trans (sOf_ne _ _ (by decide))))
                                  have e125_84 : g289_114 84 = g274_110 84 := ((hG_114.1 84 (by decide))).trans (hG_111.1 84 (by decide))
                                  have e126_85 : g289_114 85 = g274_110 85 := ((hG_114.1 85 (by decide))).trans (hG_111.1 85 (by decide))
                                  have e127_83 : g289_114 83 = w245_61 83 := ((hG_114.1 83 (by decide))).trans (((hG_111.1 83 (by decide))).trans (((hG_110.1 83 (by decide))).trans (sOf_ne _ _ (by decide))))
                                  exact ih61 (b + 1) g289_114 hT_114 hF_114 (by first | omega | (simp [up, setR] <;> omega)) (by rewrite [e115_73_55]; first | omega | (simp [up, setR] <;> omega)) (by rewrite [e116_102, e117_103]; exact hps2) (by rewrite [e118_101, e119_102, e120_103]; exact hpa) (by rewrite [e121_80]; exact hbw) (by rewrite [e122_81]; exact hbh) (by rewrite [e123_80, e124_81, e125_84, e126_85]; exact ⟨kq.1, fun j hj => ⟨(pk_at274 j hj).1.trans (kq.2 j hj).1, (pk_at274 j hj).2.trans (kq.2 j hj).2⟩⟩) (by rewrite [e127_83]; first | exact k83i | (intro q hq; rfl) | (intro q hq; exact fup_ne _ _ (by omega)) | (intro q hq; rw [fup_ne _ _ (by omega)]; exact k83i q hq)) (by first | omega | (simp [up, setR] <;> omega))
                            refine TT_sub [1, 2, 3, 4, 5, 6, 0] rfl ?_
                            have e128_73_55 : (setO w162_54 73 (fup (fup (fup (w162_54 73) 51 wq) 52 eq) 55 ((3 * lq) + 1))) 73 55 = (3 * lq) + 1 := rd_ (sOf_eq _ _ _) (fup_eq _ _ _)
                            have e129_102 : (setO w162_54 73 (fup (fup (fup (w162_54 73) 51 wq) 52 eq) 55 ((3 * lq) + 1))) 102 = w162_54 102 := sOf_ne _ _ (by decide)
                            have e130_103 : (setO w162_54 73 (fup (fup (fup (w162_54 73) 51 wq) 52 eq) 55 ((3 * lq) + 1))) 103 = w162_54 103 := sOf_ne _ _ (by decide)
                            have e131_101 : (setO w162_54 73 (fup (fup (fup (w162_54 73) 51 wq) 52 eq) 55 ((3 * lq) + 1))) 101 = w162_54 101 := sOf_ne _ _ (by decide)
                            have e132_102 : (setO w162_54 73 (fup (fup (fup (w162_54 73) 51 wq) 52 eq) 55 ((3 * lq) + 1))) 102 = w162_54 102 := sOf_ne _ _ (by decide)
                            have e133_103 : (setO w162_54 73 (fup (fup (fup (w162_54 73) 51 wq) 52 eq) 55 ((3 * lq) + 1))) 103 = w162_54 103 := sOf_ne _ _ (by decide)
                            have e134_80 : (setO w162_54 73 (fup (fup (fup (w162_54 73) 51 wq) 52 eq) 55 ((3 * lq) + 1))) 80 = w162_54 80 := sOf_ne _ _ (by decide)
                            have e135_81 : (setO w162_54 73 (fup (fup (fup (w162_54 73) 51 wq) 52 eq) 55 ((3 * lq) + 1))) 81 = w162_54 81 := sOf_ne _ _ (by decide)
                            have e136_80 : (setO w162_54 73 (fup (fup (fup (w162_54 73) 51 wq) 52 eq) 55 ((3 * lq) + 1))) 80 = w162_54 80 := sOf_ne _ _ (by decide)
                            have e137_81 : (setO w162_54 73 (fup (fup (fup (w162_54 73) 51 wq) 52 eq) 55 ((3 * lq) + 1))) 81 = w162_54 81 := sOf_ne _ _ (by decide)
                            have e138_84 : (setO w162_54 73 (fup (fup (fup (w162_54 73) 51 wq) 52 eq) 55 ((3 * lq) + 1))) 84 = w162_54 84 := sOf_ne _ _ (by decide)
                            have e139_85 : (setO w162_54 73 (fup (fup (fup (w162_54 73) 51 wq) 52 eq) 55 ((3 * lq) + 1))) 85 = w162_54 85 := sOf_ne _ _ (by decide)
                            have e140_83 : (setO w162_54 73 (fup (fup (fup (w162_54 73) 51 wq) 52 eq) 55 ((3 * lq) + 1))) 83 = w162_54 83 := sOf_ne _ _ (by decide)
                            exact L245_61 ((((10 : Int) - 0).toNat) + 1) 0 (setO w162_54 73 (fup (fup (fup (w162_54 73) 51 wq) 52 eq) 55 ((3 * lq) + 1))) hT_60 hF_60 (by first | omega | (simp [up, setR] <;> omega)) (by rewrite [e128_73_55]; first | omega | (simp [up, setR] <;> omega)) (by rewrite [e129_102, e130_103]; exact hps.2) (by rewrite [e131_101, e132_102, e133_103]; exact hpa) (by rewrite [e134_80]; exact hbw) (by rewrite [e135_81]; exact hbh) (by rewrite [e136_80, e137_81, e138_84, e139_85]; exact kq) (by rewrite [e140_83]; first | exact k83i | (intro q hq; rfl) | (intro q hq; exact fup_ne _ _ (by omega)) | (intro q hq; rw [fup_ne _ _ (by omega)]; exact k83i q hq)) (Nat.lt_succ_self _)
                          · refine TT_aload_n hK rfl 0 rfl dX12_decode_216 ?_
                            refine TT_iconst hK dX12_decode_217 ?_
                            refine iv_X12_385 hK (s_X12_refuse_73 1 w162_54 hT162_54 (by first | omega | (simp [up, setR] <;> omega))) (by decide) rfl ⟨by decide, by decide⟩ (by decide) rfl rfl (Nat.le_of_ble_eq_true rfl) ⟨by decide, by decide⟩ dX12_decode_218 ?_
                            intro r9 g218_141 hp9
                            obtain ⟨⟨hT_141, hG_141⟩, z218_141, hr9, hz_141⟩ := hp9
                            rw [hr9]
                            have hF_141 : FRM [73, 77, 78, 79, 80, 81, 82, 83, 84, 85, 86, 87, 88, 93, 94, 95, 96, 97, 98, 99, 101, 102, 103, 104, 105, 106] [2, 26, 27, 28, 29, 32, 33, 34, 36, 38, 39, 42, 43, 44, 45, 50, 51, 52, 55] h g218_141 := FRM_tr hF162_54 hG_141 (by decide) (by decide)
                            show TT K ly 0 0 221 [(0, vR 73), (1, vI n), (2, vI wq), (3, vI eq), (4, vI lq), (5, vI k)] [vI z218_141] g218_141
                            refine TT_iret hK hQ ?_ dX12_decode_221
                            have e142_80 : g218_141 80 = w162_54 80 := (hG_141.1 80 (by decide))
                            have e143_81 : g218_141 81 = w162_54 81 := (hG_141.1 81 (by decide))
                            have e144_84 : g218_141 84 = w162_54 84 := (hG_141.1 84 (by decide))
                            have e145_85 : g218_141 85 = w162_54 85 := (hG_141.1 85 (by decide))
                            have e146_83 : g218_141 83 = w162_54 83 := (hG_141.1 83 (by decide))
                            exact ⟨⟨hT_141, hF_141⟩, z218_141, rfl, (by omega), (by rewrite [e142_80, e143_81, e144_84, e145_85]; exact kq), (by rewrite [e146_83]; first | exact k83i | (intro q hq; rfl) | (intro q hq; exact fup_ne _ _ (by omega)) | (intro q hq; rw [fup_ne _ _ (by omega)]; exact k83i q hq))⟩
                        refine TT_iload hK 6 rfl dX12_decode_162 ?_
                        refine TT_if_lt hK (tgt := 209) (irm (by omega) (by omega)) dX12_decode_164 (by decide) (fun hb164_147 => ?_) (fun hb164_147 => ?_)
                        · refine TT_sub [0, 1, 2, 3, 4, 5] rfl ?_
                          exact J209_55  
                        · refine TT_iload hK 5 rfl dX12_decode_167 ?_
                          refine TT_iload hK 7 rfl dX12_decode_169 ?_
                          refine TT_icmp_ge hK (tgt := 209) (irm (by omega) (by omega)) (irm (by omega) (by omega)) dX12_decode_171 (by decide) (fun hb171_148 => ?_) (fun hb171_148 => ?_)
                          · refine TT_sub [0, 1, 2, 3, 4, 5] rfl ?_
                            exact J209_55  
                          · refine TT_aload_n hK rfl 0 rfl dX12_decode_174 ?_
                            refine TT_iload hK 5 rfl dX12_decode_175 ?_
                            refine TT_iload hK 4 rfl dX12_decode_177 ?_
                            refine TT_iconst hK dX12_decode_179 ?_
                            refine TT_iadd hK dX12_decode_180 ?_
                            refine TT_iremn hK (irm (by omega) (by omega)) (irm (by omega) (by omega)) (by first | omega | (simp [up, setR] <;> omega)) (by first | omega | (simp [up, setR] <;> omega)) dX12_decode_181 ?_
                            refine TT_nmI (fun u9 hu9 => ?_)
                            refine TT_iload hK 6 rfl dX12_decode_182 ?_
                            have hu := pu3 k (l := lq) (by omega)
                            rw [← hu9] at hu
                            refine TT_iload_n hK rfl 1 rfl dX12_decode_184 ?_
                            refine iv_X12_388 hK (s_getPacket_z u9 f n w162_54 hT162_54 (by first | omega | (simp [up, setR] <;> omega)) (by first | omega | (simp [up, setR] <;> omega)) (by first | omega | (simp [up, setR] <;> omega)) (by exact PQ_2 hpq (by omega) (by omega) (by omega) hu9) (by exact hps.1 (by omega)) (by exact hpa)) (by decide) rfl ⟨by decide, by decide⟩ (by decide) rfl rfl (Nat.le_of_ble_eq_true rfl) ⟨by decide, by decide⟩ dX12_decode_185 ?_
                            intro r9 g185_149 hp9
                            obtain ⟨⟨hT_149, hG_149⟩, z185_149, hr9, hz_149, q0_149, q1_149, q2_149, k83_149⟩ := hp9
                            rw [hr9]
                            have hF_149 : FRM [73, 77, 78, 79, 80, 81, 82, 83, 84, 85, 86, 87, 88, 93, 94, 95, 96, 97, 98, 99, 101, 102, 103, 104, 105, 106] [2, 26, 27, 28, 29, 32, 33, 34, 36, 38, 39, 42, 43, 44, 45, 50, 51, 52, 55] h g185_149 := FRM_tr hF162_54 hG_149 (by decide) (by decide)
                            have q0_at185 := q0_149
                            have q1_at185 := q1_149
                            have q2_at185 := q2_149
                            have k83_at185 := k83_149
                            show TT K ly 0 0 188 [(0, vR 73), (1, vI n), (2, vI wq), (3, vI eq), (4, vI lq), (5, vI k), (6, vI f), (7, vI al)] [vI z185_149] g185_149
                            refine TT_istore hK (lv' := [(6, vI z185_149), (0, vR 73), (1, vI n), (2, vI wq), (3, vI eq), (4, vI lq), (5, vI k), (7, vI al)]) (by decide) rfl dX12_decode_188 ?_
                            refine TT_iload hK 0 rfl dX12_decode_190 ?_
                            refine TT_if_ge hK (tgt := 200) (irm (by omega) (by omega)) dX12_decode_192 (by decide) (fun hb192_150 => ?_) (fun hb192_150 => ?_)
                            · refine TT_iload hK 6 rfl dX12_decode_200 ?_
                              refine TT_iconst hK dX12_decode_202 ?_
                              refine TT_iadd hK dX12_decode_203 ?_
                              refine TT_istore hK (lv' := [(5, vI (k + 1)), (6, vI z185_149), (0, vR 73), (1, vI n), (2, vI wq), (3, vI eq), (4, vI lq), (7, vI al)]) (by decide) rfl dX12_decode_204 ?_
                              refine TT_goto hK (tgt := 162) dX12_decode_206 (by decide) ?_
                              refine TT_sub [2, 3, 4, 5, 6, 0, 1, 7] rfl ?_
                              have e151_80 : g185_149 80 = w162_54 80 := (hG_149.1 80 (by decide))
                              have e152_81 : g185_149 81 = w162_54 81 := (hG_149.1 81 (by decide))
                              have e153_80 : g185_149 80 = w162_54 80 := (hG_149.1 80 (by decide))
                              have e154_81 : g185_149 81 = w162_54 81 := (hG_149.1 81 (by decide))
                              have e155_84 : g185_149 84 = w162_54 84 := (hG_149.1 84 (by decide))
                              have e156_85 : g185_149 85 = w162_54 85 := (hG_149.1 85 (by decide))
                              exact ih54 (k + 1) z185_149 g185_149 hT_149 hF_149 (by first | omega | (simp [up, setR] <;> omega)) (by first | omega | (simp [up, setR] <;> omega)) (by first | exact PQ_s hpq (by omega) hu9 (q2_at185 (by omega)).1 | (rw [(q1_at185 (by omega)).1]; exact hpq)) (by first | exact ⟨fun _ => (q2_at185 (by omega)).2.1, PSQ_m (q2_at185 (by omega)).2.1 q0_at185⟩ | (rw [(q1_at185 (by omega)).1, (q1_at185 (by omega)).2.1]; exact ⟨fun h1 => by exfalso; omega, hps.2⟩)) (by first | exact (q2_at185 (by omega)).2.2 | (rw [(q1_at185 (by omega)).1, (q1_at185 (by omega)).2.1, (q1_at185 (by omega)).2.2]; exact hpa)) (by rewrite [e151_80]; exact hbw) (by rewrite [e152_81]; exact hbh) (by rewrite [e153_80, e154_81, e155_84, e156_85]; exact kq) (by first | exact k83i | (intro q hq; rfl) | (intro q hq; exact (k83_at185 q hq).trans (k83i q hq)) | exact k83_at185 | (intro q hq; exact fup_ne _ _ (by omega)) | (intro q hq; rw [fup_ne _ _ (by omega)]; exact k83i q hq)) (by first | omega | (simp [up, setR] <;> omega))
                            · refine TT_iload hK 6 rfl dX12_decode_195 ?_
                              refine TT_goto hK (tgt := 204) dX12_decode_197 (by decide) ?_
                              refine TT_istore hK (lv' := [(5, vI k), (6, vI z185_149), (0, vR 73), (1, vI n), (2, vI wq), (3, vI eq), (4, vI lq), (7, vI al)]) (by decide) rfl dX12_decode_204 ?_
                              refine TT_goto hK (tgt := 162) dX12_decode_206 (by decide) ?_
                              refine TT_sub [2, 3, 4, 5, 6, 0, 1, 7] rfl ?_
                              have e157_80 : g185_149 80 = w162_54 80 := (hG_149.1 80 (by decide))
                              have e158_81 : g185_149 81 = w162_54 81 := (hG_149.1 81 (by decide))
                              have e159_80 : g185_149 80 = w162_54 80 := (hG_149.1 80 (by decide))
                              have e160_81 : g185_149 81 = w162_54 81 := (hG_149.1 81 (by decide))
                              have e161_84 : g185_149 84 = w162_54 84 := (hG_149.1 84 (by decide))
                              have e162_85 : g185_149 85 = w162_54 85 := (hG_149.1 85 (by decide))
                              exact ih54 k z185_149 g185_149 hT_149 hF_149 (by first | omega | (simp [up, setR] <;> omega)) (by first | omega | (simp [up, setR] <;> omega)) (by first | exact PQ_s hpq (by omega) hu9 (q2_at185 (by omega)).1 | (rw [(q1_at185 (by omega)).1]; exact hpq)) (by first | exact ⟨fun _ => (q2_at185 (by omega)).2.1, PSQ_m (q2_at185 (by omega)).2.1 q0_at185⟩ | (rw [(q1_at185 (by omega)).1, (q1_at185 (by omega)).2.1]; exact ⟨fun h1 => by exfalso; omega, hps.2⟩)) (by first | exact (q2_at185 (by omega)).2.2 | (rw [(q1_at185 (by omega)).1, (q1_at185 (by omega)).2.1, (q1_at185 (by omega)).2.2]; exact hpa)) (by rewrite [e157_80]; exact hbw) (by rewrite [e158_81]; exact hbh) (by rewrite [e159_80, e160_81, e161_84, e162_85]; exact kq) (by first | exact k83i | (intro q hq; rfl) | (intro q hq; exact (k83_at185 q hq).trans (k83i q hq)) | exact k83_at185 | (intro q hq; exact fup_ne _ _ (by omega)) | (intro q hq; rw [fup_ne _ _ (by omega)]; exact k83i q hq)) (by first | omega | (simp [up, setR] <;> omega))
                    refine TT_sub [3, 4, 5, 6, 7, 2, 1, 0] rfl ?_
                    have e163_103 : (setO w117_50 73 (fup (w117_50 73) 50 0)) 103 = w117_50 103 := sOf_ne _ _ (by decide)
                    have e164_102 : (setO w117_50 73 (fup (w117_50 73) 50 0)) 102 = w117_50 102 := sOf_ne _ _ (by decide)
                    have e165_103 : (setO w117_50 73 (fup (w117_50 73) 50 0)) 103 = w117_50 103 := sOf_ne _ _ (by decide)
                    have e166_101 : (setO w117_50 73 (fup (w117_50 73) 50 0)) 101 = w117_50 101 := sOf_ne _ _ (by decide)
                    have e167_102 : (setO w117_50 73 (fup (w117_50 73) 50 0)) 102 = w117_50 102 := sOf_ne _ _ (by decide)
                    have e168_103 : (setO w117_50 73 (fup (w117_50 73) 50 0)) 103 = w117_50 103 := sOf_ne _ _ (by decide)
                    have e169_80 : (setO w117_50 73 (fup (w117_50 73) 50 0)) 80 = w117_50 80 := sOf_ne _ _ (by decide)
                    have e170_81 : (setO w117_50 73 (fup (w117_50 73) 50 0)) 81 = w117_50 81 := sOf_ne _ _ (by decide)
                    have e171_80 : (setO w117_50 73 (fup (w117_50 73) 50 0)) 80 = w117_50 80 := sOf_ne _ _ (by decide)
                    have e172_81 : (setO w117_50 73 (fup (w117_50 73) 50 0)) 81 = w117_50 81 := sOf_ne _ _ (by decide)
                    have e173_84 : (setO w117_50 73 (fup (w117_50 73) 50 0)) 84 = w117_50 84 := sOf_ne _ _ (by decide)
                    have e174_85 : (setO w117_50 73 (fup (w117_50 73) 50 0)) 85 = w117_50 85 := sOf_ne _ _ (by decide)
                    have e175_83 : (setO w117_50 73 (fup (w117_50 73) 50 0)) 83 = w117_50 83 := sOf_ne _ _ (by decide)
                    have ha := pu2 hal (by omega) (by omega)
                    exact L162_54 (((2 * (al - 0) + min 1 (4 + 1)).toNat) + 1) 0 4 (setO w117_50 73 (fup (w117_50 73) 50 0)) hT_52 hF_52 (by first | omega | (simp [up, setR] <;> omega)) (by first | omega | (simp [up, setR] <;> omega)) (by rewrite [e163_103]; exact PQ_0 (fun t h1 h2 => hpz t h1 (by omega)) (by omega)) (by rewrite [e164_102, e165_103]; exact ⟨fun _ => PSQ_0 (fun t h1 h2 => hpz t h1 (by omega)) (by omega), PSQ_0 (fun t h1 h2 => hpz t h1 (by omega)) (by omega)⟩) (by rewrite [e166_101, e167_102, e168_103]; intro j k h0 h1 h2 h3 h4; rw [hpz j h0 (by omega)] at h3; exfalso; omega) (by rewrite [e169_80]; exact hbw) (by rewrite [e170_81]; exact hbh) (by rewrite [e171_80, e172_81, e173_84, e174_85]; exact kq) (by rewrite [e175_83]; first | exact k83i | (intro q hq; rfl) | (intro q hq; exact fup_ne _ _ (by omega)) | (intro q hq; rw [fup_ne _ _ (by omega)]; exact k83i q hq)) (Nat.lt_succ_self _)
                  · refine TT_aload_n hK rfl 0 rfl dX12_decode_124 ?_
                    refine gf_X12_105 hK (by decide) rfl (q := 103) rfl rfl dX12_decode_125 ?_
                    refine TT_iload hK 5 rfl dX12_decode_128 ?_
                    refine TT_iconst hK dX12_decode_130 ?_
                    refine TT_iast hK (o := 103) (n := 10) (by decide) rfl (by omega) (by omega) dX12_decode_131 ?_
                    refine TT_hp (h' := setO w117_50 103 (fup (w117_50 103) j9 0)) (up_can rfl rfl rfl) ?_
                    have hT_176 : TY (setO w117_50 103 (fup (w117_50 103) j9 0)) := tu_103 hT117_50 (show up w117_50 103 j9 0 = (setO w117_50 103 (fup (w117_50 103) j9 0)) from up_can rfl rfl rfl) (by omega)
                    have hF_176 : FRM [73, 77, 78, 79, 80, 81, 82, 83, 84, 85, 86, 87, 88, 93, 94, 95, 96, 97, 98, 99, 101, 102, 103, 104, 105, 106] [2, 26, 27, 28, 29, 32, 33, 34, 36, 38, 39, 42, 43, 44, 45, 50, 51, 52, 55] h (setO w117_50 103 (fup (w117_50 103) j9 0)) := FRM_up (show up w117_50 103 j9 0 = (setO w117_50 103 (fup (w117_50 103) j9 0)) from up_can rfl rfl rfl) hF117_50 (by decide) (by decide)
                    refine TT_iinc hK (v := j9 + 1) (lv' := [(5, vI (j9 + 1)), (0, vR 73), (1, vI n), (2, vI wq), (3, vI eq), (4, vI lq)]) 5 rfl rfl (by decide) rfl dX12_decode_132 ?_
                    refine TT_goto hK (tgt := 117) dX12_decode_135 (by decide) ?_
                    refine TT_sub [1, 2, 3, 4, 5, 0] rfl ?_
                    have e177_103 : (setO w117_50 103 (fup (w117_50 103) j9 0)) 103 = fup (w117_50 103) j9 0 := sOf_eq _ _ _
                    have e178_80 : (setO w117_50 103 (fup (w117_50 103) j9 0)) 80 = w117_50 80 := sOf_ne _ _ (by decide)
                    have e179_81 : (setO w117_50 103 (fup (w117_50 103) j9 0)) 81 = w117_50 81 := sOf_ne _ _ (by decide)
                    have e180_80 : (setO w117_50 103 (fup (w117_50 103) j9 0)) 80 = w117_50 80 := sOf_ne _ _ (by decide)
                    have e181_81 : (setO w117_50 103 (fup (w117_50 103) j9 0)) 81 = w117_50 81 := sOf_ne _ _ (by decide)
                    have e182_84 : (setO w117_50 103 (fup (w117_50 103) j9 0)) 84 = w117_50 84 := sOf_ne _ _ (by decide)
                    have e183_85 : (setO w117_50 103 (fup (w117_50 103) j9 0)) 85 = w117_50 85 := sOf_ne _ _ (by decide)
                    have e184_83 : (setO w117_50 103 (fup (w117_50 103) j9 0)) 83 = w117_50 83 := sOf_ne _ _ (by decide)
                    exact ih50 (j9 + 1) (setO w117_50 103 (fup (w117_50 103) j9 0)) hT_176 hF_176 (by first | omega | (simp [up, setR] <;> omega)) (by rewrite [e177_103]; intro t h1 h2; by_cases e : t = j9; (rw [e, fup_eq]); (rw [fup_ne _ _ e]; exact hpz t h1 (by omega))) (by rewrite [e178_80]; exact hbw) (by rewrite [e179_81]; exact hbh) (by rewrite [e180_80, e181_81, e182_84, e183_85]; exact kq) (by rewrite [e184_83]; first | exact k83i | (intro q hq; rfl) | (intro q hq; exact fup_ne _ _ (by omega)) | (intro q hq; rw [fup_ne _ _ (by omega)]; exact k83i q hq)) (by first | omega | (simp [up, setR] <;> omega))
              refine TT_sub [4, 5, 3, 2, 1, 0] rfl ?_
              have e185_103 : g111_49 103 = h 103 := ((hG_49.1 103 (by decide))).trans (((hG_47.1 103 (by decide))).trans (((hG_39.1 103 (by decide))).trans (((hG_31.1 103 (by decide))).trans (((hG_23.1 103 (by decide))).trans (sOf_ne _ _ (by decide))))))
              exact L117_50 ((((10 : Int) - 0).toNat) + 1) 0 g111_49 hT_49 hF_49 (by first | omega | (simp [up, setR] <;> omega)) (by rewrite [e185_103]; intro t h1 h2; exfalso; omega) (by exact q1_at111) (by exact q2_at111) (by exact q6_at111 rfl) (by exact q10_at111 rfl) (Nat.lt_succ_self _)
            · have e186_80 : g70_47 80 = h 80 := ((hG_47.1 80 (by decide))).trans (((hG_39.1 80 (by decide))).trans (((hG_31.1 80 (by decide))).trans (((hG_23.1 80 (by decide))).trans (sOf_ne _ _ (by decide)))))
              have e187_81 : g70_47 81 = h 81 := ((hG_47.1 81 (by decide))).trans (((hG_39.1 81 (by decide))).trans (((hG_31.1 81 (by decide))).trans (((hG_23.1 81 (by decide))).trans (sOf_ne _ _ (by decide)))))
              have e188_84 : g70_47 84 = h 84 := ((hG_47.1 84 (by decide))).trans (((hG_39.1 84 (by decide))).trans (((hG_31.1 84 (by decide))).trans (((hG_23.1 84 (by decide))).trans (sOf_ne _ _ (by decide)))))
              have e189_85 : g70_47 85 = h 85 := ((hG_47.1 85 (by decide))).trans (((hG_39.1 85 (by decide))).trans (((hG_31.1 85 (by decide))).trans (((hG_23.1 85 (by decide))).trans (sOf_ne _ _ (by decide)))))
              have e190_83 : g70_47 83 = h 83 := ((hG_47.1 83 (by decide))).trans (((hG_39.1 83 (by decide))).trans (((hG_31.1 83 (by decide))).trans (((hG_23.1 83 (by decide))).trans (sOf_ne _ _ (by decide)))))
              exact J76_2 g70_47 hT_47 hF_47 (by rewrite [e186_80, e187_81, e188_84, e189_85]; exact ⟨fun q hq => ⟨rfl, rfl⟩, fun j hj => ⟨rfl, rfl⟩⟩) (by rewrite [e190_83]; first | (intro q hq; rfl) | (intro q hq; exact fup_ne _ _ (by omega)))

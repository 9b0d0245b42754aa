set_option maxRecDepth 20000 in
theorem s_X12_getPacket_73 (u f n : Int) (h : Hp_) (hT : TY h) (hu : 0 ≤ u ∧ u ≤ 3) (hf : 0 ≤ f ∧ f ≤ n) (hn : n ≤ 4400) (hp2 : ∀ j : Int, FS u ≤ j → j ≤ 3 * u → (h 103) j ≤ 2) (hps : PSQ (h 103) (h 102) f) (hpa : PAQ (h 103) (h 101) (h 102)) : Ctr yX12_getPacket cX12_getPacket 8 (some .int) (rmd 4) ly ly 0 0 [vR 73, vI u, vI f, vI n] h (fun r h' => (TY h' ∧ FRM [73, 83, 86, 87, 88, 101, 102, 103, 104] [42, 43, 44, 45, 50] h h') ∧ ∃ z : Int, r = some (vI z) ∧ (-1 ≤ z ∧ z ≤ 4400) ∧ (z ≤ n) ∧ (z < 0 → (h' 103) = (h 103) ∧ (h' 102) = (h 102) ∧ (h' 101) = (h 101)) ∧ (0 ≤ z → (∀ j : Int, (FS u ≤ j → j ≤ 3 * u → (h' 103) j = (h 103) j + 1) ∧ (j < FS u ∨ 3 * u < j → (h' 103) j = (h 103) j)) ∧ PSQ (h' 103) (h' 102) z ∧ PAQ (h' 103) (h' 101) (h' 102))) := by
  refine Ctr_of (by decide) (Nat.le_of_ble_eq_true rfl) ⟨Nat.le_refl _, Nat.le_refl _⟩ (fun K hK hQ _ => ?_)
  show TT K ly 0 0 0 [(0, vR 73), (1, vI u), (2, vI f), (3, vI n)] [] h
  have hF : FRM [73, 83, 86, 87, 88, 101, 102, 103, 104] [42, 43, 44, 45, 50] h h := FRM_rf _ _ _
  have hfs := FS_r (r := u) hu
  refine TT_aload_n hK rfl 0 rfl dX12_getPacket_0 ?_
  refine TT_iload_n hK rfl 2 rfl dX12_getPacket_1 ?_
  refine pf_X12_311 hK (by decide) rfl dX12_getPacket_2 ?_
  refine TT_hp (h' := setO h 73 (fup (h 73) 42 f)) (up_can rfl rfl rfl) ?_
  have hT_1 : TY (setO h 73 (fup (h 73) 42 f)) := tu_73_42 hT (show up h 73 42 f = (setO h 73 (fup (h 73) 42 f)) from up_can rfl rfl rfl) (by omega)
  have hF_1 : FRM [73, 83, 86, 87, 88, 101, 102, 103, 104] [42, 43, 44, 45, 50] h (setO h 73 (fup (h 73) 42 f)) := FRM_f (show up h 73 42 f = (setO h 73 (fup (h 73) 42 f)) from up_can rfl rfl rfl) hF (by decide) (by decide)
  refine TT_aload_n hK rfl 0 rfl dX12_getPacket_5 ?_
  refine TT_iconst hK dX12_getPacket_6 ?_
  refine pf_X12_314 hK (by decide) rfl dX12_getPacket_7 ?_
  refine TT_hp (h' := setO h 73 (fup (fup (h 73) 42 f) 43 0)) (up_can (sOf_eq _ _ _) rfl (setO_same _ _ _ _)) ?_
  have hT_2 : TY (setO h 73 (fup (fup (h 73) 42 f) 43 0)) := tu_73_43 hT_1 (show up (setO h 73 (fup (h 73) 42 f)) 73 43 0 = (setO h 73 (fup (fup (h 73) 42 f) 43 0)) from up_can (sOf_eq _ _ _) rfl (setO_same _ _ _ _)) (by omega)
  have hF_2 : FRM [73, 83, 86, 87, 88, 101, 102, 103, 104] [42, 43, 44, 45, 50] h (setO h 73 (fup (fup (h 73) 42 f) 43 0)) := FRM_f (show up (setO h 73 (fup (h 73) 42 f)) 73 43 0 = (setO h 73 (fup (fup (h 73) 42 f) 43 0)) from up_can (sOf_eq _ _ _) rfl (setO_same _ _ _ _)) hF_1 (by decide) (by decide)
  refine TT_aload_n hK rfl 0 rfl dX12_getPacket_10 ?_
  refine TT_iload_n hK rfl 3 rfl dX12_getPacket_11 ?_
  refine pf_X12_368 hK (by decide) rfl dX12_getPacket_12 ?_
  refine TT_hp (h' := setO h 73 (fup (fup (fup (h 73) 42 f) 43 0) 44 n)) (up_can (sOf_eq _ _ _) rfl (setO_same _ _ _ _)) ?_
  have hT_3 : TY (setO h 73 (fup (fup (fup (h 73) 42 f) 43 0) 44 n)) := tu_73_44 hT_2 (show up (setO h 73 (fup (fup (h 73) 42 f) 43 0)) 73 44 n = (setO h 73 (fup (fup (fup (h 73) 42 f) 43 0) 44 n)) from up_can (sOf_eq _ _ _) rfl (setO_same _ _ _ _)) (by omega)
  have hF_3 : FRM [73, 83, 86, 87, 88, 101, 102, 103, 104] [42, 43, 44, 45, 50] h (setO h 73 (fup (fup (fup (h 73) 42 f) 43 0) 44 n)) := FRM_f (show up (setO h 73 (fup (fup (h 73) 42 f) 43 0)) 73 44 n = (setO h 73 (fup (fup (fup (h 73) 42 f) 43 0) 44 n)) from up_can (sOf_eq _ _ _) rfl (setO_same _ _ _ _)) hF_2 (by decide) (by decide)
  refine TT_aload_n hK rfl 0 rfl dX12_getPacket_15 ?_
  refine TT_iconst hK dX12_getPacket_16 ?_
  refine pf_X12_365 hK (by decide) rfl (by first | decide | omega) dX12_getPacket_17 ?_
  refine TT_hp (h' := setO h 73 (fup (fup (fup (fup (h 73) 42 f) 43 0) 44 n) 45 0)) (up_can (sOf_eq _ _ _) rfl (setO_same _ _ _ _)) ?_
  have hT_4 : TY (setO h 73 (fup (fup (fup (fup (h 73) 42 f) 43 0) 44 n) 45 0)) := tu_73_45 hT_3 (show up (setO h 73 (fup (fup (fup (h 73) 42 f) 43 0) 44 n)) 73 45 0 = (setO h 73 (fup (fup (fup (fup (h 73) 42 f) 43 0) 44 n) 45 0)) from up_can (sOf_eq _ _ _) rfl (setO_same _ _ _ _)) (by omega)
  have hF_4 : FRM [73, 83, 86, 87, 88, 101, 102, 103, 104] [42, 43, 44, 45, 50] h (setO h 73 (fup (fup (fup (fup (h 73) 42 f) 43 0) 44 n) 45 0)) := FRM_f (show up (setO h 73 (fup (fup (fup (h 73) 42 f) 43 0) 44 n)) 73 45 0 = (setO h 73 (fup (fup (fup (fup (h 73) 42 f) 43 0) 44 n) 45 0)) from up_can (sOf_eq _ _ _) rfl (setO_same _ _ _ _)) hF_3 (by decide) (by decide)
  refine TT_iconst hK dX12_getPacket_20 ?_
  refine TT_istore hK (lv' := [(4, vI 0), (0, vR 73), (1, vI u), (2, vI f), (3, vI n)]) (by decide) rfl dX12_getPacket_21 ?_
  have L23_5 : ∀ (k5 : Nat) (k : Int) (w23_5 : Hp_), TY w23_5 → FRM [73, 83, 86, 87, 88, 101, 102, 103, 104] [42, 43, 44, 45, 50] h w23_5 → (0 ≤ k ∧ k ≤ 10) → (8 * f ≤ 8 * (w23_5 73 42) + (w23_5 73 43)) → ((w23_5 101) = h 101) → ((w23_5 102) = h 102) → ((w23_5 103) = h 103) → ((10 : Int) - k).toNat < k5 → TT K ly 0 0 23 [(0, vR 73), (1, vI u), (2, vI f), (3, vI n), (4, vI k)] [] w23_5 := by
    intro k5
    induction k5 with
    | zero => intro k w23_5 hT23_5 hF23_5 hk hau k101 k102 k103 hk5; exact absurd hk5 (Nat.not_lt_zero _)
    | succ k5 ih5 =>
      intro k w23_5 hT23_5 hF23_5 hk hau k101 k102 k103 hk5
      refine TT_iload hK 4 rfl dX12_getPacket_23 ?_
      refine TT_bipush hK (by decide) dX12_getPacket_25 ?_
      refine TT_icmp_ge hK (tgt := 44) (irm (by omega) (by omega)) (by decide) dX12_getPacket_27 (by decide) (fun hb27_6 => ?_) (fun hb27_6 => ?_)
      · have J120_7 : ∀ (w120_7 : Hp_), TY w120_7 → FRM [73, 83, 86, 87, 88, 101, 102, 103, 104] [42, 43, 44, 45, 50] h w120_7 → ((w120_7 101) = h 101) → ((w120_7 102) = h 102) → ((w120_7 103) = h 103) → (8 * f ≤ 8 * (w120_7 73 42) + (w120_7 73 43)) → TT K ly 0 0 120 [(0, vR 73), (1, vI u), (2, vI f), (3, vI n)] [] w120_7 := by
          intro w120_7 hT120_7 hF120_7 k101 k102 k103 hau
          have J142_8 : ∀ (pl : Int), (f ≤ pl ∧ pl ≤ 4401) → TT K ly 0 0 142 [(0, vR 73), (1, vI u), (2, vI f), (3, vI n)] [vJ pl] w120_7 := by
            intro pl hpl
            refine TT_lstore hK (lv' := [(4, vJ pl), (0, vR 73), (1, vI u), (2, vI f), (3, vI n)]) (by decide) rfl dX12_getPacket_142 ?_
            refine TT_lload hK 0 rfl dX12_getPacket_144 ?_
            refine TT_l2i hK dX12_getPacket_146 ?_
            refine TT_istore hK (lv' := [(6, vI pl), (4, vJ pl), (0, vR 73), (1, vI u), (2, vI f), (3, vI n)]) (by decide) rfl dX12_getPacket_147 ?_
            refine TT_iload_n hK rfl 3 rfl dX12_getPacket_149 ?_
            refine iv_X12_326 hK (s_X12_firstOf u w120_7 hT120_7 (by first | omega | (simp [up, setR] <;> omega))) ⟨by decide, by decide⟩ (by decide) rfl rfl (Nat.le_of_ble_eq_true rfl) ⟨by decide, by decide⟩ dX12_getPacket_150 ?_
            intro r9 g150_9 hp9
            obtain ⟨⟨hT_9, hG_9⟩, z150_9, hr9, hz_9, p1_9⟩ := hp9
            rw [hr9]
            have hF_9 : FRM [73, 83, 86, 87, 88, 101, 102, 103, 104] [42, 43, 44, 45, 50] h g150_9 := FRM_tr hF120_7 hG_9 (by decide) (by decide)
            have p1_at150 := p1_9
            show TT K ly 0 0 153 [(6, vI pl), (4, vJ pl), (0, vR 73), (1, vI u), (2, vI f), (3, vI n)] [vI z150_9] g150_9
            refine TT_istore hK (lv' := [(7, vI z150_9), (6, vI pl), (4, vJ pl), (0, vR 73), (1, vI u), (2, vI f), (3, vI n)]) (by decide) rfl dX12_getPacket_153 ?_
            have L155_10 : ∀ (k10 : Nat) (bh : Int) (m : Int) (T4 : Int → Int) (w155_10 : Hp_), TY w155_10 → FRM [73, 83, 86, 87, 88, 101, 102, 103, 104] [42, 43, 44, 45, 50] h w155_10 → (FS u ≤ m ∧ m ≤ 3 * u + 1) → ((w155_10 104) = T4) → (bh = pl + IS T4 m - IS T4 (FS u)) → (0 ≤ bh ∧ bh ≤ 4401 + 536870912 * (m - FS u)) → ((w155_10 101) = h 101) → ((w155_10 102) = h 102) → ((w155_10 103) = h 103) → (3 * u + 1 - m).toNat < k10 → TT K ly 0 0 155 [(0, vR 73), (1, vI u), (2, vI f), (3, vI n), (4, vJ bh), (6, vI pl), (7, vI m)] [] w155_10 := by
              intro k10
              induction k10 with
              | zero => intro bh m T4 w155_10 hT155_10 hF155_10 hb5 hT4 hbh hbh2 k101 k102 k103 hk10; exact absurd hk10 (Nat.not_lt_zero _)
              | succ k10 ih10 =>
                intro bh m T4 w155_10 hT155_10 hF155_10 hb5 hT4 hbh hbh2 k101 k102 k103 hk10
                refine TT_iload hK 6 rfl dX12_getPacket_155 ?_
                refine TT_iconst hK dX12_getPacket_157 ?_
                refine TT_iload_n hK rfl 1 rfl dX12_getPacket_158 ?_
                refine TT_imul hK dX12_getPacket_159 ?_
                refine TT_icmp_gt hK (tgt := 182) (irm (by omega) (by omega)) (irm (by omega) (by omega)) dX12_getPacket_160 (by decide) (fun hb160_11 => ?_) (fun hb160_11 => ?_)
                · have J204_12 : TT K ly 0 0 204 [(0, vR 73)] [] w155_10 := by
                    refine TT_iconst hK dX12_getPacket_204 ?_
                    refine TT_iret hK hQ ?_ dX12_getPacket_205
                    exact ⟨⟨hT155_10, hF155_10⟩, (-1), rfl, (by omega), (by omega), (by first | exact (fun _ => ⟨k103, k102, k101⟩) | (intro h1; exfalso; omega)), (by first | (intro h1; exfalso; omega) | exact (fun _ => ⟨fun j => ⟨fun h2 h3 => (hpc j).1 h2 (by omega), fun h2 => (hpc j).2 (by omega)⟩, hps2, hpa2⟩))⟩
                  have em : IS T4 m = IS T4 (3 * u + 1) := by rw [show m = 3 * u + 1 by omega]
                  refine TT_aload_n hK rfl 0 rfl dX12_getPacket_182 ?_
                  refine gf_X12_375 hK (by decide) rfl (v := (w155_10 73) 50) rfl dX12_getPacket_183 ?_
                  have r13 := ty_73_50 (v := (w155_10 73) 50) hT155_10 rfl
                  refine TT_if_ne hK (tgt := 204) (irm (by omega) (by omega)) dX12_getPacket_186 (by decide) (fun hb186_14 => ?_) (fun hb186_14 => ?_)
                  · refine TT_sub [0] rfl ?_
                    exact J204_12  
                  · refine TT_aload_n hK rfl 0 rfl dX12_getPacket_189 ?_
                    refine gf_X12_365 hK (by decide) rfl (v := (w155_10 73) 45) rfl dX12_getPacket_190 ?_
                    have r15 := ty_73_45 (v := (w155_10 73) 45) hT155_10 rfl
                    refine TT_if_ne hK (tgt := 204) (irm (by omega) (by omega)) dX12_getPacket_193 (by decide) (fun hb193_16 => ?_) (fun hb193_16 => ?_)
                    · refine TT_sub [0] rfl ?_
                      exact J204_12  
                    · refine TT_lload hK 4 rfl dX12_getPacket_196 ?_
                      refine TT_iload_n hK rfl 3 rfl dX12_getPacket_198 ?_
                      refine TT_i2l hK (irm (by omega) (by omega)) dX12_getPacket_199 ?_
                      refine TT_lcmp hK (lrm (by omega) (by omega)) (lrm (by omega) (by omega)) dX12_getPacket_200 ?_
                      refine TT_if_le hK (tgt := 206) (lcmp_ir _ _) dX12_getPacket_201 (by decide) (fun hb201_17 => ?_) (fun hb201_17 => ?_)
                      · have hb201_17 := lcmp_le hb201_17
                        have t4n : ∀ k : Int, 0 ≤ k → k < 3 * u + 1 → 0 ≤ T4 k := fun k h1 h2 => by rw [← hT4]; exact (ty_104 (i := k) hT155_10 rfl h1 (by omega)).1
                        refine TT_iload_n hK rfl 1 rfl dX12_getPacket_206 ?_
                        refine iv_X12_326 hK (s_X12_firstOf u w155_10 hT155_10 (by first | omega | (simp [up, setR] <;> omega))) ⟨by decide, by decide⟩ (by decide) rfl rfl (Nat.le_of_ble_eq_true rfl) ⟨by decide, by decide⟩ dX12_getPacket_207 ?_
                        intro r9 g207_18 hp9
                        obtain ⟨⟨hT_18, hG_18⟩, z207_18, hr9, hz_18, p1_18⟩ := hp9
                        rw [hr9]
                        have hF_18 : FRM [73, 83, 86, 87, 88, 101, 102, 103, 104] [42, 43, 44, 45, 50] h g207_18 := FRM_tr hF155_10 hG_18 (by decide) (by decide)
                        have p1_at207 := p1_18
                        show TT K ly 0 0 210 [(0, vR 73), (1, vI u), (2, vI f), (3, vI n), (4, vJ bh), (6, vI pl), (7, vI m)] [vI z207_18] g207_18
                        refine TT_istore hK (lv' := [(7, vI z207_18), (0, vR 73), (1, vI u), (2, vI f), (3, vI n), (4, vJ bh), (6, vI pl)]) (by decide) rfl dX12_getPacket_210 ?_
                        have L212_19 : ∀ (k19 : Nat) (pl2 : Int) (b : Int) (w212_19 : Hp_), TY w212_19 → FRM [73, 83, 86, 87, 88, 101, 102, 103, 104] [42, 43, 44, 45, 50] h w212_19 → (FS u ≤ b ∧ b ≤ 3 * u + 1) → ((w212_19 104) = T4) → (pl2 = pl + IS T4 b - IS T4 (FS u)) → (∀ j : Int, (FS u ≤ j → j < b → (w212_19 103) j = h 103 j + 1) ∧ (j < FS u ∨ b ≤ j → (w212_19 103) j = h 103 j)) → (PSQ (w212_19 103) (w212_19 102) pl2) → (PAQ (w212_19 103) (w212_19 101) (w212_19 102)) → (3 * u + 1 - b).toNat < k19 → TT K ly 0 0 212 [(0, vR 73), (1, vI u), (2, vI f), (3, vI n), (6, vI pl2), (7, vI b)] [] w212_19 := by
                          intro k19
                          induction k19 with
                          | zero => intro pl2 b w212_19 hT212_19 hF212_19 hb hT4b hpl2 hpc hps2 hpa2 hk19; exact absurd hk19 (Nat.not_lt_zero _)
                          | succ k19 ih19 =>
                            intro pl2 b w212_19 hT212_19 hF212_19 hb hT4b hpl2 hpc hps2 hpa2 hk19
                            have il := IS_mono (f := T4) (b := FS u) (c := b) (by omega) (by omega) (fun k h1 h2 => t4n k h1 (by omega))
                            refine TT_iload hK 5 rfl dX12_getPacket_212 ?_
                            refine TT_iconst hK dX12_getPacket_214 ?_
                            refine TT_iload_n hK rfl 1 rfl dX12_getPacket_215 ?_
                            refine TT_imul hK dX12_getPacket_216 ?_
                            refine TT_icmp_gt hK (tgt := 312) (irm (by omega) (by omega)) (irm (by omega) (by omega)) dX12_getPacket_217 (by decide) (fun hb217_20 => ?_) (fun hb217_20 => ?_)
                            · have eb : IS T4 b = IS T4 (3 * u + 1) := by rw [show b = 3 * u + 1 by omega]
                              refine TT_iload hK 4 rfl dX12_getPacket_312 ?_
                              refine TT_iret hK hQ ?_ dX12_getPacket_314
                              exact ⟨⟨hT212_19, hF212_19⟩, pl2, rfl, (by omega), (by omega), (by first | exact (fun _ => ⟨k103, k102, k101⟩) | (intro h1; exfalso; omega)), (by first | (intro h1; exfalso; omega) | exact (fun _ => ⟨fun j => ⟨fun h2 h3 => (hpc j).1 h2 (by omega), fun h2 => (hpc j).2 (by omega)⟩, hps2, hpa2⟩))⟩
                            · have is1 : IS T4 (b + 1) = IS T4 b + T4 b := IS_s (by omega)
                              have e4 := congrFun hT4b b
                              have t4b := t4n b (by omega) (by omega)
                              have im := IS_mono (f := T4) (b := b + 1) (c := 3 * u + 1) (by omega) (by omega) t4n
                              have hpb := (hpc b).2 (Or.inr (Int.le_refl _))
                              have hp2b := hp2 b (by omega) (by omega)
                              refine TT_aload_n hK rfl 0 rfl dX12_getPacket_220 ?_
                              refine gf_X12_99 hK (by decide) rfl (q := 101) rfl rfl dX12_getPacket_221 ?_
                              refine TT_iconst hK dX12_getPacket_224 ?_
                              refine TT_iload hK 5 rfl dX12_getPacket_225 ?_
                              refine TT_imul hK dX12_getPacket_227 ?_
                              refine TT_aload_n hK rfl 0 rfl dX12_getPacket_228 ?_
                              refine gf_X12_105 hK (by decide) rfl (q := 103) rfl rfl dX12_getPacket_229 ?_
                              refine TT_iload hK 5 rfl dX12_getPacket_232 ?_
                              refine TT_iald hK (o := 103) (n := 10) (by decide) rfl (by first | omega | (simp [up, setR] <;> omega)) (by first | omega | (simp [up, setR] <;> omega)) (v := (w212_19 103) b) rfl dX12_getPacket_234 ?_
                              have r21 := ty_103 (i := b) (v := (w212_19 103) b) hT212_19 rfl (by omega) (by omega)
                              refine TT_iadd hK dX12_getPacket_235 ?_
                              refine TT_iload hK 4 rfl dX12_getPacket_236 ?_
                              refine TT_iast hK (o := 101) (n := 30) (by decide) rfl (by omega) (by omega) dX12_getPacket_238 ?_
                              refine TT_hp (h' := setO w212_19 101 (fup (w212_19 101) ((3 * b) + ((w212_19 103) b)) pl2)) (up_can rfl rfl rfl) ?_
                              have hT_22 : TY (setO w212_19 101 (fup (w212_19 101) ((3 * b) + ((w212_19 103) b)) pl2)) := tu_101 hT212_19 (show up w212_19 101 ((3 * b) + ((w212_19 103) b)) pl2 = (setO w212_19 101 (fup (w212_19 101) ((3 * b) + ((w212_19 103) b)) pl2)) from up_can rfl rfl rfl) (by omega)
                              have hF_22 : FRM [73, 83, 86, 87, 88, 101, 102, 103, 104] [42, 43, 44, 45, 50] h (setO w212_19 101 (fup (w212_19 101) ((3 * b) + ((w212_19 103) b)) pl2)) := FRM_up (show up w212_19 101 ((3 * b) + ((w212_19 103) b)) pl2 = (setO w212_19 101 (fup (w212_19 101) ((3 * b) + ((w212_19 103) b)) pl2)) from up_can rfl rfl rfl) hF212_19 (by decide) (by decide)
                              refine TT_aload_n hK rfl 0 rfl dX12_getPacket_239 ?_
                              refine gf_X12_102 hK (by decide) rfl (q := 102) rfl rfl dX12_getPacket_240 ?_
                              refine TT_iconst hK dX12_getPacket_243 ?_
                              refine TT_iload hK 5 rfl dX12_getPacket_244 ?_
                              refine TT_imul hK dX12_getPacket_246 ?_
                              refine TT_aload_n hK rfl 0 rfl dX12_getPacket_247 ?_
                              refine gf_X12_105 hK (by decide) rfl (q := 103) rfl rfl dX12_getPacket_248 ?_
                              refine TT_iload hK 5 rfl dX12_getPacket_251 ?_
                              refine TT_iald hK (o := 103) (n := 10) (by decide) rfl (by first | omega | (simp [up, setR] <;> omega)) (by first | omega | (simp [up, setR] <;> omega)) (v := (w212_19 103) b) (rd_ (sOf_ne _ _ (by decide)) rfl) dX12_getPacket_253 ?_
                              refine TT_iadd hK dX12_getPacket_254 ?_
                              refine TT_aload_n hK rfl 0 rfl dX12_getPacket_255 ?_
                              refine gf_X12_108 hK (by decide) rfl (q := 104) rfl rfl dX12_getPacket_256 ?_
                              refine TT_iload hK 5 rfl dX12_getPacket_259 ?_
                              refine TT_iald hK (o := 104) (n := 10) (by decide) rfl (by first | omega | (simp [up, setR] <;> omega)) (by first | omega | (simp [up, setR] <;> omega)) (v := (w212_19 104) b) (rd_ (sOf_ne _ _ (by decide)) rfl) dX12_getPacket_261 ?_
                              have r23 := ty_104 (i := b) (v := (w212_19 104) b) hT_22 (rd_ (sOf_ne _ _ (by decide)) rfl) (by omega) (by omega)
                              refine TT_iast hK (o := 102) (n := 30) (by decide) rfl (by omega) (by omega) dX12_getPacket_262 ?_
                              refine TT_hp (h' := setO (setO w212_19 101 (fup (w212_19 101) ((3 * b) + ((w212_19 103) b)) pl2)) 102 (fup (w212_19 102) ((3 * b) + ((w212_19 103) b)) ((w212_19 104) b))) (up_can (sOf_ne _ _ (by decide)) rfl rfl) ?_
                              have hT_24 : TY (setO (setO w212_19 101 (fup (w212_19 101) ((3 * b) + ((w212_19 103) b)) pl2)) 102 (fup (w212_19 102) ((3 * b) + ((w212_19 103) b)) ((w212_19 104) b))) := tu_102 hT_22 (show up (setO w212_19 101 (fup (w212_19 101) ((3 * b) + ((w212_19 103) b)) pl2)) 102 ((3 * b) + ((w212_19 103) b)) ((w212_19 104) b) = (setO (setO w212_19 101 (fup (w212_19 101) ((3 * b) + ((w212_19 103) b)) pl2)) 102 (fup (w212_19 102) ((3 * b) + ((w212_19 103) b)) ((w212_19 104) b))) from up_can (sOf_ne _ _ (by decide)) rfl rfl) (by omega)
                              have hF_24 : FRM [73, 83, 86, 87, 88, 101, 102, 103, 104] [42, 43, 44, 45, 50] h (setO (setO w212_19 101 (fup (w212_19 101) ((3 * b) + ((w212_19 103) b)) pl2)) 102 (fup (w212_19 102) ((3 * b) + ((w212_19 103) b)) ((w212_19 104) b))) := FRM_up (show up (setO w212_19 101 (fup (w212_19 101) ((3 * b) + ((w212_19 103) b)) pl2)) 102 ((3 * b) + ((w212_19 103) b)) ((w212_19 104) b) = (setO (setO w212_19 101 (fup (w212_19 101) ((3 * b) + ((w212_19 103) b)) pl2)) 102 (fup (w212_19 102) ((3 * b) + ((w212_19 103) b)) ((w212_19 104) b))) from up_can (sOf_ne _ _ (by decide)) rfl rfl) hF_22 (by decide) (by decide)
                              refine TT_aload_n hK rfl 0 rfl dX12_getPacket_263 ?_
                              refine gf_X12_105 hK (by decide) rfl (q := 103) rfl rfl dX12_getPacket_264 ?_
                              refine TT_iload hK 5 rfl dX12_getPacket_267 ?_
                              refine TT_dup2 hK rfl rfl dX12_getPacket_269 ?_
                              refine TT_iald hK (o := 103) (n := 10) (by decide) rfl (by first | omega | (simp [up, setR] <;> omega)) (by first | omega | (simp [up, setR] <;> omega)) (v := (w212_19 103) b) (rd_ ((sOf_ne _ _ (by decide)).trans (sOf_ne _ _ (by decide))) rfl) dX12_getPacket_270 ?_
                              refine TT_iconst hK dX12_getPacket_271 ?_
                              refine TT_iadd hK dX12_getPacket_272 ?_
                              refine TT_iast hK (o := 103) (n := 10) (by decide) rfl (by omega) (by omega) dX12_getPacket_273 ?_
                              refine TT_hp (h' := setO (setO (setO w212_19 101 (fup (w212_19 101) ((3 * b) + ((w212_19 103) b)) pl2)) 102 (fup (w212_19 102) ((3 * b) + ((w212_19 103) b)) ((w212_19 104) b))) 103 (fup (w212_19 103) b (((w212_19 103) b) + 1))) (up_can ((sOf_ne _ _ (by decide)).trans (sOf_ne _ _ (by decide))) rfl rfl) ?_
                              have hT_25 : TY (setO (setO (setO w212_19 101 (fup (w212_19 101) ((3 * b) + ((w212_19 103) b)) pl2)) 102 (fup (w212_19 102) ((3 * b) + ((w212_19 103) b)) ((w212_19 104) b))) 103 (fup (w212_19 103) b (((w212_19 103) b) + 1))) := tu_103 hT_24 (show up (setO (setO w212_19 101 (fup (w212_19 101) ((3 * b) + ((w212_19 103) b)) pl2)) 102 (fup (w212_19 102) ((3 * b) + ((w212_19 103) b)) ((w212_19 104) b))) 103 b (((w212_19 103) b) + 1) = (setO (setO (setO w212_19 101 (fup (w212_19 101) ((3 * b) + ((w212_19 103) b)) pl2)) 102 (fup (w212_19 102) ((3 * b) + ((w212_19 103) b)) ((w212_19 104) b))) 103 (fup (w212_19 103) b (((w212_19 103) b) + 1))) from up_can ((sOf_ne _ _ (by decide)).trans (sOf_ne _ _ (by decide))) rfl rfl) (by omega)
                              have hF_25 : FRM [73, 83, 86, 87, 88, 101, 102, 103, 104] [42, 43, 44, 45, 50] h (setO (setO (setO w212_19 101 (fup (w212_19 101) ((3 * b) + ((w212_19 103) b)) pl2)) 102 (fup (w212_19 102) ((3 * b) + ((w212_19 103) b)) ((w212_19 104) b))) 103 (fup (w212_19 103) b (((w212_19 103) b) + 1))) := FRM_up (show up (setO (setO w212_19 101 (fup (w212_19 101) ((3 * b) + ((w212_19 103) b)) pl2)) 102 (fup (w212_19 102) ((3 * b) + ((w212_19 103) b)) ((w212_19 104) b))) 103 b (((w212_19 103) b) + 1) = (setO (setO (setO w212_19 101 (fup (w212_19 101) ((3 * b) + ((w212_19 103) b)) pl2)) 102 (fup (w212_19 102) ((3 * b) + ((w212_19 103) b)) ((w212_19 104) b))) 103 (fup (w212_19 103) b (((w212_19 103) b) + 1))) from up_can ((sOf_ne _ _ (by decide)).trans (sOf_ne _ _ (by decide))) rfl rfl) hF_24 (by decide) (by decide)
                              refine TT_iload hK 4 rfl dX12_getPacket_274 ?_
                              refine TT_aload_n hK rfl 0 rfl dX12_getPacket_276 ?_
                              refine gf_X12_108 hK (by decide) rfl (q := 104) rfl rfl dX12_getPacket_277 ?_
                              refine TT_iload hK 5 rfl dX12_getPacket_280 ?_
                              refine TT_iald hK (o := 104) (n := 10) (by decide) rfl (by first | omega | (simp [up, setR] <;> omega)) (by first | omega | (simp [up, setR] <;> omega)) (v := (w212_19 104) b) (rd_ ((sOf_ne _ _ (by decide)).trans ((sOf_ne _ _ (by decide)).trans (sOf_ne _ _ (by decide)))) rfl) dX12_getPacket_282 ?_
                              refine TT_iadd hK dX12_getPacket_283 ?_
                              refine TT_istore hK (lv' := [(6, vI (pl2 + ((w212_19 104) b))), (0, vR 73), (1, vI u), (2, vI f), (3, vI n), (7, vI b)]) (by decide) rfl dX12_getPacket_284 ?_
                              refine TT_aload_n hK rfl 1 rfl dX12_getPacket_286 ?_
                              refine gf_X12_57 hK (by decide) rfl (q := 87) rfl rfl dX12_getPacket_287 ?_
                              refine TT_bipush hK (by decide) dX12_getPacket_290 ?_
                              refine TT_iload hK 5 rfl dX12_getPacket_292 ?_
                              refine TT_iadd hK dX12_getPacket_294 ?_
                              refine TT_aload_n hK rfl 1 rfl dX12_getPacket_295 ?_
                              refine gf_X12_54 hK (by decide) rfl (q := 86) rfl rfl dX12_getPacket_296 ?_
                              refine TT_bipush hK (by decide) dX12_getPacket_299 ?_
                              refine TT_iload hK 5 rfl dX12_getPacket_301 ?_
                              refine TT_iadd hK dX12_getPacket_303 ?_
                              refine TT_iald hK (o := 86) (n := 20) (by decide) rfl (by first | omega | (simp [up, setR] <;> omega)) (by first | omega | (simp [up, setR] <;> omega)) (v := (w212_19 86) (10 + b)) (rd_ ((sOf_ne _ _ (by decide)).trans ((sOf_ne _ _ (by decide)).trans (sOf_ne _ _ (by decide)))) rfl) dX12_getPacket_304 ?_
                              have r26 := ty_86 (i := 10 + b) (v := (w212_19 86) (10 + b)) hT_25 (rd_ ((sOf_ne _ _ (by decide)).trans ((sOf_ne _ _ (by decide)).trans (sOf_ne _ _ (by decide)))) rfl) (by omega) (by omega)
                              refine TT_iast hK (o := 87) (n := 20) (by decide) rfl (by omega) (by omega) dX12_getPacket_305 ?_
                              refine TT_hp (h' := setO (setO (setO (setO w212_19 87 (fup (w212_19 87) (10 + b) ((w212_19 86) (10 + b)))) 101 (fup (w212_19 101) ((3 * b) + ((w212_19 103) b)) pl2)) 102 (fup (w212_19 102) ((3 * b) + ((w212_19 103) b)) ((w212_19 104) b))) 103 (fup (w212_19 103) b (((w212_19 103) b) + 1))) (up_can ((sOf_ne _ _ (by decide)).trans ((sOf_ne _ _ (by decide)).trans (sOf_ne _ _ (by decide)))) rfl ((setO_comm _ _ _ (by decide)).trans (setO_cg ((setO_comm _ _ _ (by decide)).trans (setO_cg ((setO_comm _ _ _ (by decide)).trans (setO_cg rfl rfl)) rfl)) rfl))) ?_
                              have hT_27 : TY (setO (setO (setO (setO w212_19 87 (fup (w212_19 87) (10 + b) ((w212_19 86) (10 + b)))) 101 (fup (w212_19 101) ((3 * b) + ((w212_19 103) b)) pl2)) 102 (fup (w212_19 102) ((3 * b) + ((w212_19 103) b)) ((w212_19 104) b))) 103 (fup (w212_19 103) b (((w212_19 103) b) + 1))) := tu_87 hT_25 (show up (setO (setO (setO w212_19 101 (fup (w212_19 101) ((3 * b) + ((w212_19 103) b)) pl2)) 102 (fup (w212_19 102) ((3 * b) + ((w212_19 103) b)) ((w212_19 104) b))) 103 (fup (w212_19 103) b (((w212_19 103) b) + 1))) 87 (10 + b) ((w212_19 86) (10 + b)) = (setO (setO (setO (setO w212_19 87 (fup (w212_19 87) (10 + b) ((w212_19 86) (10 + b)))) 101 (fup (w212_19 101) ((3 * b) + ((w212_19 103) b)) pl2)) 102 (fup (w212_19 102) ((3 * b) + ((w212_19 103) b)) ((w212_19 104) b))) 103 (fup (w212_19 103) b (((w212_19 103) b) + 1))) from up_can ((sOf_ne _ _ (by decide)).trans ((sOf_ne _ _ (by decide)).trans (sOf_ne _ _ (by decide)))) rfl ((setO_comm _ _ _ (by decide)).trans (setO_cg ((setO_comm _ _ _ (by decide)).trans (setO_cg ((setO_comm _ _ _ (by decide)).trans (setO_cg rfl rfl)) rfl)) rfl))) (by omega)
                              have hF_27 : FRM [73, 83, 86, 87, 88, 101, 102, 103, 104] [42, 43, 44, 45, 50] h (setO (setO (setO (setO w212_19 87 (fup (w212_19 87) (10 + b) ((w212_19 86) (10 + b)))) 101 (fup (w212_19 101) ((3 * b) + ((w212_19 103) b)) pl2)) 102 (fup (w212_19 102) ((3 * b) + ((w212_19 103) b)) ((w212_19 104) b))) 103 (fup (w212_19 103) b (((w212_19 103) b) + 1))) := FRM_up (show up (setO (setO (setO w212_19 101 (fup (w212_19 101) ((3 * b) + ((w212_19 103) b)) pl2)) 102 (fup (w212_19 102) ((3 * b) + ((w212_19 103) b)) ((w212_19 104) b))) 103 (fup (w212_19 103) b (((w212_19 103) b) + 1))) 87 (10 + b) ((w212_19 86) (10 + b)) = (setO (setO (setO (setO w212_19 87 (fup (w212_19 87) (10 + b) ((w212_19 86) (10 + b)))) 101 (fup (w212_19 101) ((3 * b) + ((w212_19 103) b)) pl2)) 102 (fup (w212_19 102) ((3 * b) + ((w212_19 103) b)) ((w212_19 104) b))) 103 (fup (w212_19 103) b (((w212_19 103) b) + 1))) from up_can ((sOf_ne _ _ (by decide)).trans ((sOf_ne _ _ (by decide)).trans (sOf_ne _ _ (by decide)))) rfl ((setO_comm _ _ _ (by decide)).trans (setO_cg ((setO_comm _ _ _ (by decide)).trans (setO_cg ((setO_comm _ _ _ (by decide)).trans (setO_cg rfl rfl)) rfl)) rfl))) hF_25 (by decide) (by decide)
                              refine TT_iinc hK (v := b + 1) (lv' := [(7, vI (b + 1)), (6, vI (pl2 + ((w212_19 104) b))), (0, vR 73), (1, vI u), (2, vI f), (3, vI n)]) 5 rfl rfl (by decide) rfl dX12_getPacket_306 ?_
                              refine TT_goto hK (tgt := 212) dX12_getPacket_309 (by decide) ?_
                              refine TT_sub [2, 3, 4, 5, 1, 0] rfl ?_
                              have e28_104 : (setO (setO (setO (setO w212_19 87 (fup (w212_19 87) (10 + b) ((w212_19 86) (10 + b)))) 101 (fup (w212_19 101) ((3 * b) + ((w212_19 103) b)) pl2)) 102 (fup (w212_19 102) ((3 * b) + ((w212_19 103) b)) ((w212_19 104) b))) 103 (fup (w212_19 103) b (((w212_19 103) b) + 1))) 104 = w212_19 104 := (sOf_ne _ _ (by decide)).trans ((sOf_ne _ _ (by decide)).trans ((sOf_ne _ _ (by decide)).trans (sOf_ne _ _ (by decide))))
                              have e29_103 : (setO (setO (setO (setO w212_19 87 (fup (w212_19 87) (10 + b) ((w212_19 86) (10 + b)))) 101 (fup (w212_19 101) ((3 * b) + ((w212_19 103) b)) pl2)) 102 (fup (w212_19 102) ((3 * b) + ((w212_19 103) b)) ((w212_19 104) b))) 103 (fup (w212_19 103) b (((w212_19 103) b) + 1))) 103 = fup (w212_19 103) b (((w212_19 103) b) + 1) := sOf_eq _ _ _
                              have e30_102 : (setO (setO (setO (setO w212_19 87 (fup (w212_19 87) (10 + b) ((w212_19 86) (10 + b)))) 101 (fup (w212_19 101) ((3 * b) + ((w212_19 103) b)) pl2)) 102 (fup (w212_19 102) ((3 * b) + ((w212_19 103) b)) ((w212_19 104) b))) 103 (fup (w212_19 103) b (((w212_19 103) b) + 1))) 102 = fup (w212_19 102) ((3 * b) + ((w212_19 103) b)) ((w212_19 104) b) := (sOf_ne _ _ (by decide)).trans (sOf_eq _ _ _)
                              have e31_103 : (setO (setO (setO (setO w212_19 87 (fup (w212_19 87) (10 + b) ((w212_19 86) (10 + b)))) 101 (fup (w212_19 101) ((3 * b) + ((w212_19 103) b)) pl2)) 102 (fup (w212_19 102) ((3 * b) + ((w212_19 103) b)) ((w212_19 104) b))) 103 (fup (w212_19 103) b (((w212_19 103) b) + 1))) 103 = fup (w212_19 103) b (((w212_19 103) b) + 1) := sOf_eq _ _ _
                              have e32_101 : (setO (setO (setO (setO w212_19 87 (fup (w212_19 87) (10 + b) ((w212_19 86) (10 + b)))) 101 (fup (w212_19 101) ((3 * b) + ((w212_19 103) b)) pl2)) 102 (fup (w212_19 102) ((3 * b) + ((w212_19 103) b)) ((w212_19 104) b))) 103 (fup (w212_19 103) b (((w212_19 103) b) + 1))) 101 = fup (w212_19 101) ((3 * b) + ((w212_19 103) b)) pl2 := (sOf_ne _ _ (by decide)).trans ((sOf_ne _ _ (by decide)).trans (sOf_eq _ _ _))
                              have e33_102 : (setO (setO (setO (setO w212_19 87 (fup (w212_19 87) (10 + b) ((w212_19 86) (10 + b)))) 101 (fup (w212_19 101) ((3 * b) + ((w212_19 103) b)) pl2)) 102 (fup (w212_19 102) ((3 * b) + ((w212_19 103) b)) ((w212_19 104) b))) 103 (fup (w212_19 103) b (((w212_19 103) b) + 1))) 102 = fup (w212_19 102) ((3 * b) + ((w212_19 103) b)) ((w212_19 104) b) := (sOf_ne _ _ (by decide)).trans (sOf_eq _ _ _)
                              have e34_103 : (setO (setO (setO (setO w212_19 87 (fup (w212_19 87) (10 + b) ((w212_19 86) (10 + b)))) 101 (fup (w212_19 101) ((3 * b) + ((w212_19 103) b)) pl2)) 102 (fup (w212_19 102) ((3 * b) + ((w212_19 103) b)) ((w212_19 104) b))) 103 (fup (w212_19 103) b (((w212_19 103) b) + 1))) 103 = fup (w212_19 103) b (((w212_19 103) b) + 1) := sOf_eq _ _ _
                              exact ih19 (pl2 + ((w212_19 104) b)) (b + 1) (setO (setO (setO (setO w212_19 87 (fup (w212_19 87) (10 + b) ((w212_19 86) (10 + b)))) 101 (fup (w212_19 101) ((3 * b) + ((w212_19 103) b)) pl2)) 102 (fup (w212_19 102) ((3 * b) + ((w212_19 103) b)) ((w212_19 104) b))) 103 (fup (w212_19 103) b (((w212_19 103) b) + 1))) hT_27 hF_27 (by first | omega | (simp [up, setR] <;> omega)) (by rewrite [e28_104]; exact hT4b) (by omega) (by rewrite [e29_103]; intro j; by_cases e : j = b; (rw [e, fup_eq]; exact ⟨fun h1 h2 => by omega, fun h1 => by omega⟩); (rw [fup_ne _ _ e]; exact ⟨fun h1 h2 => (hpc j).1 h1 (by omega), fun h1 => (hpc j).2 (by omega)⟩)) (by rewrite [e30_102, e31_103]; exact PSQ_n hps2 (by omega) (by omega) (by omega)) (by rewrite [e32_101, e33_102, e34_103]; exact PAQ_n hpa2 (by omega) (by omega) (by omega)) (by first | omega | (simp [up, setR] <;> omega))
                        refine TT_sub [1, 2, 3, 4, 6, 0] rfl ?_
                        have e35_104 : g207_18 104 = w155_10 104 := (hG_18.1 104 (by decide))
                        have e36_103 : g207_18 103 = w155_10 103 := (hG_18.1 103 (by decide))
                        have e37_102 : g207_18 102 = w155_10 102 := (hG_18.1 102 (by decide))
                        have e38_103 : g207_18 103 = w155_10 103 := (hG_18.1 103 (by decide))
                        have e39_101 : g207_18 101 = w155_10 101 := (hG_18.1 101 (by decide))
                        have e40_102 : g207_18 102 = w155_10 102 := (hG_18.1 102 (by decide))
                        have e41_103 : g207_18 103 = w155_10 103 := (hG_18.1 103 (by decide))
                        have fs3 := p1_at207
                        exact L212_19 (((3 * u + 1 - z207_18).toNat) + 1) pl z207_18 g207_18 hT_18 hF_18 (by first | omega | (simp [up, setR] <;> omega)) (by rewrite [e35_104]; exact hT4) (by rw [fs3]; omega) (by rewrite [e36_103]; intro j; rw [k103]; exact ⟨fun h1 h2 => by exfalso; omega, fun _ => rfl⟩) (by rewrite [e37_102, e38_103]; rw [k103, k102]; exact PSQ_m hps hpl.1) (by rewrite [e39_101, e40_102, e41_103]; rw [k103, k101, k102]; exact hpa) (Nat.lt_succ_self _)
                      · have hb201_17 := lcmp_gt hb201_17
                        refine TT_sub [0] rfl ?_
                        exact J204_12  
                · refine TT_lload hK 4 rfl dX12_getPacket_163 ?_
                  refine TT_aload_n hK rfl 0 rfl dX12_getPacket_165 ?_
                  refine gf_X12_108 hK (by decide) rfl (q := 104) rfl rfl dX12_getPacket_166 ?_
                  refine TT_iload hK 6 rfl dX12_getPacket_169 ?_
                  refine TT_iald hK (o := 104) (n := 10) (by decide) rfl (by first | omega | (simp [up, setR] <;> omega)) (by first | omega | (simp [up, setR] <;> omega)) (v := (w155_10 104) m) rfl dX12_getPacket_171 ?_
                  have r42 := ty_104 (i := m) (v := (w155_10 104) m) hT155_10 rfl (by omega) (by omega)
                  refine TT_i2l hK (irm (by omega) (by omega)) dX12_getPacket_172 ?_
                  refine TT_ladd hK dX12_getPacket_173 ?_
                  refine TT_lstore hK (lv' := [(4, vJ (bh + ((w155_10 104) m))), (0, vR 73), (1, vI u), (2, vI f), (3, vI n), (6, vI pl), (7, vI m)]) (by decide) rfl dX12_getPacket_174 ?_
                  refine TT_iinc hK (v := m + 1) (lv' := [(7, vI (m + 1)), (4, vJ (bh + ((w155_10 104) m))), (0, vR 73), (1, vI u), (2, vI f), (3, vI n), (6, vI pl)]) 6 rfl rfl (by decide) rfl dX12_getPacket_176 ?_
                  refine TT_goto hK (tgt := 155) dX12_getPacket_179 (by decide) ?_
                  refine TT_sub [2, 3, 4, 5, 1, 6, 0] rfl ?_
                  have is1 : IS T4 (m + 1) = IS T4 m + T4 m := IS_s (by omega)
                  have e4 := congrFun hT4 m
                  exact ih10 (bh + ((w155_10 104) m)) (m + 1) T4 w155_10 hT155_10 hF155_10 (by first | omega | (simp [up, setR] <;> omega)) (by first | rfl | exact hT4) (by omega) (by first | omega | (simp [up, setR] <;> omega)) (by first | rfl | exact k101) (by first | rfl | exact k102) (by first | rfl | exact k103) (by first | omega | (simp [up, setR] <;> omega))
            refine TT_sub [3, 4, 5, 6, 2, 1, 0] rfl ?_
            have e43_104 : g150_9 104 = w120_7 104 := (hG_9.1 104 (by decide))
            have e44_101 : g150_9 101 = w120_7 101 := (hG_9.1 101 (by decide))
            have e45_102 : g150_9 102 = w120_7 102 := (hG_9.1 102 (by decide))
            have e46_103 : g150_9 103 = w120_7 103 := (hG_9.1 103 (by decide))
            have fs2 := p1_at150
            exact L155_10 (((3 * u + 1 - z150_9).toNat) + 1) pl z150_9 (w120_7 104) g150_9 hT_9 hF_9 (by first | omega | (simp [up, setR] <;> omega)) (by rewrite [e43_104]; rfl) (by rw [fs2]; omega) (by first | omega | (simp [up, setR] <;> omega)) (by rewrite [e44_101]; first | rfl | exact k101) (by rewrite [e45_102]; first | rfl | exact k102) (by rewrite [e46_103]; first | rfl | exact k103) (Nat.lt_succ_self _)
          refine TT_aload_n hK rfl 0 rfl dX12_getPacket_120 ?_
          refine gf_X12_314 hK (by decide) rfl (v := (w120_7 73) 43) rfl dX12_getPacket_121 ?_
          have r47 := ty_73_43 (v := (w120_7 73) 43) hT120_7 rfl
          refine TT_if_le hK (tgt := 137) (irm (by omega) (by omega)) dX12_getPacket_124 (by decide) (fun hb124_48 => ?_) (fun hb124_48 => ?_)
          · refine TT_aload_n hK rfl 0 rfl dX12_getPacket_137 ?_
            refine gf_X12_311 hK (by decide) rfl (v := (w120_7 73) 42) rfl dX12_getPacket_138 ?_
            have r49 := ty_73_42 (v := (w120_7 73) 42) hT120_7 rfl
            refine TT_i2l hK (irm (by omega) (by omega)) dX12_getPacket_141 ?_
            exact J142_8 ((w120_7 73) 42) (by first | omega | (simp [up, setR] <;> omega))
          · refine TT_aload_n hK rfl 0 rfl dX12_getPacket_127 ?_
            refine gf_X12_311 hK (by decide) rfl (v := (w120_7 73) 42) rfl dX12_getPacket_128 ?_
            have r50 := ty_73_42 (v := (w120_7 73) 42) hT120_7 rfl
            refine TT_iconst hK dX12_getPacket_131 ?_
            refine TT_iadd hK dX12_getPacket_132 ?_
            refine TT_i2l hK (irm (by omega) (by omega)) dX12_getPacket_133 ?_
            refine TT_goto hK (tgt := 142) dX12_getPacket_134 (by decide) ?_
            exact J142_8 (((w120_7 73) 42) + 1) (by first | omega | (simp [up, setR] <;> omega))
        refine TT_aload_n hK rfl 0 rfl dX12_getPacket_44 ?_
        refine TT_iconst hK dX12_getPacket_45 ?_
        refine iv_X12_372 hK (s_X12_getBits_73 1 w23_5 hT23_5 (by first | omega | (simp [up, setR] <;> omega))) (by decide) rfl ⟨by decide, by decide⟩ (by decide) rfl rfl (Nat.le_of_ble_eq_true rfl) ⟨by decide, by decide⟩ dX12_getPacket_46 ?_
        intro r9 g46_51 hp9
        obtain ⟨⟨hT_51, hG_51⟩, z46_51, hr9, hz_51, p2_51, p3_51, p6_51⟩ := hp9
        rw [hr9]
        have hF_51 : FRM [73, 83, 86, 87, 88, 101, 102, 103, 104] [42, 43, 44, 45, 50] h g46_51 := FRM_tr hF23_5 hG_51 (by decide) (by decide)
        rw [show w23_5 73 42 = (w23_5 73) 42 from rfl] at p3_51
        rw [show w23_5 73 43 = (w23_5 73) 43 from rfl] at p3_51
        rw [show w23_5 73 44 = (w23_5 73) 44 from rfl] at p3_51
        rw [show w23_5 73 42 = (w23_5 73) 42 from rfl] at p6_51
        rw [show w23_5 73 43 = (w23_5 73) 43 from rfl] at p6_51
        show TT K ly 0 0 49 [(0, vR 73), (1, vI u), (2, vI f), (3, vI n), (4, vI k)] [vI z46_51] g46_51
        refine TT_iconst hK dX12_getPacket_49 ?_
        refine TT_icmp_ne hK (tgt := 120) (irm (by omega) (by omega)) (by decide) dX12_getPacket_50 (by decide) (fun hb50_52 => ?_) (fun hb50_52 => ?_)
        · refine TT_sub [0, 1, 2, 3] rfl ?_
          have e53_101 : g46_51 101 = w23_5 101 := (hG_51.1 101 (by decide))
          have e54_102 : g46_51 102 = w23_5 102 := (hG_51.1 102 (by decide))
          have e55_103 : g46_51 103 = w23_5 103 := (hG_51.1 103 (by decide))
          have e56_73_42 : g46_51 73 42 = (g46_51 73) 42 := rfl
          have e57_73_43 : g46_51 73 43 = (g46_51 73) 43 := rfl
          exact J120_7 g46_51 hT_51 hF_51 (by rewrite [e53_101]; first | rfl | exact k101) (by rewrite [e54_102]; first | rfl | exact k102) (by rewrite [e55_103]; first | rfl | exact k103) (by rewrite [e56_73_42, e57_73_43]; first | omega | (simp [up, setR] <;> omega))
        · refine TT_iload_n hK rfl 1 rfl dX12_getPacket_53 ?_
          refine iv_X12_326 hK (s_X12_firstOf u g46_51 hT_51 (by first | omega | (simp [up, setR] <;> omega))) ⟨by decide, by decide⟩ (by decide) rfl rfl (Nat.le_of_ble_eq_true rfl) ⟨by decide, by decide⟩ dX12_getPacket_54 ?_
          intro r9 g54_58 hp9
          obtain ⟨⟨hT_58, hG_58⟩, z54_58, hr9, hz_58, p1_58⟩ := hp9
          rw [hr9]
          have hF_58 : FRM [73, 83, 86, 87, 88, 101, 102, 103, 104] [42, 43, 44, 45, 50] h g54_58 := FRM_tr hF_51 hG_58 (by decide) (by decide)
          have p1_at54 := p1_58
          show TT K ly 0 0 57 [(0, vR 73), (1, vI u), (2, vI f), (3, vI n), (4, vI k)] [vI z54_58] g54_58
          refine TT_istore hK (lv' := [(4, vI z54_58), (0, vR 73), (1, vI u), (2, vI f), (3, vI n)]) (by decide) rfl dX12_getPacket_57 ?_
          have L59_59 : ∀ (k59 : Nat) (b : Int) (w59_59 : Hp_), TY w59_59 → FRM [73, 83, 86, 87, 88, 101, 102, 103, 104] [42, 43, 44, 45, 50] h w59_59 → (FS u ≤ b ∧ b ≤ 3 * u + 1) → (8 * f ≤ 8 * (w59_59 73 42) + (w59_59 73 43)) → ((w59_59 101) = h 101) → ((w59_59 102) = h 102) → ((w59_59 103) = h 103) → (3 * u + 1 - b).toNat < k59 → TT K ly 0 0 59 [(0, vR 73), (1, vI u), (2, vI f), (3, vI n), (4, vI b)] [] w59_59 := by
            intro k59
            induction k59 with
            | zero => intro b w59_59 hT59_59 hF59_59 hb hau k101 k102 k103 hk59; exact absurd hk59 (Nat.not_lt_zero _)
            | succ k59 ih59 =>
              intro b w59_59 hT59_59 hF59_59 hb hau k101 k102 k103 hk59
              refine TT_iload hK 4 rfl dX12_getPacket_59 ?_
              refine TT_iconst hK dX12_getPacket_61 ?_
              refine TT_iload_n hK rfl 1 rfl dX12_getPacket_62 ?_
              refine TT_imul hK dX12_getPacket_63 ?_
              refine TT_icmp_gt hK (tgt := 120) (irm (by omega) (by omega)) (irm (by omega) (by omega)) dX12_getPacket_64 (by decide) (fun hb64_60 => ?_) (fun hb64_60 => ?_)
              · refine TT_sub [0, 1, 2, 3] rfl ?_
                have e61_73_42 : w59_59 73 42 = (w59_59 73) 42 := rfl
                have e62_73_43 : w59_59 73 43 = (w59_59 73) 43 := rfl
                exact J120_7 w59_59 hT59_59 hF59_59 (by first | rfl | exact k101) (by first | rfl | exact k102) (by first | rfl | exact k103) (by rewrite [e61_73_42, e62_73_43]; first | omega | (simp [up, setR] <;> omega))
              · refine TT_aload_n hK rfl 0 rfl dX12_getPacket_67 ?_
                refine gf_X12_365 hK (by decide) rfl (v := (w59_59 73) 45) rfl dX12_getPacket_68 ?_
                have r63 := ty_73_45 (v := (w59_59 73) 45) hT59_59 rfl
                refine TT_if_ne hK (tgt := 120) (irm (by omega) (by omega)) dX12_getPacket_71 (by decide) (fun hb71_64 => ?_) (fun hb71_64 => ?_)
                · refine TT_sub [0, 1, 2, 3] rfl ?_
                  have e65_73_42 : w59_59 73 42 = (w59_59 73) 42 := rfl
                  have e66_73_43 : w59_59 73 43 = (w59_59 73) 43 := rfl
                  exact J120_7 w59_59 hT59_59 hF59_59 (by first | rfl | exact k101) (by first | rfl | exact k102) (by first | rfl | exact k103) (by rewrite [e65_73_42, e66_73_43]; first | omega | (simp [up, setR] <;> omega))
                · refine TT_aload_n hK rfl 0 rfl dX12_getPacket_74 ?_
                  refine gf_X12_375 hK (by decide) rfl (v := (w59_59 73) 50) rfl dX12_getPacket_75 ?_
                  have r67 := ty_73_50 (v := (w59_59 73) 50) hT59_59 rfl
                  refine TT_if_ne hK (tgt := 120) (irm (by omega) (by omega)) dX12_getPacket_78 (by decide) (fun hb78_68 => ?_) (fun hb78_68 => ?_)
                  · refine TT_sub [0, 1, 2, 3] rfl ?_
                    have e69_73_42 : w59_59 73 42 = (w59_59 73) 42 := rfl
                    have e70_73_43 : w59_59 73 43 = (w59_59 73) 43 := rfl
                    exact J120_7 w59_59 hT59_59 hF59_59 (by first | rfl | exact k101) (by first | rfl | exact k102) (by first | rfl | exact k103) (by rewrite [e69_73_42, e70_73_43]; first | omega | (simp [up, setR] <;> omega))
                  · refine TT_aload_n hK rfl 0 rfl dX12_getPacket_81 ?_
                    refine gf_X12_35 hK (by decide) rfl (q := 80) rfl rfl dX12_getPacket_82 ?_
                    refine TT_bipush hK (by decide) dX12_getPacket_85 ?_
                    refine TT_iload hK 4 rfl dX12_getPacket_87 ?_
                    refine TT_iadd hK dX12_getPacket_89 ?_
                    refine TT_iald hK (o := 80) (n := 20) (by decide) rfl (by first | omega | (simp [up, setR] <;> omega)) (by first | omega | (simp [up, setR] <;> omega)) (v := (h 80) (10 + b)) (rd_ (hF59_59.1 80 (by decide)) rfl) dX12_getPacket_90 ?_
                    have r71 := ty_80 (i := 10 + b) (v := (h 80) (10 + b)) hT59_59 (rd_ (hF59_59.1 80 (by decide)) rfl) (by omega) (by omega)
                    refine TT_aload_n hK rfl 0 rfl dX12_getPacket_91 ?_
                    refine gf_X12_38 hK (by decide) rfl (q := 81) rfl rfl dX12_getPacket_92 ?_
                    refine TT_bipush hK (by decide) dX12_getPacket_95 ?_
                    refine TT_iload hK 4 rfl dX12_getPacket_97 ?_
                    refine TT_iadd hK dX12_getPacket_99 ?_
                    refine TT_iald hK (o := 81) (n := 20) (by decide) rfl (by first | omega | (simp [up, setR] <;> omega)) (by first | omega | (simp [up, setR] <;> omega)) (v := (h 81) (10 + b)) (rd_ (hF59_59.1 81 (by decide)) rfl) dX12_getPacket_100 ?_
                    have r72 := ty_81 (i := 10 + b) (v := (h 81) (10 + b)) hT59_59 (rd_ (hF59_59.1 81 (by decide)) rfl) (by omega) (by omega)
                    refine TT_imul hK dX12_getPacket_101 ?_
                    refine TT_w32 (fun x102_73 hx73 => ?_)
                    refine TT_if_le hK (tgt := 114) (irm (by omega) (by omega)) dX12_getPacket_102 (by decide) (fun hb102_74 => ?_) (fun hb102_74 => ?_)
                    · refine TT_iinc hK (v := b + 1) (lv' := [(4, vI (b + 1)), (0, vR 73), (1, vI u), (2, vI f), (3, vI n)]) 4 rfl rfl (by decide) rfl dX12_getPacket_114 ?_
                      refine TT_goto hK (tgt := 59) dX12_getPacket_117 (by decide) ?_
                      refine TT_sub [1, 2, 3, 4, 0] rfl ?_
                      have e75_73_42 : w59_59 73 42 = (w59_59 73) 42 := rfl
                      have e76_73_43 : w59_59 73 43 = (w59_59 73) 43 := rfl
                      exact ih59 (b + 1) w59_59 hT59_59 hF59_59 (by first | omega | (simp [up, setR] <;> omega)) (by rewrite [e75_73_42, e76_73_43]; first | omega | (simp [up, setR] <;> omega)) (by first | rfl | exact k101) (by first | rfl | exact k102) (by first | rfl | exact k103) (by first | omega | (simp [up, setR] <;> omega))
                    · refine TT_aload_n hK rfl 0 rfl dX12_getPacket_105 ?_
                      refine TT_bipush hK (by decide) dX12_getPacket_106 ?_
                      refine TT_iload hK 4 rfl dX12_getPacket_108 ?_
                      refine TT_iadd hK dX12_getPacket_110 ?_
                      refine iv_X12_382 hK (s_X12_getHead_73 (10 + b) w59_59 hT59_59 (by first | omega | (simp [up, setR] <;> omega))) (by decide) rfl ⟨by decide, by decide⟩ (by decide) rfl rfl (Nat.le_of_ble_eq_true rfl) ⟨by decide, by decide⟩ dX12_getPacket_111 ?_
                      intro r9 g111_77 hp9
                      obtain ⟨⟨hT_77, hG_77⟩, hr9, p6_77⟩ := hp9
                      rw [hr9]
                      have hF_77 : FRM [73, 83, 86, 87, 88, 101, 102, 103, 104] [42, 43, 44, 45, 50] h g111_77 := FRM_tr hF59_59 hG_77 (by decide) (by decide)
                      rw [show w59_59 73 42 = (w59_59 73) 42 from rfl] at p6_77
                      rw [show w59_59 73 43 = (w59_59 73) 43 from rfl] at p6_77
                      show TT K ly 0 0 114 [(0, vR 73), (1, vI u), (2, vI f), (3, vI n), (4, vI b)] [] g111_77
                      refine TT_iinc hK (v := b + 1) (lv' := [(4, vI (b + 1)), (0, vR 73), (1, vI u), (2, vI f), (3, vI n)]) 4 rfl rfl (by decide) rfl dX12_getPacket_114 ?_
                      refine TT_goto hK (tgt := 59) dX12_getPacket_117 (by decide) ?_
                      refine TT_sub [1, 2, 3, 4, 0] rfl ?_
                      have e78_73_42 : g111_77 73 42 = (g111_77 73) 42 := rfl
                      have e79_73_43 : g111_77 73 43 = (g111_77 73) 43 := rfl
                      have e80_101 : g111_77 101 = w59_59 101 := (hG_77.1 101 (by decide))
                      have e81_102 : g111_77 102 = w59_59 102 := (hG_77.1 102 (by decide))
                      have e82_103 : g111_77 103 = w59_59 103 := (hG_77.1 103 (by decide))
                      exact ih59 (b + 1) g111_77 hT_77 hF_77 (by first | omega | (simp [up, setR] <;> omega)) (by rewrite [e78_73_42, e79_73_43]; first | omega | (simp [up, setR] <;> omega)) (by rewrite [e80_101]; first | rfl | exact k101) (by rewrite [e81_102]; first | rfl | exact k102) (by rewrite [e82_103]; first | rfl | exact k103) (by first | omega | (simp [up, setR] <;> omega))
          refine TT_sub [1, 2, 3, 4, 0] rfl ?_
          have e83_73_42 : g54_58 73 42 = (g46_51 73) 42 := congrFun (hG_58.1 73 (by decide)) 42
          have e84_73_43 : g54_58 73 43 = (g46_51 73) 43 := congrFun (hG_58.1 73 (by decide)) 43
          have e85_101 : g54_58 101 = w23_5 101 := ((hG_58.1 101 (by decide))).trans (hG_51.1 101 (by decide))
          have e86_102 : g54_58 102 = w23_5 102 := ((hG_58.1 102 (by decide))).trans (hG_51.1 102 (by decide))
          have e87_103 : g54_58 103 = w23_5 103 := ((hG_58.1 103 (by decide))).trans (hG_51.1 103 (by decide))
          have fs1 := p1_at54
          exact L59_59 (((3 * u + 1 - z54_58).toNat) + 1) z54_58 g54_58 hT_58 hF_58 (by first | omega | (simp [up, setR] <;> omega)) (by rewrite [e83_73_42, e84_73_43]; first | omega | (simp [up, setR] <;> omega)) (by rewrite [e85_101]; first | rfl | exact k101) (by rewrite [e86_102]; first | rfl | exact k102) (by rewrite [e87_103]; first | rfl | exact k103) (Nat.lt_succ_self _)
      · refine TT_aload_n hK rfl 0 rfl dX12_getPacket_30 ?_
        refine gf_X12_108 hK (by decide) rfl (q := 104) rfl rfl dX12_getPacket_31 ?_
        refine TT_iload hK 4 rfl dX12_getPacket_34 ?_
        refine TT_iconst hK dX12_getPacket_36 ?_
        refine TT_iast hK (o := 104) (n := 10) (by decide) rfl (by omega) (by omega) dX12_getPacket_37 ?_
        refine TT_hp (h' := setO w23_5 104 (fup (w23_5 104) k 0)) (up_can rfl rfl rfl) ?_
        have hT_88 : TY (setO w23_5 104 (fup (w23_5 104) k 0)) := tu_104 hT23_5 (show up w23_5 104 k 0 = (setO w23_5 104 (fup (w23_5 104) k 0)) from up_can rfl rfl rfl) (by omega)
        have hF_88 : FRM [73, 83, 86, 87, 88, 101, 102, 103, 104] [42, 43, 44, 45, 50] h (setO w23_5 104 (fup (w23_5 104) k 0)) := FRM_up (show up w23_5 104 k 0 = (setO w23_5 104 (fup (w23_5 104) k 0)) from up_can rfl rfl rfl) hF23_5 (by decide) (by decide)
        refine TT_iinc hK (v := k + 1) (lv' := [(4, vI (k + 1)), (0, vR 73), (1, vI u), (2, vI f), (3, vI n)]) 4 rfl rfl (by decide) rfl dX12_getPacket_38 ?_
        refine TT_goto hK (tgt := 23) dX12_getPacket_41 (by decide) ?_
        refine TT_sub [1, 2, 3, 4, 0] rfl ?_
        have e89_73_42 : (setO w23_5 104 (fup (w23_5 104) k 0)) 73 42 = (w23_5 73) 42 := rd_ (sOf_ne _ _ (by decide)) rfl
        have e90_73_43 : (setO w23_5 104 (fup (w23_5 104) k 0)) 73 43 = (w23_5 73) 43 := rd_ (sOf_ne _ _ (by decide)) rfl
        have e91_101 : (setO w23_5 104 (fup (w23_5 104) k 0)) 101 = w23_5 101 := sOf_ne _ _ (by decide)
        have e92_102 : (setO w23_5 104 (fup (w23_5 104) k 0)) 102 = w23_5 102 := sOf_ne _ _ (by decide)
        have e93_103 : (setO w23_5 104 (fup (w23_5 104) k 0)) 103 = w23_5 103 := sOf_ne _ _ (by decide)
        exact ih5 (k + 1) (setO w23_5 104 (fup (w23_5 104) k 0)) hT_88 hF_88 (by first | omega | (simp [up, setR] <;> omega)) (by rewrite [e89_73_42, e90_73_43]; first | omega | (simp [up, setR] <;> omega)) (by rewrite [e91_101]; first | rfl | exact k101) (by rewrite [e92_102]; first | rfl | exact k102) (by rewrite [e93_103]; first | rfl | exact k103) (by first | omega | (simp [up, setR] <;> omega))
  refine TT_sub [1, 2, 3, 4, 0] rfl ?_
  have e94_73_42 : (setO h 73 (fup (fup (fup (fup (h 73) 42 f) 43 0) 44 n) 45 0)) 73 42 = f := rd_ (sOf_eq _ _ _) ((fup_ne _ _ (by decide)).trans ((fup_ne _ _ (by decide)).trans ((fup_ne _ _ (by decide)).trans (fup_eq _ _ _))))
  have e95_73_43 : (setO h 73 (fup (fup (fup (fup (h 73) 42 f) 43 0) 44 n) 45 0)) 73 43 = 0 := rd_ (sOf_eq _ _ _) ((fup_ne _ _ (by decide)).trans ((fup_ne _ _ (by decide)).trans (fup_eq _ _ _)))
  have e96_101 : (setO h 73 (fup (fup (fup (fup (h 73) 42 f) 43 0) 44 n) 45 0)) 101 = h 101 := sOf_ne _ _ (by decide)
  have e97_102 : (setO h 73 (fup (fup (fup (fup (h 73) 42 f) 43 0) 44 n) 45 0)) 102 = h 102 := sOf_ne _ _ (by decide)
  have e98_103 : (setO h 73 (fup (fup (fup (fup (h 73) 42 f) 43 0) 44 n) 45 0)) 103 = h 103 := sOf_ne _ _ (by decide)
  exact L23_5 ((((10 : Int) - 0).toNat) + 1) 0 (setO h 73 (fup (fup (fup (fup (h 73) 42 f) 43 0) 44 n) 45 0)) hT_4 hF_4 (by first | omega | (simp [up, setR] <;> omega)) (by rewrite [e94_73_42, e95_73_43]; first | omega | (simp [up, setR] <;> omega)) (by rewrite [e96_101]; first | rfl | exact k101) (by rewrite [e97_102]; first | rfl | exact k102) (by rewrite [e98_103]; first | rfl | exact k103) (Nat.lt_succ_self _)
set_option maxRecDepth 20000 in
theorem s_X12_readBand_73 (b : Int) (h : Hp_) (hT : TY h) (hb : 0 ≤ b ∧ b ≤ 9) (htb : TBL (h 74) (h 75)) (hps : IS (fun q => (h 102) (3 * b + q)) ((h 103) b) ≤ 4400) (hpa : ∀ k : Int, 0 ≤ k → k < (h 103) b → (h 101) (3 * b + k) + (h 102) (3 * b + k) ≤ 4400) : Ctr yX12_readBand cX12_readBand 5 none (rmd 9) ly ly 0 0 [vR 73, vI b] h (fun r h' => (TY h' ∧ FRM [73, 84, 85, 93, 94, 95, 96, 97, 98, 99] [26, 27, 28, 29, 32, 33, 34, 36, 38, 39] h h') ∧ r = none) := by
  refine Ctr_of (by decide) (Nat.le_of_ble_eq_true rfl) ⟨Nat.le_refl _, Nat.le_refl _⟩ (fun K hK hQ _ => ?_)
  show TT K ly 0 0 0 [(0, vR 73), (1, vI b)] [] h
  have hF : FRM [73, 84, 85, 93, 94, 95, 96, 97, 98, 99] [26, 27, 28, 29, 32, 33, 34, 36, 38, 39] h h := FRM_rf _ _ _
  have r3 := ty_103 (i := b) (v := h 103 b) hT rfl (by omega) (by omega)
  have szn : ∀ k : Int, 0 ≤ k → k < h 103 b → 0 ≤ h 102 (3 * b + k) := fun k h1 h2 => (ty_102 (i := 3 * b + k) hT rfl (by omega) (by omega)).1
  refine TT_iconst hK dX12_readBand_0 ?_
  refine TT_istore_n hK rfl (lv' := [(2, vI 0), (0, vR 73), (1, vI b)]) (by decide) rfl dX12_readBand_1 ?_
  refine TT_iconst hK dX12_readBand_2 ?_
  refine TT_iload_n hK rfl 2 rfl dX12_readBand_3 ?_
  refine TT_imul hK dX12_readBand_4 ?_
  refine TT_istore_n hK rfl (lv' := [(3, vI (3 * b)), (2, vI 0), (0, vR 73), (1, vI b)]) (by decide) rfl dX12_readBand_5 ?_
  have L6_1 : ∀ (k1 : Nat) (n : Int) (k : Int) (w6_1 : Hp_), TY w6_1 → FRM [73, 84, 85, 93, 94, 95, 96, 97, 98, 99] [26, 27, 28, 29, 32, 33, 34, 36, 38, 39] h w6_1 → (3 * b ≤ k ∧ k ≤ 3 * b + h 103 b) → (0 ≤ n ∧ n ≤ 4400) → (n = IS (fun q => h 102 (3 * b + q)) (k - 3 * b)) → (3 * b + h 103 b - k).toNat < k1 → TT K ly 0 0 6 [(0, vR 73), (1, vI b), (2, vI n), (3, vI k)] [] w6_1 := by
    intro k1
    induction k1 with
    | zero => intro n k w6_1 hT6_1 hF6_1 hk hn hns hk1; exact absurd hk1 (Nat.not_lt_zero _)
    | succ k1 ih1 =>
      intro n k w6_1 hT6_1 hF6_1 hk hn hns hk1
      refine TT_iload_n hK rfl 3 rfl dX12_readBand_6 ?_
      refine TT_iconst hK dX12_readBand_7 ?_
      refine TT_iload_n hK rfl 1 rfl dX12_readBand_8 ?_
      refine TT_imul hK dX12_readBand_9 ?_
      refine TT_aload_n hK rfl 0 rfl dX12_readBand_10 ?_
      refine gf_X12_105 hK (by decide) rfl (q := 103) rfl rfl dX12_readBand_11 ?_
      refine TT_iload_n hK rfl 1 rfl dX12_readBand_14 ?_
      refine TT_iald hK (o := 103) (n := 10) (by decide) rfl (by first | omega | (simp [up, setR] <;> omega)) (by first | omega | (simp [up, setR] <;> omega)) (v := (h 103) b) (rd_ (hF6_1.1 103 (by decide)) rfl) dX12_readBand_15 ?_
      have r2 := ty_103 (i := b) (v := (h 103) b) hT6_1 (rd_ (hF6_1.1 103 (by decide)) rfl) (by omega) (by omega)
      refine TT_iadd hK dX12_readBand_16 ?_
      refine TT_icmp_ge hK (tgt := 69) (irm (by omega) (by omega)) (irm (by omega) (by omega)) dX12_readBand_17 (by decide) (fun hb17_3 => ?_) (fun hb17_3 => ?_)
      · refine TT_aload_n hK rfl 0 rfl dX12_readBand_69 ?_
        refine TT_iload_n hK rfl 2 rfl dX12_readBand_70 ?_
        refine TT_iconst hK dX12_readBand_71 ?_
        refine iv_X12_308 hK (s_X12_beginReading_73 n 1 w6_1 hT6_1 (by first | omega | (simp [up, setR] <;> omega)) (by first | omega | (simp [up, setR] <;> omega))) (by decide) rfl ⟨by decide, by decide⟩ (by decide) rfl rfl (Nat.le_of_ble_eq_true rfl) ⟨by decide, by decide⟩ dX12_readBand_72 ?_
        intro r9 g72_4 hp9
        obtain ⟨⟨hT_4, hG_4⟩, hr9, p1_4, p2_4⟩ := hp9
        rw [hr9]
        have hF_4 : FRM [73, 84, 85, 93, 94, 95, 96, 97, 98, 99] [26, 27, 28, 29, 32, 33, 34, 36, 38, 39] h g72_4 := FRM_tr hF6_1 hG_4 (by decide) (by decide)
        show TT K ly 0 0 75 [(0, vR 73), (1, vI b), (2, vI n), (3, vI k)] [] g72_4
        refine TT_aload_n hK rfl 0 rfl dX12_readBand_75 ?_
        refine TT_bipush hK (by decide) dX12_readBand_76 ?_
        refine TT_iload_n hK rfl 1 rfl dX12_readBand_78 ?_
        refine TT_iadd hK dX12_readBand_79 ?_
        refine TT_aload_n hK rfl 0 rfl dX12_readBand_80 ?_
        refine gf_X12_57 hK (by decide) rfl (q := 87) rfl rfl dX12_readBand_81 ?_
        refine TT_bipush hK (by decide) dX12_readBand_84 ?_
        refine TT_iload_n hK rfl 1 rfl dX12_readBand_86 ?_
        refine TT_iadd hK dX12_readBand_87 ?_
        refine TT_iald hK (o := 87) (n := 20) (by decide) rfl (by first | omega | (simp [up, setR] <;> omega)) (by first | omega | (simp [up, setR] <;> omega)) (v := (h 87) (10 + b)) (rd_ (((hG_4.1 87 (by decide))).trans (hF6_1.1 87 (by decide))) rfl) dX12_readBand_88 ?_
        have r5 := ty_87 (i := 10 + b) (v := (h 87) (10 + b)) hT_4 (rd_ (((hG_4.1 87 (by decide))).trans (hF6_1.1 87 (by decide))) rfl) (by omega) (by omega)
        have e6_74 : g72_4 74 = h 74 := ((hG_4.1 74 (by decide))).trans (hF6_1.1 74 (by decide))
        have e7_75 : g72_4 75 = h 75 := ((hG_4.1 75 (by decide))).trans (hF6_1.1 75 (by decide))
        have e8_73_32 : g72_4 73 32 = (g72_4 73) 32 := rfl
        have e9_73_29 : g72_4 73 29 = (g72_4 73) 29 := rfl
        have e10_73_29 : g72_4 73 29 = (g72_4 73) 29 := rfl
        have e11_73_34 : g72_4 73 34 = (g72_4 73) 34 := rfl
        have e12_73_36 : g72_4 73 36 = (w6_1 73) 36 := (hG_4.2 36 (by decide))
        have e13_80 : g72_4 80 = h 80 := ((hG_4.1 80 (by decide))).trans (hF6_1.1 80 (by decide))
        have e14_81 : g72_4 81 = h 81 := ((hG_4.1 81 (by decide))).trans (hF6_1.1 81 (by decide))
        refine iv_X12_299 hK (s_X12_walk_73 (10 + b) ((h 87) (10 + b)) g72_4 hT_4 (by first | omega | (simp [up, setR] <;> omega)) (by first | omega | (simp [up, setR] <;> omega)) (by rewrite [e6_74, e7_75]; first | assumption | exact htb) (by rewrite [e8_73_32]; first | omega | (simp [up, setR] <;> omega)) (by rewrite [e9_73_29]; first | omega | (simp [up, setR] <;> omega)) (by rewrite [e10_73_29, e11_73_34, e12_73_36, e13_80, e14_81]; first | omega | (simp [up, setR] <;> omega))) (by decide) rfl ⟨by decide, by decide⟩ (by decide) rfl rfl (Nat.le_of_ble_eq_true rfl) ⟨by decide, by decide⟩ dX12_readBand_89 ?_
        intro r9 g89_15 hp9
        obtain ⟨⟨hT_15, hG_15⟩, hr9, pa_15, pm_15⟩ := hp9
        rw [hr9]
        have hF_15 : FRM [73, 84, 85, 93, 94, 95, 96, 97, 98, 99] [26, 27, 28, 29, 32, 33, 34, 36, 38, 39] h g89_15 := FRM_tr hF_4 hG_15 (by decide) (by decide)
        rw [show g72_4 73 29 = (g72_4 73) 29 from rfl] at pm_15
        rw [show g72_4 73 34 = (g72_4 73) 34 from rfl] at pm_15
        rw [show g72_4 73 36 = (w6_1 73) 36 from (hG_4.2 36 (by decide))] at pm_15
        rw [show g72_4 80 = h 80 from ((hG_4.1 80 (by decide))).trans (hF6_1.1 80 (by decide))] at pm_15
        rw [show g72_4 81 = h 81 from ((hG_4.1 81 (by decide))).trans (hF6_1.1 81 (by decide))] at pm_15
        show TT K ly 0 0 92 [(0, vR 73), (1, vI b), (2, vI n), (3, vI k)] [] g89_15
        refine TT_vret hK hQ ?_ dX12_readBand_92
        exact ⟨⟨hT_15, hF_15⟩, rfl⟩
      · have is1 : IS (fun q => h 102 (3 * b + q)) (k - 3 * b + 1) = IS (fun q => h 102 (3 * b + q)) (k - 3 * b) + h 102 (3 * b + (k - 3 * b)) := IS_s (by omega)
        rw [show 3 * b + (k - 3 * b) = k by omega] at is1
        have im := IS_mono (f := fun q => h 102 (3 * b + q)) (b := k - 3 * b + 1) (c := h 103 b) (by omega) (by omega) szn
        have pa := hpa (k - 3 * b) (by omega) (by omega)
        rw [show 3 * b + (k - 3 * b) = k by omega] at pa
        have sz0 := szn (k - 3 * b) (by omega) (by omega)
        rw [show 3 * b + (k - 3 * b) = k by omega] at sz0
        refine TT_iconst hK dX12_readBand_20 ?_
        refine TT_istore hK (lv' := [(4, vI 0), (0, vR 73), (1, vI b), (2, vI n), (3, vI k)]) (by decide) rfl dX12_readBand_21 ?_
        have L23_16 : ∀ (k16 : Nat) (n2 : Int) (i : Int) (w23_16 : Hp_), TY w23_16 → FRM [73, 84, 85, 93, 94, 95, 96, 97, 98, 99] [26, 27, 28, 29, 32, 33, 34, 36, 38, 39] h w23_16 → (0 ≤ i ∧ i ≤ h 102 k) → (n2 = n + i) → (h 102 k - i).toNat < k16 → TT K ly 0 0 23 [(0, vR 73), (1, vI b), (2, vI n2), (3, vI k), (4, vI i)] [] w23_16 := by
          intro k16
          induction k16 with
          | zero => intro n2 i w23_16 hT23_16 hF23_16 hi hn2 hk16; exact absurd hk16 (Nat.not_lt_zero _)
          | succ k16 ih16 =>
            intro n2 i w23_16 hT23_16 hF23_16 hi hn2 hk16
            refine TT_iload hK 4 rfl dX12_readBand_23 ?_
            refine TT_aload_n hK rfl 0 rfl dX12_readBand_25 ?_
            refine gf_X12_102 hK (by decide) rfl (q := 102) rfl rfl dX12_readBand_26 ?_
            refine TT_iload_n hK rfl 3 rfl dX12_readBand_29 ?_
            refine TT_iald hK (o := 102) (n := 30) (by decide) rfl (by first | omega | (simp [up, setR] <;> omega)) (by first | omega | (simp [up, setR] <;> omega)) (v := (h 102) k) (rd_ (hF23_16.1 102 (by decide)) rfl) dX12_readBand_30 ?_
            have r17 := ty_102 (i := k) (v := (h 102) k) hT23_16 (rd_ (hF23_16.1 102 (by decide)) rfl) (by omega) (by omega)
            refine TT_icmp_ge hK (tgt := 63) (irm (by omega) (by omega)) (irm (by omega) (by omega)) dX12_readBand_31 (by decide) (fun hb31_18 => ?_) (fun hb31_18 => ?_)
            · refine TT_iinc hK (v := k + 1) (lv' := [(3, vI (k + 1)), (0, vR 73), (1, vI b), (2, vI n2), (4, vI i)]) 3 rfl rfl (by decide) rfl dX12_readBand_63 ?_
              refine TT_goto hK (tgt := 6) dX12_readBand_66 (by decide) ?_
              refine TT_sub [1, 2, 3, 0] rfl ?_
              exact ih1 n2 (k + 1) w23_16 hT23_16 hF23_16 (by first | omega | (simp [up, setR] <;> omega)) (by first | omega | (simp [up, setR] <;> omega)) (by rw [show k + 1 - 3 * b = k - 3 * b + 1 by omega]; omega) (by first | omega | (simp [up, setR] <;> omega))
            · refine TT_aload_n hK rfl 0 rfl dX12_readBand_34 ?_
              refine gf_X12_93 hK (by decide) rfl (q := 99) rfl rfl dX12_readBand_35 ?_
              refine TT_iload_n hK rfl 2 rfl dX12_readBand_38 ?_
              refine TT_aload_n hK rfl 0 rfl dX12_readBand_39 ?_
              refine gf_X12_96 hK (by decide) rfl (q := 100) rfl rfl dX12_readBand_40 ?_
              refine TT_aload_n hK rfl 0 rfl dX12_readBand_43 ?_
              refine gf_X12_99 hK (by decide) rfl (q := 101) rfl rfl dX12_readBand_44 ?_
              refine TT_iload_n hK rfl 3 rfl dX12_readBand_47 ?_
              refine TT_iald hK (o := 101) (n := 30) (by decide) rfl (by first | omega | (simp [up, setR] <;> omega)) (by first | omega | (simp [up, setR] <;> omega)) (v := (h 101) k) (rd_ (hF23_16.1 101 (by decide)) rfl) dX12_readBand_48 ?_
              have r19 := ty_101 (i := k) (v := (h 101) k) hT23_16 (rd_ (hF23_16.1 101 (by decide)) rfl) (by omega) (by omega)
              refine TT_iload hK 4 rfl dX12_readBand_49 ?_
              refine TT_iadd hK dX12_readBand_51 ?_
              refine TT_iald hK (o := 100) (n := 4700) (by decide) rfl (by first | omega | (simp [up, setR] <;> omega)) (by first | omega | (simp [up, setR] <;> omega)) (v := (h 100) (((h 101) k) + i)) (rd_ (hF23_16.1 100 (by decide)) rfl) dX12_readBand_52 ?_
              have r20 := ty_100 (i := ((h 101) k) + i) (v := (h 100) (((h 101) k) + i)) hT23_16 (rd_ (hF23_16.1 100 (by decide)) rfl) (by omega) (by omega)
              refine TT_iast hK (o := 99) (n := 4400) (by decide) rfl (by omega) (by omega) dX12_readBand_53 ?_
              refine TT_hp (h' := setO w23_16 99 (fup (w23_16 99) n2 ((h 100) (((h 101) k) + i)))) (up_can rfl rfl rfl) ?_
              have hT_21 : TY (setO w23_16 99 (fup (w23_16 99) n2 ((h 100) (((h 101) k) + i)))) := tu_99 hT23_16 (show up w23_16 99 n2 ((h 100) (((h 101) k) + i)) = (setO w23_16 99 (fup (w23_16 99) n2 ((h 100) (((h 101) k) + i)))) from up_can rfl rfl rfl) (by omega)
              have hF_21 : FRM [73, 84, 85, 93, 94, 95, 96, 97, 98, 99] [26, 27, 28, 29, 32, 33, 34, 36, 38, 39] h (setO w23_16 99 (fup (w23_16 99) n2 ((h 100) (((h 101) k) + i)))) := FRM_up (show up w23_16 99 n2 ((h 100) (((h 101) k) + i)) = (setO w23_16 99 (fup (w23_16 99) n2 ((h 100) (((h 101) k) + i)))) from up_can rfl rfl rfl) hF23_16 (by decide) (by decide)
              refine TT_iinc hK (v := n2 + 1) (lv' := [(2, vI (n2 + 1)), (0, vR 73), (1, vI b), (3, vI k), (4, vI i)]) 2 rfl rfl (by decide) rfl dX12_readBand_54 ?_
              refine TT_iinc hK (v := i + 1) (lv' := [(4, vI (i + 1)), (2, vI (n2 + 1)), (0, vR 73), (1, vI b), (3, vI k)]) 4 rfl rfl (by decide) rfl dX12_readBand_57 ?_
              refine TT_goto hK (tgt := 23) dX12_readBand_60 (by decide) ?_
              refine TT_sub [2, 3, 1, 4, 0] rfl ?_
              exact ih16 (n2 + 1) (i + 1) (setO w23_16 99 (fup (w23_16 99) n2 ((h 100) (((h 101) k) + i)))) hT_21 hF_21 (by first | omega | (simp [up, setR] <;> omega)) (by first | omega | (simp [up, setR] <;> omega)) (by first | omega | (simp [up, setR] <;> omega))
        refine TT_sub [1, 2, 3, 4, 0] rfl ?_
        exact L23_16 (((h 102 k - 0).toNat) + 1) n 0 w6_1 hT6_1 hF6_1 (by first | omega | (simp [up, setR] <;> omega)) (by first | omega | (simp [up, setR] <;> omega)) (Nat.lt_succ_self _)
  refine TT_sub [2, 3, 1, 0] rfl ?_
  exact L6_1 (((3 * b + h 103 b - (3 * b)).toNat) + 1) 0 (3 * b) h hT hF (by first | omega | (simp [up, setR] <;> omega)) (by first | omega | (simp [up, setR] <;> omega)) (by rw [show 3 * b - 3 * b = 0 by omega]; rfl) (Nat.lt_succ_self _)

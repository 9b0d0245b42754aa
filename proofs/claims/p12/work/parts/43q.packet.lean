set_option maxRecDepth 20000 in
theorem s_X12_putPacket_73 (r i n : Int) (h : Hp_) (hT : TY h) (hr : 0 ≤ r ∧ r ≤ 3) (hc1 : 3 * r + 1 ≤ (h 73 18)) (hi : 1 ≤ i ∧ i ≤ n) (hn : n ≤ 3) (hlq : LQ (h 83) (h 91) (h 92) (h 73 18)) (hmi : MIQ (h 90) (h 91)) (htk0 : TKQ (h 86) (h 83) i n (h 73 18)) (hlen : (h 73 41) + 19 + IS (h 91) (h 73 18) - IS (GT (h 92) (h 86)) (h 73 18) ≤ 4390) : Ctr yX12_putPacket cX12_putPacket 7 none (rmd 3) ly ly 0 0 [vR 73, vI r, vI i, vI n] h (fun r h' => (TY h' ∧ FRM [73, 86, 87, 88, 100] [41, 42, 43] h h') ∧ r = none ∧ ((h' 73 41) - IS (GT (h 92) (h' 86)) (h 73 18) ≤ (h 73 41) - IS (GT (h 92) (h 86)) (h 73 18) + 19) ∧ (TKQ (h' 86) (h 83) i n (h 73 18))) := by
  refine Ctr_of (by decide) (Nat.le_of_ble_eq_true rfl) ⟨Nat.le_refl _, Nat.le_refl _⟩ (fun K hK hQ _ => ?_)
  show TT K ly 0 0 0 [(0, vR 73), (1, vI r), (2, vI i), (3, vI n)] [] h
  have hF : FRM [73, 86, 87, 88, 100] [41, 42, 43] h h := FRM_rf _ _ _
  have hfs := FS_r (r := r) hr
  have hc := (ty_73_18 (v := h 73 18) hT rfl).2
  have gb0 := ISM (g0 := GT (h 92) (h 86)) (g1 := GT (h 92) (h 86)) (ws := h 91) (b := 0) (c := h 73 18) (by omega) (GTw hT hlq htk0 hc) (fun j h1 h2 => absurd h1 (by omega))
  have gb1 : IS (GT (h 92) (h 86)) 0 = 0 := rfl
  refine TT_iconst hK dX12_putPacket_0 ?_
  refine TT_istore hK (lv' := [(4, vI 0), (0, vR 73), (1, vI r), (2, vI i), (3, vI n)]) (by decide) rfl dX12_putPacket_1 ?_
  refine TT_iload_n hK rfl 2 rfl dX12_putPacket_3 ?_
  refine iv_X12_326 hK (s_X12_firstOf r h hT (by first | omega | (simp [up, setR] <;> omega))) ⟨by decide, by decide⟩ (by decide) rfl rfl (Nat.le_of_ble_eq_true rfl) ⟨by decide, by decide⟩ dX12_putPacket_4 ?_
  intro r9 g4_1 hp9
  obtain ⟨⟨hT_1, hG_1⟩, z4_1, hr9, hz_1, p1_1⟩ := hp9
  rw [hr9]
  have hF_1 : FRM [73, 86, 87, 88, 100] [41, 42, 43] h g4_1 := FRM_tr hF hG_1 (by decide) (by decide)
  have p1_at4 := p1_1
  show TT K ly 0 0 7 [(4, vI 0), (0, vR 73), (1, vI r), (2, vI i), (3, vI n)] [vI z4_1] g4_1
  refine TT_istore hK (lv' := [(5, vI z4_1), (4, vI 0), (0, vR 73), (1, vI r), (2, vI i), (3, vI n)]) (by decide) rfl dX12_putPacket_7 ?_
  have L9_2 : ∀ (k2 : Nat) (sm : Int) (b : Int) (w9_2 : Hp_), TY w9_2 → FRM [73, 86, 87, 88, 100] [41, 42, 43] h w9_2 → (0 ≤ sm ∧ sm ≤ 1) → (FS r ≤ b ∧ b ≤ 3 * r + 1) → ((w9_2 73 41) = h 73 41) → (∀ j : Int, FS r ≤ j → j < b → (w9_2 87) j = h 86 j ∧ (w9_2 86) j = pas (h 83 j) * i / n) → (∀ j : Int, j < FS r ∨ b ≤ j → (w9_2 86) j = h 86 j) → (3 * r + 1 - b).toNat < k2 → TT K ly 0 0 9 [(0, vR 73), (1, vI r), (2, vI i), (3, vI n), (4, vI sm), (5, vI b)] [] w9_2 := by
    intro k2
    induction k2 with
    | zero => intro sm b w9_2 hT9_2 hF9_2 hsm hb k41 hhd hru hk2; exact absurd hk2 (Nat.not_lt_zero _)
    | succ k2 ih2 =>
      intro sm b w9_2 hT9_2 hF9_2 hsm hb k41 hhd hru hk2
      refine TT_iload hK 5 rfl dX12_putPacket_9 ?_
      refine TT_iconst hK dX12_putPacket_11 ?_
      refine TT_iload_n hK rfl 1 rfl dX12_putPacket_12 ?_
      refine TT_imul hK dX12_putPacket_13 ?_
      refine TT_icmp_gt hK (tgt := 83) (irm (by omega) (by omega)) (irm (by omega) (by omega)) dX12_putPacket_14 (by decide) (fun hb14_3 => ?_) (fun hb14_3 => ?_)
      · have J111_4 : ∀ (w111_4 : Hp_), TY w111_4 → FRM [73, 86, 87, 88, 100] [41, 42, 43] h w111_4 → (8 * (w111_4 73 42) + (w111_4 73 43) ≤ 8 * h 73 41 + 1) → ((w111_4 73 41) = h 73 41) → (∀ j : Int, FS r ≤ j → j < 3 * r + 1 → (w111_4 87) j = h 86 j ∧ (w111_4 86) j = pas (h 83 j) * i / n) → (∀ j : Int, j < FS r ∨ 3 * r + 1 ≤ j → (w111_4 86) j = h 86 j) → (TKQ (w111_4 86) (h 83) i n (h 73 18)) → TT K ly 0 0 111 [(0, vR 73), (1, vI r), (2, vI i), (3, vI n), (4, vI sm)] [] w111_4 := by
          intro w111_4 hT111_4 hF111_4 hB1 k41 hhd hru htq
          refine TT_iload_n hK rfl 1 rfl dX12_putPacket_111 ?_
          refine iv_X12_326 hK (s_X12_firstOf r w111_4 hT111_4 (by first | omega | (simp [up, setR] <;> omega))) ⟨by decide, by decide⟩ (by decide) rfl rfl (Nat.le_of_ble_eq_true rfl) ⟨by decide, by decide⟩ dX12_putPacket_112 ?_
          intro r9 g112_5 hp9
          obtain ⟨⟨hT_5, hG_5⟩, z112_5, hr9, hz_5, p1_5⟩ := hp9
          rw [hr9]
          have hF_5 : FRM [73, 86, 87, 88, 100] [41, 42, 43] h g112_5 := FRM_tr hF111_4 hG_5 (by decide) (by decide)
          have p1_at112 := p1_5
          show TT K ly 0 0 115 [(0, vR 73), (1, vI r), (2, vI i), (3, vI n), (4, vI sm)] [vI z112_5] g112_5
          refine TT_istore hK (lv' := [(5, vI z112_5), (0, vR 73), (1, vI r), (2, vI i), (3, vI n), (4, vI sm)]) (by decide) rfl dX12_putPacket_115 ?_
          have L117_6 : ∀ (k6 : Nat) (b : Int) (w117_6 : Hp_), TY w117_6 → FRM [73, 86, 87, 88, 100] [41, 42, 43] h w117_6 → (FS r ≤ b ∧ b ≤ 3 * r + 1) → (8 * (w117_6 73 42) + (w117_6 73 43) ≤ 8 * h 73 41 + 1 + 47 * (b - FS r)) → ((w117_6 73 41) = h 73 41) → (∀ j : Int, FS r ≤ j → j < 3 * r + 1 → (w117_6 87) j = h 86 j ∧ (w117_6 86) j = pas (h 83 j) * i / n) → (∀ j : Int, j < FS r ∨ 3 * r + 1 ≤ j → (w117_6 86) j = h 86 j) → (TKQ (w117_6 86) (h 83) i n (h 73 18)) → (3 * r + 1 - b).toNat < k6 → TT K ly 0 0 117 [(0, vR 73), (1, vI r), (2, vI i), (3, vI n), (4, vI sm), (5, vI b)] [] w117_6 := by
            intro k6
            induction k6 with
            | zero => intro b w117_6 hT117_6 hF117_6 hb hB2 k41 hhd hru htq hk6; exact absurd hk6 (Nat.not_lt_zero _)
            | succ k6 ih6 =>
              intro b w117_6 hT117_6 hF117_6 hb hB2 k41 hhd hru htq hk6
              have J160_7 : (8 * (w117_6 73 42) + (w117_6 73 43) ≤ 8 * h 73 41 + 142) → TT K ly 0 0 160 [(0, vR 73), (1, vI r), (2, vI i), (3, vI n), (4, vI sm)] [] w117_6 := by
                intro hB3
                have J181_8 : ∀ (ln : Int), (0 ≤ ln ∧ ln ≤ h 73 41 + 18) → TT K ly 0 0 181 [(0, vR 73), (1, vI r), (2, vI i), (3, vI n), (4, vI sm)] [vI ln, vR 73] w117_6 := by
                  intro ln hln0
                  refine pf_X12_329 hK (by decide) rfl dX12_putPacket_181 ?_
                  refine TT_hp (h' := setO w117_6 73 (fup (w117_6 73) 41 ln)) (up_can rfl rfl rfl) ?_
                  have hT_9 : TY (setO w117_6 73 (fup (w117_6 73) 41 ln)) := tu_73_41 hT117_6 (show up w117_6 73 41 ln = (setO w117_6 73 (fup (w117_6 73) 41 ln)) from up_can rfl rfl rfl) (by omega)
                  have hF_9 : FRM [73, 86, 87, 88, 100] [41, 42, 43] h (setO w117_6 73 (fup (w117_6 73) 41 ln)) := FRM_f (show up w117_6 73 41 ln = (setO w117_6 73 (fup (w117_6 73) 41 ln)) from up_can rfl rfl rfl) hF117_6 (by decide) (by decide)
                  refine TT_iload_n hK rfl 1 rfl dX12_putPacket_184 ?_
                  refine iv_X12_326 hK (s_X12_firstOf r (setO w117_6 73 (fup (w117_6 73) 41 ln)) hT_9 (by first | omega | (simp [up, setR] <;> omega))) ⟨by decide, by decide⟩ (by decide) rfl rfl (Nat.le_of_ble_eq_true rfl) ⟨by decide, by decide⟩ dX12_putPacket_185 ?_
                  intro r9 g185_10 hp9
                  obtain ⟨⟨hT_10, hG_10⟩, z185_10, hr9, hz_10, p1_10⟩ := hp9
                  rw [hr9]
                  have hF_10 : FRM [73, 86, 87, 88, 100] [41, 42, 43] h g185_10 := FRM_tr hF_9 hG_10 (by decide) (by decide)
                  have p1_at185 := p1_10
                  show TT K ly 0 0 188 [(0, vR 73), (1, vI r), (2, vI i), (3, vI n), (4, vI sm)] [vI z185_10] g185_10
                  refine TT_istore hK (lv' := [(5, vI z185_10), (0, vR 73), (1, vI r), (2, vI i), (3, vI n), (4, vI sm)]) (by decide) rfl dX12_putPacket_188 ?_
                  have L190_11 : ∀ (k11 : Nat) (b : Int) (w190_11 : Hp_), TY w190_11 → FRM [73, 86, 87, 88, 100] [41, 42, 43] h w190_11 → (FS r ≤ b ∧ b ≤ 3 * r + 1) → ((w190_11 73 41) ≤ h 73 41 + 18 + IS (GT (h 92) (w190_11 86)) b - IS (GT (h 92) (h 86)) b) → (∀ j : Int, FS r ≤ j → j < 3 * r + 1 → (w190_11 87) j = h 86 j ∧ (w190_11 86) j = pas (h 83 j) * i / n) → (∀ j : Int, j < FS r ∨ 3 * r + 1 ≤ j → (w190_11 86) j = h 86 j) → (TKQ (w190_11 86) (h 83) i n (h 73 18)) → (3 * r + 1 - b).toNat < k11 → TT K ly 0 0 190 [(0, vR 73), (1, vI r), (2, vI i), (3, vI n), (4, vI sm), (5, vI b)] [] w190_11 := by
                    intro k11
                    induction k11 with
                    | zero => intro b w190_11 hT190_11 hF190_11 hb hln hhd hru htq hk11; exact absurd hk11 (Nat.not_lt_zero _)
                    | succ k11 ih11 =>
                      intro b w190_11 hT190_11 hF190_11 hb hln hhd hru htq hk11
                      refine TT_iload hK 5 rfl dX12_putPacket_190 ?_
                      refine TT_iconst hK dX12_putPacket_192 ?_
                      refine TT_iload_n hK rfl 1 rfl dX12_putPacket_193 ?_
                      refine TT_imul hK dX12_putPacket_194 ?_
                      refine TT_icmp_gt hK (tgt := 287) (irm (by omega) (by omega)) (irm (by omega) (by omega)) dX12_putPacket_195 (by decide) (fun hb195_12 => ?_) (fun hb195_12 => ?_)
                      · refine TT_vret hK hQ ?_ dX12_putPacket_287
                        have e13_73_41 : w190_11 73 41 = (w190_11 73) 41 := rfl
                        exact ⟨⟨hT190_11, hF190_11⟩, rfl, (by rewrite [e13_73_41]; have ia := IS_ag (f := GT (h 92) (w190_11 86)) (g := GT (h 92) (h 86)) (a := 3 * r + 1) (c := h 73 18) (by omega) (by omega) (fun k h1 h2 => congrArg (fun z => h 92 (35 * k + z)) (hru k (Or.inr h1))); rw [show b = 3 * r + 1 by omega] at hln; omega), (by exact htq)⟩
                      · have gb := ISM (g0 := GT (h 92) (h 86)) (g1 := GT (h 92) (w190_11 86)) (ws := h 91) (b := b + 1) (c := h 73 18) (by omega) (GTw hT hlq htk0 hc) (fun j h1 h2 => GTw hT190_11 hlq htq hc j h1 (by omega))
                        have g1s : IS (GT (h 92) (w190_11 86)) (b + 1) = IS (GT (h 92) (w190_11 86)) b + h 92 (35 * b + (w190_11 86) b) := IS_s (by omega)
                        have g0s : IS (GT (h 92) (h 86)) (b + 1) = IS (GT (h 92) (h 86)) b + h 92 (35 * b + h 86 b) := IS_s (by omega)
                        have hh := hhd b (by omega) (by omega)
                        have tq9 := htq b (by omega) (by omega)
                        have tq8 := htk0 b (by omega) (by omega)
                        have r86 := ty_86 (i := b) (v := (w190_11 86) b) hT190_11 rfl (by omega) (by omega)
                        have q86 := ty_86 (i := b) (v := h 86 b) hT rfl (by omega) (by omega)
                        have mo := hlq b (by omega) (by omega) (h 86 b) ((w190_11 86) b) (by omega) (by omega) (by omega) (by omega)
                        have mi := hmi b (by omega) (by omega)
                        have e87 : h 92 (35 * b + (w190_11 87) b) = h 92 (35 * b + h 86 b) := by rw [hh.1]
                        refine TT_aload_n hK rfl 0 rfl dX12_putPacket_198 ?_
                        refine gf_X12_72 hK (by decide) rfl (q := 92) rfl rfl dX12_putPacket_199 ?_
                        refine TT_bipush hK (by decide) dX12_putPacket_202 ?_
                        refine TT_iload hK 5 rfl dX12_putPacket_204 ?_
                        refine TT_imul hK dX12_putPacket_206 ?_
                        refine TT_aload_n hK rfl 0 rfl dX12_putPacket_207 ?_
                        refine gf_X12_57 hK (by decide) rfl (q := 87) rfl rfl dX12_putPacket_208 ?_
                        refine TT_iload hK 5 rfl dX12_putPacket_211 ?_
                        refine TT_iald hK (o := 87) (n := 20) (by decide) rfl (by first | omega | (simp [up, setR] <;> omega)) (by first | omega | (simp [up, setR] <;> omega)) (v := (w190_11 87) b) rfl dX12_putPacket_213 ?_
                        have r14 := ty_87 (i := b) (v := (w190_11 87) b) hT190_11 rfl (by omega) (by omega)
                        refine TT_iadd hK dX12_putPacket_214 ?_
                        refine TT_iald hK (o := 92) (n := 350) (by decide) rfl (by first | omega | (simp [up, setR] <;> omega)) (by first | omega | (simp [up, setR] <;> omega)) (v := (h 92) ((35 * b) + ((w190_11 87) b))) (rd_ (hF190_11.1 92 (by decide)) rfl) dX12_putPacket_215 ?_
                        have r15 := ty_92 (i := (35 * b) + ((w190_11 87) b)) (v := (h 92) ((35 * b) + ((w190_11 87) b))) hT190_11 (rd_ (hF190_11.1 92 (by decide)) rfl) (by omega) (by omega)
                        refine TT_istore hK (lv' := [(6, vI ((h 92) ((35 * b) + ((w190_11 87) b)))), (0, vR 73), (1, vI r), (2, vI i), (3, vI n), (4, vI sm), (5, vI b)]) (by decide) rfl dX12_putPacket_216 ?_
                        have L218_16 : ∀ (k16 : Nat) (k : Int) (w218_16 : Hp_), TY w218_16 → FRM [73, 86, 87, 88, 100] [41, 42, 43] h w218_16 → (h 92 (35 * b + (w218_16 87) b) ≤ k ∧ k ≤ h 92 (35 * b + (w218_16 86) b)) → ((w218_16 73 41) ≤ h 73 41 + 18 + IS (GT (h 92) (w218_16 86)) b - IS (GT (h 92) (h 86)) b + (k - h 92 (35 * b + (w218_16 87) b))) → (∀ j : Int, FS r ≤ j → j < 3 * r + 1 → (w218_16 87) j = h 86 j ∧ (w218_16 86) j = pas (h 83 j) * i / n) → (∀ j : Int, j < FS r ∨ 3 * r + 1 ≤ j → (w218_16 86) j = h 86 j) → (TKQ (w218_16 86) (h 83) i n (h 73 18)) → ((4400 : Int) - k).toNat < k16 → TT K ly 0 0 218 [(0, vR 73), (1, vI r), (2, vI i), (3, vI n), (4, vI sm), (5, vI b), (6, vI k)] [] w218_16 := by
                          intro k16
                          induction k16 with
                          | zero => intro k w218_16 hT218_16 hF218_16 hk hln2 hhd hru htq hk16; exact absurd hk16 (Nat.not_lt_zero _)
                          | succ k16 ih16 =>
                            intro k w218_16 hT218_16 hF218_16 hk hln2 hhd hru htq hk16
                            have gb := ISM (g0 := GT (h 92) (h 86)) (g1 := GT (h 92) (w218_16 86)) (ws := h 91) (b := b + 1) (c := h 73 18) (by omega) (GTw hT hlq htk0 hc) (fun j h1 h2 => GTw hT218_16 hlq htq hc j h1 (by omega))
                            have g1s : IS (GT (h 92) (w218_16 86)) (b + 1) = IS (GT (h 92) (w218_16 86)) b + h 92 (35 * b + (w218_16 86) b) := IS_s (by omega)
                            have g0s : IS (GT (h 92) (h 86)) (b + 1) = IS (GT (h 92) (h 86)) b + h 92 (35 * b + h 86 b) := IS_s (by omega)
                            have hh := hhd b (by omega) (by omega)
                            have tq9 := htq b (by omega) (by omega)
                            have tq8 := htk0 b (by omega) (by omega)
                            have r86 := ty_86 (i := b) (v := (w218_16 86) b) hT218_16 rfl (by omega) (by omega)
                            have q86 := ty_86 (i := b) (v := h 86 b) hT rfl (by omega) (by omega)
                            have mo := hlq b (by omega) (by omega) (h 86 b) ((w218_16 86) b) (by omega) (by omega) (by omega) (by omega)
                            have mi := hmi b (by omega) (by omega)
                            have e87 : h 92 (35 * b + (w218_16 87) b) = h 92 (35 * b + h 86 b) := by rw [hh.1]
                            refine TT_iload hK 6 rfl dX12_putPacket_218 ?_
                            refine TT_aload_n hK rfl 0 rfl dX12_putPacket_220 ?_
                            refine gf_X12_72 hK (by decide) rfl (q := 92) rfl rfl dX12_putPacket_221 ?_
                            refine TT_bipush hK (by decide) dX12_putPacket_224 ?_
                            refine TT_iload hK 5 rfl dX12_putPacket_226 ?_
                            refine TT_imul hK dX12_putPacket_228 ?_
                            refine TT_aload_n hK rfl 0 rfl dX12_putPacket_229 ?_
                            refine gf_X12_54 hK (by decide) rfl (q := 86) rfl rfl dX12_putPacket_230 ?_
                            refine TT_iload hK 5 rfl dX12_putPacket_233 ?_
                            refine TT_iald hK (o := 86) (n := 20) (by decide) rfl (by first | omega | (simp [up, setR] <;> omega)) (by first | omega | (simp [up, setR] <;> omega)) (v := (w218_16 86) b) rfl dX12_putPacket_235 ?_
                            have r17 := ty_86 (i := b) (v := (w218_16 86) b) hT218_16 rfl (by omega) (by omega)
                            refine TT_iadd hK dX12_putPacket_236 ?_
                            refine TT_iald hK (o := 92) (n := 350) (by decide) rfl (by first | omega | (simp [up, setR] <;> omega)) (by first | omega | (simp [up, setR] <;> omega)) (v := (h 92) ((35 * b) + ((w218_16 86) b))) (rd_ (hF218_16.1 92 (by decide)) rfl) dX12_putPacket_237 ?_
                            have r18 := ty_92 (i := (35 * b) + ((w218_16 86) b)) (v := (h 92) ((35 * b) + ((w218_16 86) b))) hT218_16 (rd_ (hF218_16.1 92 (by decide)) rfl) (by omega) (by omega)
                            refine TT_icmp_ge hK (tgt := 281) (irm (by omega) (by omega)) (irm (by omega) (by omega)) dX12_putPacket_238 (by decide) (fun hb238_19 => ?_) (fun hb238_19 => ?_)
                            · refine TT_iinc hK (v := b + 1) (lv' := [(5, vI (b + 1)), (0, vR 73), (1, vI r), (2, vI i), (3, vI n), (4, vI sm), (6, vI k)]) 5 rfl rfl (by decide) rfl dX12_putPacket_281 ?_
                              refine TT_goto hK (tgt := 190) dX12_putPacket_284 (by decide) ?_
                              refine TT_sub [1, 2, 3, 4, 5, 0] rfl ?_
                              have e20_73_41 : w218_16 73 41 = (w218_16 73) 41 := rfl
                              exact ih11 (b + 1) w218_16 hT218_16 hF218_16 (by first | omega | (simp [up, setR] <;> omega)) (by rewrite [e20_73_41]; omega) (by exact hhd) (by exact hru) (by exact htq) (by first | omega | (simp [up, setR] <;> omega))
                            · refine TT_aload_n hK rfl 0 rfl dX12_putPacket_241 ?_
                              refine gf_X12_96 hK (by decide) rfl (q := 100) rfl rfl dX12_putPacket_242 ?_
                              refine TT_aload_n hK rfl 0 rfl dX12_putPacket_245 ?_
                              refine gf_X12_329 hK (by decide) rfl (v := (w218_16 73) 41) rfl dX12_putPacket_246 ?_
                              have r21 := ty_73_41 (v := (w218_16 73) 41) hT218_16 rfl
                              refine TT_aload_n hK rfl 0 rfl dX12_putPacket_249 ?_
                              refine gf_X12_63 hK (by decide) rfl (q := 89) rfl rfl dX12_putPacket_250 ?_
                              refine TT_aload_n hK rfl 0 rfl dX12_putPacket_253 ?_
                              refine gf_X12_66 hK (by decide) rfl (q := 90) rfl rfl dX12_putPacket_254 ?_
                              refine TT_iload hK 5 rfl dX12_putPacket_257 ?_
                              refine TT_iald hK (o := 90) (n := 10) (by decide) rfl (by first | omega | (simp [up, setR] <;> omega)) (by first | omega | (simp [up, setR] <;> omega)) (v := (h 90) b) (rd_ (hF218_16.1 90 (by decide)) rfl) dX12_putPacket_259 ?_
                              have r22 := ty_90 (i := b) (v := (h 90) b) hT218_16 (rd_ (hF218_16.1 90 (by decide)) rfl) (by omega) (by omega)
                              refine TT_iload hK 6 rfl dX12_putPacket_260 ?_
                              refine TT_iadd hK dX12_putPacket_262 ?_
                              refine TT_iald hK (o := 89) (n := 4400) (by decide) rfl (by first | omega | (simp [up, setR] <;> omega)) (by first | omega | (simp [up, setR] <;> omega)) (v := (h 89) (((h 90) b) + k)) (rd_ (hF218_16.1 89 (by decide)) rfl) dX12_putPacket_263 ?_
                              have r23 := ty_89 (i := ((h 90) b) + k) (v := (h 89) (((h 90) b) + k)) hT218_16 (rd_ (hF218_16.1 89 (by decide)) rfl) (by omega) (by omega)
                              refine TT_iast hK (o := 100) (n := 4700) (by decide) rfl (by omega) (by omega) dX12_putPacket_264 ?_
                              refine TT_hp (h' := setO w218_16 100 (fup (w218_16 100) ((w218_16 73) 41) ((h 89) (((h 90) b) + k)))) (up_can rfl rfl rfl) ?_
                              have hT_24 : TY (setO w218_16 100 (fup (w218_16 100) ((w218_16 73) 41) ((h 89) (((h 90) b) + k)))) := tu_100 hT218_16 (show up w218_16 100 ((w218_16 73) 41) ((h 89) (((h 90) b) + k)) = (setO w218_16 100 (fup (w218_16 100) ((w218_16 73) 41) ((h 89) (((h 90) b) + k)))) from up_can rfl rfl rfl) (by omega)
                              have hF_24 : FRM [73, 86, 87, 88, 100] [41, 42, 43] h (setO w218_16 100 (fup (w218_16 100) ((w218_16 73) 41) ((h 89) (((h 90) b) + k)))) := FRM_up (show up w218_16 100 ((w218_16 73) 41) ((h 89) (((h 90) b) + k)) = (setO w218_16 100 (fup (w218_16 100) ((w218_16 73) 41) ((h 89) (((h 90) b) + k)))) from up_can rfl rfl rfl) hF218_16 (by decide) (by decide)
                              refine TT_aload_n hK rfl 0 rfl dX12_putPacket_265 ?_
                              refine TT_dup hK rfl dX12_putPacket_266 ?_
                              refine gf_X12_329 hK (by decide) rfl (v := (w218_16 73) 41) (rd_ (sOf_ne _ _ (by decide)) rfl) dX12_putPacket_267 ?_
                              refine TT_iconst hK dX12_putPacket_270 ?_
                              refine TT_iadd hK dX12_putPacket_271 ?_
                              refine pf_X12_329 hK (by decide) rfl dX12_putPacket_272 ?_
                              refine TT_hp (h' := setO (setO w218_16 73 (fup (w218_16 73) 41 (((w218_16 73) 41) + 1))) 100 (fup (w218_16 100) ((w218_16 73) 41) ((h 89) (((h 90) b) + k)))) (up_can (sOf_ne _ _ (by decide)) rfl ((setO_comm _ _ _ (by decide)).trans (setO_cg rfl rfl))) ?_
                              have hT_25 : TY (setO (setO w218_16 73 (fup (w218_16 73) 41 (((w218_16 73) 41) + 1))) 100 (fup (w218_16 100) ((w218_16 73) 41) ((h 89) (((h 90) b) + k)))) := tu_73_41 hT_24 (show up (setO w218_16 100 (fup (w218_16 100) ((w218_16 73) 41) ((h 89) (((h 90) b) + k)))) 73 41 (((w218_16 73) 41) + 1) = (setO (setO w218_16 73 (fup (w218_16 73) 41 (((w218_16 73) 41) + 1))) 100 (fup (w218_16 100) ((w218_16 73) 41) ((h 89) (((h 90) b) + k)))) from up_can (sOf_ne _ _ (by decide)) rfl ((setO_comm _ _ _ (by decide)).trans (setO_cg rfl rfl))) (by omega)
                              have hF_25 : FRM [73, 86, 87, 88, 100] [41, 42, 43] h (setO (setO w218_16 73 (fup (w218_16 73) 41 (((w218_16 73) 41) + 1))) 100 (fup (w218_16 100) ((w218_16 73) 41) ((h 89) (((h 90) b) + k)))) := FRM_f (show up (setO w218_16 100 (fup (w218_16 100) ((w218_16 73) 41) ((h 89) (((h 90) b) + k)))) 73 41 (((w218_16 73) 41) + 1) = (setO (setO w218_16 73 (fup (w218_16 73) 41 (((w218_16 73) 41) + 1))) 100 (fup (w218_16 100) ((w218_16 73) 41) ((h 89) (((h 90) b) + k)))) from up_can (sOf_ne _ _ (by decide)) rfl ((setO_comm _ _ _ (by decide)).trans (setO_cg rfl rfl))) hF_24 (by decide) (by decide)
                              refine TT_iinc hK (v := k + 1) (lv' := [(6, vI (k + 1)), (0, vR 73), (1, vI r), (2, vI i), (3, vI n), (4, vI sm), (5, vI b)]) 6 rfl rfl (by decide) rfl dX12_putPacket_275 ?_
                              refine TT_goto hK (tgt := 218) dX12_putPacket_278 (by decide) ?_
                              refine TT_sub [1, 2, 3, 4, 5, 6, 0] rfl ?_
                              have e26_86 : (setO (setO w218_16 73 (fup (w218_16 73) 41 (((w218_16 73) 41) + 1))) 100 (fup (w218_16 100) ((w218_16 73) 41) ((h 89) (((h 90) b) + k)))) 86 = w218_16 86 := (sOf_ne _ _ (by decide)).trans (sOf_ne _ _ (by decide))
                              have e27_87 : (setO (setO w218_16 73 (fup (w218_16 73) 41 (((w218_16 73) 41) + 1))) 100 (fup (w218_16 100) ((w218_16 73) 41) ((h 89) (((h 90) b) + k)))) 87 = w218_16 87 := (sOf_ne _ _ (by decide)).trans (sOf_ne _ _ (by decide))
                              have e28_73_41 : (setO (setO w218_16 73 (fup (w218_16 73) 41 (((w218_16 73) 41) + 1))) 100 (fup (w218_16 100) ((w218_16 73) 41) ((h 89) (((h 90) b) + k)))) 73 41 = ((w218_16 73) 41) + 1 := rd_ ((sOf_ne _ _ (by decide)).trans (sOf_eq _ _ _)) (fup_eq _ _ _)
                              have e29_86 : (setO (setO w218_16 73 (fup (w218_16 73) 41 (((w218_16 73) 41) + 1))) 100 (fup (w218_16 100) ((w218_16 73) 41) ((h 89) (((h 90) b) + k)))) 86 = w218_16 86 := (sOf_ne _ _ (by decide)).trans (sOf_ne _ _ (by decide))
                              have e30_87 : (setO (setO w218_16 73 (fup (w218_16 73) 41 (((w218_16 73) 41) + 1))) 100 (fup (w218_16 100) ((w218_16 73) 41) ((h 89) (((h 90) b) + k)))) 87 = w218_16 87 := (sOf_ne _ _ (by decide)).trans (sOf_ne _ _ (by decide))
                              have e31_86 : (setO (setO w218_16 73 (fup (w218_16 73) 41 (((w218_16 73) 41) + 1))) 100 (fup (w218_16 100) ((w218_16 73) 41) ((h 89) (((h 90) b) + k)))) 86 = w218_16 86 := (sOf_ne _ _ (by decide)).trans (sOf_ne _ _ (by decide))
                              have e32_87 : (setO (setO w218_16 73 (fup (w218_16 73) 41 (((w218_16 73) 41) + 1))) 100 (fup (w218_16 100) ((w218_16 73) 41) ((h 89) (((h 90) b) + k)))) 87 = w218_16 87 := (sOf_ne _ _ (by decide)).trans (sOf_ne _ _ (by decide))
                              have e33_86 : (setO (setO w218_16 73 (fup (w218_16 73) 41 (((w218_16 73) 41) + 1))) 100 (fup (w218_16 100) ((w218_16 73) 41) ((h 89) (((h 90) b) + k)))) 86 = w218_16 86 := (sOf_ne _ _ (by decide)).trans (sOf_ne _ _ (by decide))
                              have e34_86 : (setO (setO w218_16 73 (fup (w218_16 73) 41 (((w218_16 73) 41) + 1))) 100 (fup (w218_16 100) ((w218_16 73) 41) ((h 89) (((h 90) b) + k)))) 86 = w218_16 86 := (sOf_ne _ _ (by decide)).trans (sOf_ne _ _ (by decide))
                              exact ih16 (k + 1) (setO (setO w218_16 73 (fup (w218_16 73) 41 (((w218_16 73) 41) + 1))) 100 (fup (w218_16 100) ((w218_16 73) 41) ((h 89) (((h 90) b) + k)))) hT_25 hF_25 (by rewrite [e26_86, e27_87]; first | omega | (simp [up, setR] <;> omega)) (by rewrite [e28_73_41, e29_86, e30_87]; first | omega | (simp [up, setR] <;> omega)) (by rewrite [e31_86, e32_87]; exact hhd) (by rewrite [e33_86]; exact hru) (by rewrite [e34_86]; exact htq) (by first | omega | (simp [up, setR] <;> omega))
                        refine TT_sub [1, 2, 3, 4, 5, 6, 0] rfl ?_
                        have e35_73_41 : w190_11 73 41 = (w190_11 73) 41 := rfl
                        exact L218_16 ((((4400 : Int) - ((h 92) ((35 * b) + ((w190_11 87) b)))).toNat) + 1) ((h 92) ((35 * b) + ((w190_11 87) b))) w190_11 hT190_11 hF190_11 (by first | omega | (simp [up, setR] <;> omega)) (by rewrite [e35_73_41]; first | omega | (simp [up, setR] <;> omega)) (by exact hhd) (by exact hru) (by exact htq) (Nat.lt_succ_self _)
                  refine TT_sub [1, 2, 3, 4, 5, 0] rfl ?_
                  have e36_73_41 : g185_10 73 41 = ln := (congrFun (hG_10.1 73 (by decide)) 41).trans (rd_ (sOf_eq _ _ _) (fup_eq _ _ _))
                  have e37_86 : g185_10 86 = w117_6 86 := ((hG_10.1 86 (by decide))).trans (sOf_ne _ _ (by decide))
                  have e38_86 : g185_10 86 = w117_6 86 := ((hG_10.1 86 (by decide))).trans (sOf_ne _ _ (by decide))
                  have e39_87 : g185_10 87 = w117_6 87 := ((hG_10.1 87 (by decide))).trans (sOf_ne _ _ (by decide))
                  have e40_86 : g185_10 86 = w117_6 86 := ((hG_10.1 86 (by decide))).trans (sOf_ne _ _ (by decide))
                  have e41_86 : g185_10 86 = w117_6 86 := ((hG_10.1 86 (by decide))).trans (sOf_ne _ _ (by decide))
                  have fs3 := p1_at185
                  have ie := IS_eq (f := GT (h 92) (w117_6 86)) (g := GT (h 92) (h 86)) (c := FS r) (fun k h1 h2 => congrArg (fun z => h 92 (35 * k + z)) (hru k (Or.inl h2)))
                  exact L190_11 (((3 * r + 1 - z185_10).toNat) + 1) z185_10 g185_10 hT_10 hF_10 (by first | omega | (simp [up, setR] <;> omega)) (by rewrite [e36_73_41, e37_86]; rw [fs3]; omega) (by rewrite [e38_86, e39_87]; exact hhd) (by rewrite [e40_86]; exact hru) (by rewrite [e41_86]; exact htq) (Nat.lt_succ_self _)
                refine TT_aload_n hK rfl 0 rfl dX12_putPacket_160 ?_
                refine TT_aload_n hK rfl 0 rfl dX12_putPacket_161 ?_
                refine gf_X12_314 hK (by decide) rfl (v := (w117_6 73) 43) rfl dX12_putPacket_162 ?_
                have r42 := ty_73_43 (v := (w117_6 73) 43) hT117_6 rfl
                refine TT_if_le hK (tgt := 177) (irm (by omega) (by omega)) dX12_putPacket_165 (by decide) (fun hb165_43 => ?_) (fun hb165_43 => ?_)
                · refine TT_aload_n hK rfl 0 rfl dX12_putPacket_177 ?_
                  refine gf_X12_311 hK (by decide) rfl (v := (w117_6 73) 42) rfl dX12_putPacket_178 ?_
                  have r44 := ty_73_42 (v := (w117_6 73) 42) hT117_6 rfl
                  exact J181_8 ((w117_6 73) 42) (by first | omega | (simp [up, setR] <;> omega))
                · refine TT_aload_n hK rfl 0 rfl dX12_putPacket_168 ?_
                  refine gf_X12_311 hK (by decide) rfl (v := (w117_6 73) 42) rfl dX12_putPacket_169 ?_
                  have r45 := ty_73_42 (v := (w117_6 73) 42) hT117_6 rfl
                  refine TT_iconst hK dX12_putPacket_172 ?_
                  refine TT_iadd hK dX12_putPacket_173 ?_
                  refine TT_goto hK (tgt := 181) dX12_putPacket_174 (by decide) ?_
                  exact J181_8 (((w117_6 73) 42) + 1) (by first | omega | (simp [up, setR] <;> omega))
              refine TT_iload hK 5 rfl dX12_putPacket_117 ?_
              refine TT_iconst hK dX12_putPacket_119 ?_
              refine TT_iload_n hK rfl 1 rfl dX12_putPacket_120 ?_
              refine TT_imul hK dX12_putPacket_121 ?_
              refine TT_icmp_gt hK (tgt := 160) (irm (by omega) (by omega)) (irm (by omega) (by omega)) dX12_putPacket_122 (by decide) (fun hb122_46 => ?_) (fun hb122_46 => ?_)
              · refine TT_sub [0, 1, 2, 3, 4] rfl ?_
                have e47_73_42 : w117_6 73 42 = (w117_6 73) 42 := rfl
                have e48_73_43 : w117_6 73 43 = (w117_6 73) 43 := rfl
                exact J160_7  (by rewrite [e47_73_42, e48_73_43]; first | omega | (simp [up, setR] <;> omega))
              · refine TT_iload hK 4 rfl dX12_putPacket_125 ?_
                refine TT_if_eq hK (tgt := 160) (irm (by omega) (by omega)) dX12_putPacket_127 (by decide) (fun hb127_49 => ?_) (fun hb127_49 => ?_)
                · refine TT_sub [0, 1, 2, 3, 4] rfl ?_
                  have e50_73_42 : w117_6 73 42 = (w117_6 73) 42 := rfl
                  have e51_73_43 : w117_6 73 43 = (w117_6 73) 43 := rfl
                  exact J160_7  (by rewrite [e50_73_42, e51_73_43]; first | omega | (simp [up, setR] <;> omega))
                · refine TT_aload_n hK rfl 0 rfl dX12_putPacket_130 ?_
                  refine gf_X12_35 hK (by decide) rfl (q := 80) rfl rfl dX12_putPacket_131 ?_
                  refine TT_iload hK 5 rfl dX12_putPacket_134 ?_
                  refine TT_iald hK (o := 80) (n := 20) (by decide) rfl (by first | omega | (simp [up, setR] <;> omega)) (by first | omega | (simp [up, setR] <;> omega)) (v := (h 80) b) (rd_ (hF117_6.1 80 (by decide)) rfl) dX12_putPacket_136 ?_
                  have r52 := ty_80 (i := b) (v := (h 80) b) hT117_6 (rd_ (hF117_6.1 80 (by decide)) rfl) (by omega) (by omega)
                  refine TT_aload_n hK rfl 0 rfl dX12_putPacket_137 ?_
                  refine gf_X12_38 hK (by decide) rfl (q := 81) rfl rfl dX12_putPacket_138 ?_
                  refine TT_iload hK 5 rfl dX12_putPacket_141 ?_
                  refine TT_iald hK (o := 81) (n := 20) (by decide) rfl (by first | omega | (simp [up, setR] <;> omega)) (by first | omega | (simp [up, setR] <;> omega)) (v := (h 81) b) (rd_ (hF117_6.1 81 (by decide)) rfl) dX12_putPacket_143 ?_
                  have r53 := ty_81 (i := b) (v := (h 81) b) hT117_6 (rd_ (hF117_6.1 81 (by decide)) rfl) (by omega) (by omega)
                  refine TT_imul hK dX12_putPacket_144 ?_
                  refine TT_w32 (fun x145_54 hx54 => ?_)
                  refine TT_if_le hK (tgt := 154) (irm (by omega) (by omega)) dX12_putPacket_145 (by decide) (fun hb145_55 => ?_) (fun hb145_55 => ?_)
                  · refine TT_iinc hK (v := b + 1) (lv' := [(5, vI (b + 1)), (0, vR 73), (1, vI r), (2, vI i), (3, vI n), (4, vI sm)]) 5 rfl rfl (by decide) rfl dX12_putPacket_154 ?_
                    refine TT_goto hK (tgt := 117) dX12_putPacket_157 (by decide) ?_
                    refine TT_sub [1, 2, 3, 4, 5, 0] rfl ?_
                    have e56_73_42 : w117_6 73 42 = (w117_6 73) 42 := rfl
                    have e57_73_43 : w117_6 73 43 = (w117_6 73) 43 := rfl
                    have e58_73_41 : w117_6 73 41 = (w117_6 73) 41 := rfl
                    exact ih6 (b + 1) w117_6 hT117_6 hF117_6 (by first | omega | (simp [up, setR] <;> omega)) (by rewrite [e56_73_42, e57_73_43]; first | omega | (simp [up, setR] <;> omega)) (by rewrite [e58_73_41]; first | omega | (simp [up, setR] <;> omega)) (by exact hhd) (by exact hru) (by exact htq) (by first | omega | (simp [up, setR] <;> omega))
                  · refine TT_aload_n hK rfl 0 rfl dX12_putPacket_148 ?_
                    refine TT_iload hK 5 rfl dX12_putPacket_149 ?_
                    have e59_73_42 : w117_6 73 42 = (w117_6 73) 42 := rfl
                    have e60_73_43 : w117_6 73 43 = (w117_6 73) 43 := rfl
                    refine iv_X12_332 hK (s_X12_putHead_73 b w117_6 hT117_6 (by first | omega | (simp [up, setR] <;> omega)) (by have hh := hhd b (by omega) (by omega); rw [hh.1, hh.2]; exact (htk0 b (by omega) (by omega)).1) (by rewrite [e59_73_42, e60_73_43]; first | omega | (simp [up, setR] <;> omega))) (by decide) rfl ⟨by decide, by decide⟩ (by decide) rfl rfl (Nat.le_of_ble_eq_true rfl) ⟨by decide, by decide⟩ dX12_putPacket_151 ?_
                    intro r9 g151_61 hp9
                    obtain ⟨⟨hT_61, hG_61⟩, hr9, p1_61⟩ := hp9
                    rw [hr9]
                    have hF_61 : FRM [73, 86, 87, 88, 100] [41, 42, 43] h g151_61 := FRM_tr hF117_6 hG_61 (by decide) (by decide)
                    rw [show w117_6 73 42 = (w117_6 73) 42 from rfl] at p1_61
                    rw [show w117_6 73 43 = (w117_6 73) 43 from rfl] at p1_61
                    show TT K ly 0 0 154 [(0, vR 73), (1, vI r), (2, vI i), (3, vI n), (4, vI sm), (5, vI b)] [] g151_61
                    refine TT_iinc hK (v := b + 1) (lv' := [(5, vI (b + 1)), (0, vR 73), (1, vI r), (2, vI i), (3, vI n), (4, vI sm)]) 5 rfl rfl (by decide) rfl dX12_putPacket_154 ?_
                    refine TT_goto hK (tgt := 117) dX12_putPacket_157 (by decide) ?_
                    refine TT_sub [1, 2, 3, 4, 5, 0] rfl ?_
                    have e62_73_42 : g151_61 73 42 = (g151_61 73) 42 := rfl
                    have e63_73_43 : g151_61 73 43 = (g151_61 73) 43 := rfl
                    have e64_73_41 : g151_61 73 41 = (w117_6 73) 41 := (hG_61.2 41 (by decide))
                    have e65_86 : g151_61 86 = w117_6 86 := (hG_61.1 86 (by decide))
                    have e66_87 : g151_61 87 = w117_6 87 := (hG_61.1 87 (by decide))
                    have e67_86 : g151_61 86 = w117_6 86 := (hG_61.1 86 (by decide))
                    have e68_86 : g151_61 86 = w117_6 86 := (hG_61.1 86 (by decide))
                    exact ih6 (b + 1) g151_61 hT_61 hF_61 (by first | omega | (simp [up, setR] <;> omega)) (by rewrite [e62_73_42, e63_73_43]; first | omega | (simp [up, setR] <;> omega)) (by rewrite [e64_73_41]; first | omega | (simp [up, setR] <;> omega)) (by rewrite [e65_86, e66_87]; exact hhd) (by rewrite [e67_86]; exact hru) (by rewrite [e68_86]; exact htq) (by first | omega | (simp [up, setR] <;> omega))
          refine TT_sub [1, 2, 3, 4, 5, 0] rfl ?_
          have e69_73_42 : g112_5 73 42 = (w111_4 73) 42 := congrFun (hG_5.1 73 (by decide)) 42
          have e70_73_43 : g112_5 73 43 = (w111_4 73) 43 := congrFun (hG_5.1 73 (by decide)) 43
          have e71_73_41 : g112_5 73 41 = (w111_4 73) 41 := congrFun (hG_5.1 73 (by decide)) 41
          have e72_86 : g112_5 86 = w111_4 86 := (hG_5.1 86 (by decide))
          have e73_87 : g112_5 87 = w111_4 87 := (hG_5.1 87 (by decide))
          have e74_86 : g112_5 86 = w111_4 86 := (hG_5.1 86 (by decide))
          have e75_86 : g112_5 86 = w111_4 86 := (hG_5.1 86 (by decide))
          have fs2 := p1_at112
          exact L117_6 (((3 * r + 1 - z112_5).toNat) + 1) z112_5 g112_5 hT_5 hF_5 (by first | omega | (simp [up, setR] <;> omega)) (by rewrite [e69_73_42, e70_73_43]; first | omega | (simp [up, setR] <;> omega)) (by rewrite [e71_73_41]; first | omega | (simp [up, setR] <;> omega)) (by rewrite [e72_86, e73_87]; exact hhd) (by rewrite [e74_86]; exact hru) (by rewrite [e75_86]; exact htq) (Nat.lt_succ_self _)
        refine TT_aload_n hK rfl 0 rfl dX12_putPacket_83 ?_
        refine TT_aload_n hK rfl 0 rfl dX12_putPacket_84 ?_
        refine gf_X12_329 hK (by decide) rfl (v := (w9_2 73) 41) rfl dX12_putPacket_85 ?_
        have r76 := ty_73_41 (v := (w9_2 73) 41) hT9_2 rfl
        refine pf_X12_311 hK (by decide) rfl dX12_putPacket_88 ?_
        refine TT_hp (h' := setO w9_2 73 (fup (w9_2 73) 42 ((w9_2 73) 41))) (up_can rfl rfl rfl) ?_
        have hT_77 : TY (setO w9_2 73 (fup (w9_2 73) 42 ((w9_2 73) 41))) := tu_73_42 hT9_2 (show up w9_2 73 42 ((w9_2 73) 41) = (setO w9_2 73 (fup (w9_2 73) 42 ((w9_2 73) 41))) from up_can rfl rfl rfl) (by omega)
        have hF_77 : FRM [73, 86, 87, 88, 100] [41, 42, 43] h (setO w9_2 73 (fup (w9_2 73) 42 ((w9_2 73) 41))) := FRM_f (show up w9_2 73 42 ((w9_2 73) 41) = (setO w9_2 73 (fup (w9_2 73) 42 ((w9_2 73) 41))) from up_can rfl rfl rfl) hF9_2 (by decide) (by decide)
        refine TT_aload_n hK rfl 0 rfl dX12_putPacket_91 ?_
        refine TT_iconst hK dX12_putPacket_92 ?_
        refine pf_X12_314 hK (by decide) rfl dX12_putPacket_93 ?_
        refine TT_hp (h' := setO w9_2 73 (fup (fup (w9_2 73) 42 ((w9_2 73) 41)) 43 0)) (up_can (sOf_eq _ _ _) rfl (setO_same _ _ _ _)) ?_
        have hT_78 : TY (setO w9_2 73 (fup (fup (w9_2 73) 42 ((w9_2 73) 41)) 43 0)) := tu_73_43 hT_77 (show up (setO w9_2 73 (fup (w9_2 73) 42 ((w9_2 73) 41))) 73 43 0 = (setO w9_2 73 (fup (fup (w9_2 73) 42 ((w9_2 73) 41)) 43 0)) from up_can (sOf_eq _ _ _) rfl (setO_same _ _ _ _)) (by omega)
        have hF_78 : FRM [73, 86, 87, 88, 100] [41, 42, 43] h (setO w9_2 73 (fup (fup (w9_2 73) 42 ((w9_2 73) 41)) 43 0)) := FRM_f (show up (setO w9_2 73 (fup (w9_2 73) 42 ((w9_2 73) 41))) 73 43 0 = (setO w9_2 73 (fup (fup (w9_2 73) 42 ((w9_2 73) 41)) 43 0)) from up_can (sOf_eq _ _ _) rfl (setO_same _ _ _ _)) hF_77 (by decide) (by decide)
        refine TT_aload_n hK rfl 0 rfl dX12_putPacket_96 ?_
        refine TT_iload hK 4 rfl dX12_putPacket_97 ?_
        refine TT_if_eq hK (tgt := 106) (irm (by omega) (by omega)) dX12_putPacket_99 (by decide) (fun hb99_79 => ?_) (fun hb99_79 => ?_)
        · refine TT_iconst hK dX12_putPacket_106 ?_
          refine TT_iconst hK dX12_putPacket_107 ?_
          have e80_73_42 : (setO w9_2 73 (fup (fup (w9_2 73) 42 ((w9_2 73) 41)) 43 0)) 73 42 = (w9_2 73) 41 := rd_ (sOf_eq _ _ _) ((fup_ne _ _ (by decide)).trans (fup_eq _ _ _))
          have e81_73_43 : (setO w9_2 73 (fup (fup (w9_2 73) 42 ((w9_2 73) 41)) 43 0)) 73 43 = 0 := rd_ (sOf_eq _ _ _) (fup_eq _ _ _)
          refine iv_X12_320 hK (s_X12_putBits_73 0 1 (setO w9_2 73 (fup (fup (w9_2 73) 42 ((w9_2 73) 41)) 43 0)) hT_78 (by first | omega | (simp [up, setR] <;> omega)) (by first | omega | (simp [up, setR] <;> omega)) (by rewrite [e80_73_42, e81_73_43]; first | omega | (simp [up, setR] <;> omega))) (by decide) rfl ⟨by decide, by decide⟩ (by decide) rfl rfl (Nat.le_of_ble_eq_true rfl) ⟨by decide, by decide⟩ dX12_putPacket_108 ?_
          intro r9 g108_82 hp9
          obtain ⟨⟨hT_82, hG_82⟩, hr9, p1_82⟩ := hp9
          rw [hr9]
          have hF_82 : FRM [73, 86, 87, 88, 100] [41, 42, 43] h g108_82 := FRM_tr hF_78 hG_82 (by decide) (by decide)
          rw [show (setO w9_2 73 (fup (fup (w9_2 73) 42 ((w9_2 73) 41)) 43 0)) 73 42 = (w9_2 73) 41 from rd_ (sOf_eq _ _ _) ((fup_ne _ _ (by decide)).trans (fup_eq _ _ _))] at p1_82
          rw [show (setO w9_2 73 (fup (fup (w9_2 73) 42 ((w9_2 73) 41)) 43 0)) 73 43 = 0 from rd_ (sOf_eq _ _ _) (fup_eq _ _ _)] at p1_82
          have p1_at108 := p1_82
          show TT K ly 0 0 111 [(0, vR 73), (1, vI r), (2, vI i), (3, vI n), (4, vI sm), (5, vI b)] [] g108_82
          refine TT_sub [0, 1, 2, 3, 4] rfl ?_
          have e83_73_42 : g108_82 73 42 = (g108_82 73) 42 := rfl
          have e84_73_43 : g108_82 73 43 = (g108_82 73) 43 := rfl
          have e85_73_41 : g108_82 73 41 = (w9_2 73) 41 := ((hG_82.2 41 (by decide))).trans (rd_ (sOf_eq _ _ _) ((fup_ne _ _ (by decide)).trans (fup_ne _ _ (by decide))))
          have e86_86 : g108_82 86 = w9_2 86 := ((hG_82.1 86 (by decide))).trans (sOf_ne _ _ (by decide))
          have e87_87 : g108_82 87 = w9_2 87 := ((hG_82.1 87 (by decide))).trans (sOf_ne _ _ (by decide))
          have e88_86 : g108_82 86 = w9_2 86 := ((hG_82.1 86 (by decide))).trans (sOf_ne _ _ (by decide))
          have e89_86 : g108_82 86 = w9_2 86 := ((hG_82.1 86 (by decide))).trans (sOf_ne _ _ (by decide))
          exact J111_4 g108_82 hT_82 hF_82 (by rewrite [e83_73_42, e84_73_43]; first | omega | (simp [up, setR] <;> omega)) (by rewrite [e85_73_41]; first | omega | (simp [up, setR] <;> omega)) (by rewrite [e86_86, e87_87]; rw [show b = 3 * r + 1 by omega] at hhd; exact hhd) (by rewrite [e88_86]; rw [show b = 3 * r + 1 by omega] at hru; exact hru) (by rewrite [e89_86]; rw [show b = 3 * r + 1 by omega] at hhd hru; exact TKQ_n (FS r) (3 * r + 1) hi hn htk0 (fun j h1 h2 => (ty_83 (i := j) (v := h 83 j) hT rfl h1 (by omega)).1.1) hhd hru)
        · refine TT_iconst hK dX12_putPacket_102 ?_
          refine TT_goto hK (tgt := 107) dX12_putPacket_103 (by decide) ?_
          refine TT_iconst hK dX12_putPacket_107 ?_
          have e90_73_42 : (setO w9_2 73 (fup (fup (w9_2 73) 42 ((w9_2 73) 41)) 43 0)) 73 42 = (w9_2 73) 41 := rd_ (sOf_eq _ _ _) ((fup_ne _ _ (by decide)).trans (fup_eq _ _ _))
          have e91_73_43 : (setO w9_2 73 (fup (fup (w9_2 73) 42 ((w9_2 73) 41)) 43 0)) 73 43 = 0 := rd_ (sOf_eq _ _ _) (fup_eq _ _ _)
          refine iv_X12_320 hK (s_X12_putBits_73 1 1 (setO w9_2 73 (fup (fup (w9_2 73) 42 ((w9_2 73) 41)) 43 0)) hT_78 (by first | omega | (simp [up, setR] <;> omega)) (by first | omega | (simp [up, setR] <;> omega)) (by rewrite [e90_73_42, e91_73_43]; first | omega | (simp [up, setR] <;> omega))) (by decide) rfl ⟨by decide, by decide⟩ (by decide) rfl rfl (Nat.le_of_ble_eq_true rfl) ⟨by decide, by decide⟩ dX12_putPacket_108 ?_
          intro r9 g108_92 hp9
          obtain ⟨⟨hT_92, hG_92⟩, hr9, p1_92⟩ := hp9
          rw [hr9]
          have hF_92 : FRM [73, 86, 87, 88, 100] [41, 42, 43] h g108_92 := FRM_tr hF_78 hG_92 (by decide) (by decide)
          rw [show (setO w9_2 73 (fup (fup (w9_2 73) 42 ((w9_2 73) 41)) 43 0)) 73 42 = (w9_2 73) 41 from rd_ (sOf_eq _ _ _) ((fup_ne _ _ (by decide)).trans (fup_eq _ _ _))] at p1_92
          rw [show (setO w9_2 73 (fup (fup (w9_2 73) 42 ((w9_2 73) 41)) 43 0)) 73 43 = 0 from rd_ (sOf_eq _ _ _) (fup_eq _ _ _)] at p1_92
          have p1_at108 := p1_92
          show TT K ly 0 0 111 [(0, vR 73), (1, vI r), (2, vI i), (3, vI n), (4, vI sm), (5, vI b)] [] g108_92
          refine TT_sub [0, 1, 2, 3, 4] rfl ?_
          have e93_73_42 : g108_92 73 42 = (g108_92 73) 42 := rfl
          have e94_73_43 : g108_92 73 43 = (g108_92 73) 43 := rfl
          have e95_73_41 : g108_92 73 41 = (w9_2 73) 41 := ((hG_92.2 41 (by decide))).trans (rd_ (sOf_eq _ _ _) ((fup_ne _ _ (by decide)).trans (fup_ne _ _ (by decide))))
          have e96_86 : g108_92 86 = w9_2 86 := ((hG_92.1 86 (by decide))).trans (sOf_ne _ _ (by decide))
          have e97_87 : g108_92 87 = w9_2 87 := ((hG_92.1 87 (by decide))).trans (sOf_ne _ _ (by decide))
          have e98_86 : g108_92 86 = w9_2 86 := ((hG_92.1 86 (by decide))).trans (sOf_ne _ _ (by decide))
          have e99_86 : g108_92 86 = w9_2 86 := ((hG_92.1 86 (by decide))).trans (sOf_ne _ _ (by decide))
          exact J111_4 g108_92 hT_92 hF_92 (by rewrite [e93_73_42, e94_73_43]; first | omega | (simp [up, setR] <;> omega)) (by rewrite [e95_73_41]; first | omega | (simp [up, setR] <;> omega)) (by rewrite [e96_86, e97_87]; rw [show b = 3 * r + 1 by omega] at hhd; exact hhd) (by rewrite [e98_86]; rw [show b = 3 * r + 1 by omega] at hru; exact hru) (by rewrite [e99_86]; rw [show b = 3 * r + 1 by omega] at hhd hru; exact TKQ_n (FS r) (3 * r + 1) hi hn htk0 (fun j h1 h2 => (ty_83 (i := j) (v := h 83 j) hT rfl h1 (by omega)).1.1) hhd hru)
      · refine TT_aload_n hK rfl 0 rfl dX12_putPacket_17 ?_
        refine gf_X12_57 hK (by decide) rfl (q := 87) rfl rfl dX12_putPacket_18 ?_
        refine TT_iload hK 5 rfl dX12_putPacket_21 ?_
        refine TT_aload_n hK rfl 0 rfl dX12_putPacket_23 ?_
        refine gf_X12_54 hK (by decide) rfl (q := 86) rfl rfl dX12_putPacket_24 ?_
        refine TT_iload hK 5 rfl dX12_putPacket_27 ?_
        refine TT_iald hK (o := 86) (n := 20) (by decide) rfl (by first | omega | (simp [up, setR] <;> omega)) (by first | omega | (simp [up, setR] <;> omega)) (v := (w9_2 86) b) rfl dX12_putPacket_29 ?_
        have r100 := ty_86 (i := b) (v := (w9_2 86) b) hT9_2 rfl (by omega) (by omega)
        refine TT_iast hK (o := 87) (n := 20) (by decide) rfl (by omega) (by omega) dX12_putPacket_30 ?_
        refine TT_hp (h' := setO w9_2 87 (fup (w9_2 87) b ((w9_2 86) b))) (up_can rfl rfl rfl) ?_
        have hT_101 : TY (setO w9_2 87 (fup (w9_2 87) b ((w9_2 86) b))) := tu_87 hT9_2 (show up w9_2 87 b ((w9_2 86) b) = (setO w9_2 87 (fup (w9_2 87) b ((w9_2 86) b))) from up_can rfl rfl rfl) (by omega)
        have hF_101 : FRM [73, 86, 87, 88, 100] [41, 42, 43] h (setO w9_2 87 (fup (w9_2 87) b ((w9_2 86) b))) := FRM_up (show up w9_2 87 b ((w9_2 86) b) = (setO w9_2 87 (fup (w9_2 87) b ((w9_2 86) b))) from up_can rfl rfl rfl) hF9_2 (by decide) (by decide)
        refine TT_aload_n hK rfl 0 rfl dX12_putPacket_31 ?_
        refine gf_X12_54 hK (by decide) rfl (q := 86) rfl rfl dX12_putPacket_32 ?_
        refine TT_iload hK 5 rfl dX12_putPacket_35 ?_
        refine TT_aload_n hK rfl 0 rfl dX12_putPacket_37 ?_
        refine TT_iload hK 5 rfl dX12_putPacket_38 ?_
        refine iv_X12_296 hK (s_passesOf_x b (setO w9_2 87 (fup (w9_2 87) b ((w9_2 86) b))) hT_101 (by first | omega | (simp [up, setR] <;> omega))) (by decide) rfl ⟨by decide, by decide⟩ (by decide) rfl rfl (Nat.le_of_ble_eq_true rfl) ⟨by decide, by decide⟩ dX12_putPacket_40 ?_
        intro r9 g40_102 hp9
        obtain ⟨⟨hT_102, hG_102⟩, z40_102, hr9, hz_102, p1_102, p2_102⟩ := hp9
        rw [hr9]
        have hF_102 : FRM [73, 86, 87, 88, 100] [41, 42, 43] h g40_102 := FRM_tr hF_101 hG_102 (by decide) (by decide)
        rw [show (setO w9_2 87 (fup (w9_2 87) b ((w9_2 86) b))) 83 = h 83 from (sOf_ne _ _ (by decide)).trans (hF9_2.1 83 (by decide))] at p2_102
        have p2_at40 := p2_102
        show TT K ly 0 0 43 [(0, vR 73), (1, vI r), (2, vI i), (3, vI n), (4, vI sm), (5, vI b)] [vI z40_102, vI b, vR 86] g40_102
        refine TT_iload_n hK rfl 2 rfl dX12_putPacket_43 ?_
        refine TT_imul hK dX12_putPacket_44 ?_
        refine TT_nmI (fun m9 hm9 => ?_)
        refine TT_iload_n hK rfl 3 rfl dX12_putPacket_45 ?_
        have hm := pu1 (hm9.trans (Int.mul_comm _ _)) hi hn (by omega)
        refine TT_idivn hK (irm (by omega) (by omega)) (irm (by omega) (by omega)) (by first | omega | (simp [up, setR] <;> omega)) (by first | omega | (simp [up, setR] <;> omega)) dX12_putPacket_46 ?_
        refine TT_iast hK (o := 86) (n := 20) (by decide) rfl (by omega) (by omega) dX12_putPacket_47 ?_
        refine TT_hp (h' := setO g40_102 86 (fup (w9_2 86) b (m9 / n))) (up_can (((hG_102.1 86 (by decide))).trans (sOf_ne _ _ (by decide))) rfl rfl) ?_
        have hT_103 : TY (setO g40_102 86 (fup (w9_2 86) b (m9 / n))) := tu_86 hT_102 (show up g40_102 86 b (m9 / n) = (setO g40_102 86 (fup (w9_2 86) b (m9 / n))) from up_can (((hG_102.1 86 (by decide))).trans (sOf_ne _ _ (by decide))) rfl rfl) (by omega)
        have hF_103 : FRM [73, 86, 87, 88, 100] [41, 42, 43] h (setO g40_102 86 (fup (w9_2 86) b (m9 / n))) := FRM_up (show up g40_102 86 b (m9 / n) = (setO g40_102 86 (fup (w9_2 86) b (m9 / n))) from up_can (((hG_102.1 86 (by decide))).trans (sOf_ne _ _ (by decide))) rfl rfl) hF_102 (by decide) (by decide)
        have J75_104 : ∀ (sm2 : Int), (0 ≤ sm2 ∧ sm2 ≤ 1) → TT K ly 0 0 75 [(0, vR 73), (1, vI r), (2, vI i), (3, vI n), (4, vI sm), (5, vI b)] [vI sm2] (setO g40_102 86 (fup (w9_2 86) b (m9 / n))) := by
          intro sm2 hs2
          refine TT_istore hK (lv' := [(4, vI sm2), (0, vR 73), (1, vI r), (2, vI i), (3, vI n), (5, vI b)]) (by decide) rfl dX12_putPacket_75 ?_
          refine TT_iinc hK (v := b + 1) (lv' := [(5, vI (b + 1)), (4, vI sm2), (0, vR 73), (1, vI r), (2, vI i), (3, vI n)]) 5 rfl rfl (by decide) rfl dX12_putPacket_77 ?_
          refine TT_goto hK (tgt := 9) dX12_putPacket_80 (by decide) ?_
          refine TT_sub [2, 3, 4, 5, 1, 0] rfl ?_
          have e105_73_41 : (setO g40_102 86 (fup (w9_2 86) b (m9 / n))) 73 41 = (w9_2 73) 41 := (congrFun ((sOf_ne _ _ (by decide)).trans (hG_102.1 73 (by decide))) 41).trans (rd_ (sOf_ne _ _ (by decide)) rfl)
          have e106_86 : (setO g40_102 86 (fup (w9_2 86) b (m9 / n))) 86 = fup (w9_2 86) b (m9 / n) := sOf_eq _ _ _
          have e107_87 : (setO g40_102 86 (fup (w9_2 86) b (m9 / n))) 87 = fup (w9_2 87) b ((w9_2 86) b) := (sOf_ne _ _ (by decide)).trans (((hG_102.1 87 (by decide))).trans (sOf_eq _ _ _))
          have e108_86 : (setO g40_102 86 (fup (w9_2 86) b (m9 / n))) 86 = fup (w9_2 86) b (m9 / n) := sOf_eq _ _ _
          exact ih2 sm2 (b + 1) (setO g40_102 86 (fup (w9_2 86) b (m9 / n))) hT_103 hF_103 (by first | omega | (simp [up, setR] <;> omega)) (by first | omega | (simp [up, setR] <;> omega)) (by rewrite [e105_73_41]; first | omega | (simp [up, setR] <;> omega)) (by rewrite [e106_86, e107_87]; intro j h1 h2; by_cases e : j = b; (rw [e, fup_eq, fup_eq, hm9, p2_at40]; exact ⟨hru b (Or.inr (Int.le_refl _)), rfl⟩); (rw [fup_ne _ _ e, fup_ne _ _ e]; exact hhd j h1 (by omega))) (by rewrite [e108_86]; intro j h1; rw [fup_ne _ _ (by omega)]; exact hru j (by omega)) (by first | omega | (simp [up, setR] <;> omega))
        refine TT_iload hK 4 rfl dX12_putPacket_48 ?_
        refine TT_if_ne hK (tgt := 70) (irm (by omega) (by omega)) dX12_putPacket_50 (by decide) (fun hb50_109 => ?_) (fun hb50_109 => ?_)
        · refine TT_iconst hK dX12_putPacket_70 ?_
          refine TT_goto hK (tgt := 75) dX12_putPacket_71 (by decide) ?_
          exact J75_104 1 (by first | omega | (simp [up, setR] <;> omega))
        · refine TT_aload_n hK rfl 0 rfl dX12_putPacket_53 ?_
          refine gf_X12_54 hK (by decide) rfl (q := 86) rfl rfl dX12_putPacket_54 ?_
          refine TT_iload hK 5 rfl dX12_putPacket_57 ?_
          refine TT_iald hK (o := 86) (n := 20) (by decide) rfl (by first | omega | (simp [up, setR] <;> omega)) (by first | omega | (simp [up, setR] <;> omega)) (v := m9 / n) (rd_ (sOf_eq _ _ _) (fup_eq _ _ _)) dX12_putPacket_59 ?_
          have r110 := ty_86 (i := b) (v := m9 / n) hT_103 (rd_ (sOf_eq _ _ _) (fup_eq _ _ _)) (by omega) (by omega)
          refine TT_aload_n hK rfl 0 rfl dX12_putPacket_60 ?_
          refine gf_X12_57 hK (by decide) rfl (q := 87) rfl rfl dX12_putPacket_61 ?_
          refine TT_iload hK 5 rfl dX12_putPacket_64 ?_
          refine TT_iald hK (o := 87) (n := 20) (by decide) rfl (by first | omega | (simp [up, setR] <;> omega)) (by first | omega | (simp [up, setR] <;> omega)) (v := (w9_2 86) b) (rd_ ((sOf_ne _ _ (by decide)).trans (((hG_102.1 87 (by decide))).trans (sOf_eq _ _ _))) (fup_eq _ _ _)) dX12_putPacket_66 ?_
          refine TT_icmp_le hK (tgt := 74) (irm (by omega) (by omega)) (irm (by omega) (by omega)) dX12_putPacket_67 (by decide) (fun hb67_111 => ?_) (fun hb67_111 => ?_)
          · refine TT_iconst hK dX12_putPacket_74 ?_
            exact J75_104 0 (by first | omega | (simp [up, setR] <;> omega))
          · refine TT_iconst hK dX12_putPacket_70 ?_
            refine TT_goto hK (tgt := 75) dX12_putPacket_71 (by decide) ?_
            exact J75_104 1 (by first | omega | (simp [up, setR] <;> omega))
  refine TT_sub [2, 3, 4, 5, 1, 0] rfl ?_
  have e112_73_41 : g4_1 73 41 = (h 73) 41 := congrFun (hG_1.1 73 (by decide)) 41
  have e113_86 : g4_1 86 = h 86 := (hG_1.1 86 (by decide))
  have e114_87 : g4_1 87 = h 87 := (hG_1.1 87 (by decide))
  have e115_86 : g4_1 86 = h 86 := (hG_1.1 86 (by decide))
  have fs1 := p1_at4
  exact L9_2 (((3 * r + 1 - z4_1).toNat) + 1) 0 z4_1 g4_1 hT_1 hF_1 (by first | omega | (simp [up, setR] <;> omega)) (by first | omega | (simp [up, setR] <;> omega)) (by rewrite [e112_73_41]; first | omega | (simp [up, setR] <;> omega)) (by rewrite [e113_86, e114_87]; intro j h1 h2; omega) (by rewrite [e115_86]; intro j h1; rfl) (Nat.lt_succ_self _)

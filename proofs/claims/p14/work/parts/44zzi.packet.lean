theorem mul_z {w g p : Int} (hw : 0 ≤ w ∧ w ≤ 8) (hg : 0 ≤ g ∧ g ≤ 8) (hp : p = w * g) : (0 ≤ p ∧ p ≤ 64) ∧ (p ≤ 0 → w = 0 ∨ g = 0) ∧ (0 < p → ¬(w = 0 ∨ g = 0)) := by
  rcases (show w = 0 ∨ w = 1 ∨ w = 2 ∨ w = 3 ∨ w = 4 ∨ w = 5 ∨ w = 6 ∨ w = 7 ∨ w = 8 by omega) with rfl | rfl | rfl | rfl | rfl | rfl | rfl | rfl | rfl <;> omega
theorem RBR_u {a : Int} {o : Int → Int} {s : PBS_} (h : RBR a 0 o s) : a = s.1 ∧ s.2.1 = 0 := ⟨h.1, h.2.1.symm⟩
theorem endB_p {a u : Int} {o : Int → Int} {s : PBS_} (h : RBR a u o s) (hu : 0 < u) : a + 1 = (endB s).1 := by
  have e1 : a = s.1 := h.1
  have e2 : u = s.2.1 := h.2.1
  show a + 1 = if 0 < s.2.1 then s.1 + 1 else s.1
  rw [if_pos (by omega)]
  omega
theorem endB_q {a u : Int} {o : Int → Int} {s : PBS_} (h : RBR a u o s) (hu : ¬ 0 < u) : a = (endB s).1 := by
  have e1 : a = s.1 := h.1
  have e2 : u = s.2.1 := h.2.1
  show a = if 0 < s.2.1 then s.1 + 1 else s.1
  rw [if_neg (by omega)]
  exact e1
theorem RBR_e {a u : Int} {o : Int → Int} {s : PBS_} (h : RBR a u o s) : RBR (endB s).1 0 o (endB s) := by
  refine ⟨rfl, rfl, fun j j0 j1 => ?_⟩
  have j2 : j < (if 0 < s.2.1 then s.1 + 1 else s.1) + (if (0 : Int) < 0 then 1 else 0) := j1
  rw [if_neg (show ¬ (0 : Int) < 0 by decide)] at j2
  refine h.2.2 j j0 ?_
  split at j2
  · rename_i c
    rw [if_pos c]
    omega
  · rename_i c
    rw [if_neg c]
    omega
theorem RBR_a {a v : Int} {o : Int → Int} {s : PBS_} (h : RBR a 0 o s) : RBR (a + 1) 0 (fup o a v) (adS v s) := by
  have e1 : a = s.1 := h.1
  have e2 : (0 : Int) = s.2.1 := h.2.1
  refine ⟨?_, rfl, fun j j0 j1 => ?_⟩
  · show a + 1 = s.1 + 1
    omega
  · have j2 : j < s.1 + 1 + (if (0 : Int) < 0 then 1 else 0) := j1
    rw [if_neg (show ¬ (0 : Int) < 0 by decide)] at j2
    show fup o a v j = fup s.2.2 s.1 v j
    rw [e1]
    by_cases c : j = s.1
    · rw [c, fup_eq, fup_eq]
    · rw [fup_ne _ _ c, fup_ne _ _ c]
      exact h.2.2 j j0 (by rw [← e2, if_neg (show ¬ (0 : Int) < 0 by decide)]; omega)
theorem PK_m {D : DT_} {n i r b sm : Int} {s : PBS_} {W : Int → Int} (hA : sm = anS D n i (FS r) (3 * r + 1 - FS r).toNat) (h : (sm = 0 ∧ b = FS r) ∨ (sm = 1 ∧ b = 3 * r + 1)) : heS D n i r (s, W) = hdsS D n i (FS r) (b - FS r).toNat (putS sm 1 s, W) := by
  rcases h with ⟨h1, h2⟩ | ⟨h1, h2⟩
  · rw [h2, show FS r - FS r = 0 by omega, h1]
    exact if_pos (by rw [← hA]; exact h1)
  · rw [h2, h1]
    exact if_neg (by rw [← hA, h1]; decide)
theorem loF_sz {D : DT_} {n i b : Int} : loF D n i b + szF D n i b = D.2.1 (35 * b + tkF D n i b) := by
  unfold loF szF
  omega
set_option maxRecDepth 20000 in
theorem s_putPacket_e (s : PBS_) (W : Int → Int) (r i n : Int) (h : Hp_) (hT : TY h) (hr : 0 ≤ r ∧ r ≤ 3) (hc1 : 3 * r + 1 ≤ (h 73 18)) (hi : 1 ≤ i ∧ i ≤ n) (hn : n ≤ 3) (hlq : LQ (h 83) (h 91) (h 92) (h 73 18)) (hmi : MIQ (h 90) (h 91)) (htk0 : TKQ (h 86) (h 83) i n (h 73 18)) (hlen : (h 73 41) + 19 + IS (h 91) (h 73 18) - IS (GT (h 92) (h 86)) (h 73 18) ≤ 4390) (hrb : RBR (h 73 41) 0 (h 100) s) (hu : 0 ≤ s.1 ∧ s.2.1 = 0) (hpk : PKW (h 73 18) (h 88) (s, W)) (htk : ∀ j : Int, FS r ≤ j → j < 3 * r + 1 → (h 86) j = tkF ((h 83), (h 92), (h 80), (h 81), fun c i => (h 89) ((h 90) c + i)) n (i - 1) j) (h91 : ∀ j : Int, 0 ≤ j → j < (h 73 18) → (h 91) j ≤ 1000) : Ctr yX12_putPacket cX12_putPacket 7 none (rmd 3) ly ly 0 0 [vR 73, vI r, vI i, vI n] h (fun rz h' => (TY h' ∧ FRM [73, 86, 87, 88, 100] [41, 42, 43] h h') ∧ rz = none ∧ ((h' 73 41) - IS (GT (h 92) (h' 86)) (h 73 18) ≤ (h 73 41) - IS (GT (h 92) (h 86)) (h 73 18) + 19) ∧ (TKQ (h' 86) (h 83) i n (h 73 18)) ∧ (RBR (h' 73 41) 0 (h' 100) (pkS ((h 83), (h 92), (h 80), (h 81), fun c i => (h 89) ((h 90) c + i)) n i r (s, W)).1 ∧ (0 ≤ (pkS ((h 83), (h 92), (h 80), (h 81), fun c i => (h 89) ((h 90) c + i)) n i r (s, W)).1.1 ∧ (pkS ((h 83), (h 92), (h 80), (h 81), fun c i => (h 89) ((h 90) c + i)) n i r (s, W)).1.2.1 = 0)) ∧ (PKW (h 73 18) (h' 88) (pkS ((h 83), (h 92), (h 80), (h 81), fun c i => (h 89) ((h 90) c + i)) n i r (s, W))) ∧ ((∀ j : Int, FS r ≤ j → j < 3 * r + 1 → (h' 86) j = tkF ((h 83), (h 92), (h 80), (h 81), fun c i => (h 89) ((h 90) c + i)) n i j) ∧ ∀ j : Int, j < FS r ∨ 3 * r + 1 ≤ j → (h' 86) j = (h 86) j)) := by
  refine Ctr_of (by decide) (Nat.le_of_ble_eq_true rfl) ⟨Nat.le_refl _, Nat.le_refl _⟩ (fun K hK hQ _ => ?_)
  show TT K ly 0 0 0 [(0, vR 73), (1, vI r), (2, vI i), (3, vI n)] [] h
  have hF : FRM [73, 86, 87, 88, 100] [41, 42, 43] h h := FRM_rf _ _ _
  have hfs := FS_r (r := r) hr
  have hc := (ty_73_18 (v := h 73 18) hT rfl).2
  have gb0 := ISM (g0 := GT (h 92) (h 86)) (g1 := GT (h 92) (h 86)) (ws := h 91) (b := 0) (c := h 73 18) (by omega) (GTw hT hlq htk0 hc) (fun j h1 h2 => absurd h1 (by omega))
  have gb1 : IS (GT (h 92) (h 86)) 0 = 0 := rfl
  have rp83 : ∀ b : Int, 0 ≤ b → b < h 73 18 → 0 ≤ h 83 b ∧ h 83 b ≤ 12 := fun b b0 b1 => by
      have r9 := ty_83 (i := b) (v := h 83 b) hT rfl (by omega) (by omega)
      omega
  have tk9 : ∀ b : Int, 0 ≤ b → b < h 73 18 → 0 ≤ tkF ((h 83, h 92, h 80, h 81, fun c i => h 89 (h 90 c + i)) : DT_) n (i - 1) b ∧ tkF ((h 83, h 92, h 80, h 81, fun c i => h 89 (h 90 c + i)) : DT_) n (i - 1) b ≤ tkF ((h 83, h 92, h 80, h 81, fun c i => h 89 (h 90 c + i)) : DT_) n i b ∧ tkF ((h 83, h 92, h 80, h 81, fun c i => h 89 (h 90 c + i)) : DT_) n i b ≤ pas (h 83 b) ∧ pas (h 83 b) ≤ 34 := fun b b0 b1 => tkF_r (D := ((h 83, h 92, h 80, h 81, fun c i => h 89 (h 90 c + i)) : DT_)) (rp83 b b0 b1) hi hn
  have sz0 : ∀ b : Int, 0 ≤ b → b < h 73 18 → (0 ≤ szF ((h 83, h 92, h 80, h 81, fun c i => h 89 (h 90 c + i)) : DT_) n i b ∧ szF ((h 83, h 92, h 80, h 81, fun c i => h 89 (h 90 c + i)) : DT_) n i b ≤ 1023) ∧ 0 ≤ loF ((h 83, h 92, h 80, h 81, fun c i => h 89 (h 90 c + i)) : DT_) n i b ∧ loF ((h 83, h 92, h 80, h 81, fun c i => h 89 (h 90 c + i)) : DT_) n i b + szF ((h 83, h 92, h 80, h 81, fun c i => h 89 (h 90 c + i)) : DT_) n i b ≤ h 91 b := fun b b0 b1 => LQ_sz (D := ((h 83, h 92, h 80, h 81, fun c i => h 89 (h 90 c + i)) : DT_)) hlq (rp83 b b0 b1) hi hn ⟨⟨b0, b1⟩, by omega⟩ (h91 b b0 b1) (fun j j0 j1 => (ty_92 (i := j) (v := h 92 j) hT rfl j0 j1).1)
  have wu1 := PBQ_u hu
  refine TT_iconst hK dX12_putPacket_0 ?_
  refine TT_istore hK (lv' := [(4, vI 0), (0, vR 73), (1, vI r), (2, vI i), (3, vI n)]) (by decide) rfl dX12_putPacket_1 ?_
  refine TT_iload_n hK rfl 2 rfl dX12_putPacket_3 ?_
  refine iv_X12_326 hK (s_X12_firstOf r h hT (by first | omega | (simp [up, setR] <;> omega))) ⟨by decide, by decide⟩ (by decide) rfl rfl (Nat.le_of_ble_eq_true rfl) ⟨by decide, by decide⟩ dX12_putPacket_4 ?_
  intro r9 g4_1 hp9
  obtain ⟨⟨hT_1, hG_1⟩, z4_1, hr9, hz_1, p1_1⟩ := hp9
  rw [hr9]
  have hF_1 : FRM [73, 86, 87, 88, 100] [41, 42, 43] h g4_1 := FRM_tr hF hG_1 (by decide) (by decide)
  have p1_at4 := p1_1
  show TT K ly 0 0 7 [(4, vI 0), (0, vR 73), (1, vI r), (2, vI i), (3, vI n)] [vI z4_1] g4_1
  refine TT_istore hK (lv' := [(5, vI z4_1), (4, vI 0), (0, vR 73), (1, vI r), (2, vI i), (3, vI n)]) (by decide) rfl dX12_putPacket_7 ?_
  have L9_2 : ∀ (k2 : Nat) (sm : Int) (b : Int) (w9_2 : Hp_), TY w9_2 → FRM [73, 86, 87, 88, 100] [41, 42, 43] h w9_2 → (0 ≤ sm ∧ sm ≤ 1) → (FS r ≤ b ∧ b ≤ 3 * r + 1) → ((w9_2 73 41) = h 73 41) → (∀ j : Int, FS r ≤ j → j < b → (w9_2 87) j = h 86 j ∧ (w9_2 86) j = pas (h 83 j) * i / n) → (∀ j : Int, j < FS r ∨ b ≤ j → (w9_2 86) j = h 86 j) → ((w9_2 88) = h 88) → ((w9_2 100) = h 100) → (sm = anS ((h 83, h 92, h 80, h 81, fun c i => h 89 (h 90 c + i)) : DT_) n i (FS r) (b - FS r).toNat) → (3 * r + 1 - b).toNat < k2 → TT K ly 0 0 9 [(0, vR 73), (1, vI r), (2, vI i), (3, vI n), (4, vI sm), (5, vI b)] [] w9_2 := by
    intro k2
    induction k2 with
    | zero => intro sm b w9_2 hT9_2 hF9_2 hsm hb k41 hhd hru k88 k100 hA hk2; exact absurd hk2 (Nat.not_lt_zero _)
    | succ k2 ih2 =>
      intro sm b w9_2 hT9_2 hF9_2 hsm hb k41 hhd hru k88 k100 hA hk2
      refine TT_iload hK 5 rfl dX12_putPacket_9 ?_
      refine TT_iconst hK dX12_putPacket_11 ?_
      refine TT_iload_n hK rfl 1 rfl dX12_putPacket_12 ?_
      refine TT_imul hK dX12_putPacket_13 ?_
      refine TT_icmp_gt hK (tgt := 83) (irm (by omega) (by omega)) (irm (by omega) (by omega)) dX12_putPacket_14 (by decide) (fun hb14_3 => ?_) (fun hb14_3 => ?_)
      · have J111_4 : ∀ (w111_4 : Hp_), TY w111_4 → FRM [73, 86, 87, 88, 100] [41, 42, 43] h w111_4 → (8 * (w111_4 73 42) + (w111_4 73 43) ≤ 8 * h 73 41 + 1) → ((w111_4 73 41) = h 73 41) → (∀ j : Int, FS r ≤ j → j < 3 * r + 1 → (w111_4 87) j = h 86 j ∧ (w111_4 86) j = pas (h 83 j) * i / n) → (∀ j : Int, j < FS r ∨ 3 * r + 1 ≤ j → (w111_4 86) j = h 86 j) → (TKQ (w111_4 86) (h 83) i n (h 73 18)) → ((w111_4 88) = h 88) → (RBR (w111_4 73 42) (w111_4 73 43) (w111_4 100) (putS sm 1 s)) → (sm = anS ((h 83, h 92, h 80, h 81, fun c i => h 89 (h 90 c + i)) : DT_) n i (FS r) (3 * r + 1 - FS r).toNat) → TT K ly 0 0 111 [(0, vR 73), (1, vI r), (2, vI i), (3, vI n), (4, vI sm)] [] w111_4 := by
          intro w111_4 hT111_4 hF111_4 hB1 k41 hhd hru htq k88 hR1 hA1
          refine TT_iload_n hK rfl 1 rfl dX12_putPacket_111 ?_
          refine iv_X12_326 hK (s_X12_firstOf r w111_4 hT111_4 (by first | omega | (simp [up, setR] <;> omega))) ⟨by decide, by decide⟩ (by decide) rfl rfl (Nat.le_of_ble_eq_true rfl) ⟨by decide, by decide⟩ dX12_putPacket_112 ?_
          intro r9 g112_5 hp9
          obtain ⟨⟨hT_5, hG_5⟩, z112_5, hr9, hz_5, p1_5⟩ := hp9
          rw [hr9]
          have hF_5 : FRM [73, 86, 87, 88, 100] [41, 42, 43] h g112_5 := FRM_tr hF111_4 hG_5 (by decide) (by decide)
          have p1_at112 := p1_5
          show TT K ly 0 0 115 [(0, vR 73), (1, vI r), (2, vI i), (3, vI n), (4, vI sm)] [vI z112_5] g112_5
          refine TT_istore hK (lv' := [(5, vI z112_5), (0, vR 73), (1, vI r), (2, vI i), (3, vI n), (4, vI sm)]) (by decide) rfl dX12_putPacket_115 ?_
          have L117_6 : ∀ (k6 : Nat) (b : Int) (w117_6 : Hp_), TY w117_6 → FRM [73, 86, 87, 88, 100] [41, 42, 43] h w117_6 → (FS r ≤ b ∧ b ≤ 3 * r + 1) → (8 * (w117_6 73 42) + (w117_6 73 43) ≤ 8 * h 73 41 + 1 + 47 * (b - FS r)) → ((w117_6 73 41) = h 73 41) → (∀ j : Int, FS r ≤ j → j < 3 * r + 1 → (w117_6 87) j = h 86 j ∧ (w117_6 86) j = pas (h 83 j) * i / n) → (∀ j : Int, j < FS r ∨ 3 * r + 1 ≤ j → (w117_6 86) j = h 86 j) → (TKQ (w117_6 86) (h 83) i n (h 73 18)) → (sm = 0 → b = FS r) → (RBR (w117_6 73 42) (w117_6 73 43) (w117_6 100) (hdsS ((h 83, h 92, h 80, h 81, fun c i => h 89 (h 90 c + i)) : DT_) n i (FS r) (b - FS r).toNat (putS sm 1 s, W)).1) → (PKW (h 73 18) (w117_6 88) (hdsS ((h 83, h 92, h 80, h 81, fun c i => h 89 (h 90 c + i)) : DT_) n i (FS r) (b - FS r).toNat (putS sm 1 s, W))) → (3 * r + 1 - b).toNat < k6 → TT K ly 0 0 117 [(0, vR 73), (1, vI r), (2, vI i), (3, vI n), (4, vI sm), (5, vI b)] [] w117_6 := by
            intro k6
            induction k6 with
            | zero => intro b w117_6 hT117_6 hF117_6 hb hB2 k41 hhd hru htq hb1 hR2 hP2 hk6; exact absurd hk6 (Nat.not_lt_zero _)
            | succ k6 ih6 =>
              intro b w117_6 hT117_6 hF117_6 hb hB2 k41 hhd hru htq hb1 hR2 hP2 hk6
              have J160_7 : (8 * (w117_6 73 42) + (w117_6 73 43) ≤ 8 * h 73 41 + 142) → (RBR (w117_6 73 42) (w117_6 73 43) (w117_6 100) (heS ((h 83, h 92, h 80, h 81, fun c i => h 89 (h 90 c + i)) : DT_) n i r (s, W)).1) → (PKW (h 73 18) (w117_6 88) (heS ((h 83, h 92, h 80, h 81, fun c i => h 89 (h 90 c + i)) : DT_) n i r (s, W))) → TT K ly 0 0 160 [(0, vR 73), (1, vI r), (2, vI i), (3, vI n), (4, vI sm)] [] w117_6 := by
                intro hB3 hR3 hP3
                have J181_8 : ∀ (ln : Int), (0 ≤ ln ∧ ln ≤ h 73 41 + 18) → (ln = (endB (heS ((h 83, h 92, h 80, h 81, fun c i => h 89 (h 90 c + i)) : DT_) n i r (s, W)).1).1) → TT K ly 0 0 181 [(0, vR 73), (1, vI r), (2, vI i), (3, vI n), (4, vI sm)] [vI ln, vR 73] w117_6 := by
                  intro ln hln0 hln9
                  refine pf_X12_329 hK (by decide) rfl dX12_putPacket_181 ?_
                  refine TT_hp (h' := setO w117_6 73 (fup (w117_6 73) 41 ln)) (up_can rfl rfl rfl) ?_
                  have hT_9 : TY (setO w117_6 73 (fup (w117_6 73) 41 ln)) := tu_73_41 hT117_6 (show up w117_6 73 41 ln = (setO w117_6 73 (fup (w117_6 73) 41 ln)) from up_can rfl rfl rfl) (by omega)
                  have hF_9 : FRM [73, 86, 87, 88, 100] [41, 42, 43] h (setO w117_6 73 (fup (w117_6 73) 41 ln)) := FRM_f (show up w117_6 73 41 ln = (setO w117_6 73 (fup (w117_6 73) 41 ln)) from up_can rfl rfl rfl) hF117_6 (by decide) (by decide)
                  refine TT_iload_n hK rfl 1 rfl dX12_putPacket_184 ?_
                  refine iv_X12_326 hK (s_X12_firstOf r (setO w117_6 73 (fup (w117_6 73) 41 ln)) hT_9 (by first | omega | (simp [up, setR] <;> omega))) ⟨by decide, by decide⟩ (by decide) rfl rfl (Nat.le_of_ble_eq_true rfl) ⟨by decide, by decide⟩ dX12_putPacket_185 ?_
                  intro r9 g185_10 hp9
                  obtain ⟨⟨hT_10, hG_10⟩, z185_10, hr9, hz_10, p1_10⟩ := hp9
                  rw [hr9]
                  have hF_10 : FRM [73, 86, 87, 88, 100] [41, 42, 43] h g185_10 := FRM_tr hF_9 hG_10 (by decide) (by decide)
                  have p1_at185 := p1_10
                  show TT K ly 0 0 188 [(0, vR 73), (1, vI r), (2, vI i), (3, vI n), (4, vI sm)] [vI z185_10] g185_10
                  refine TT_istore hK (lv' := [(5, vI z185_10), (0, vR 73), (1, vI r), (2, vI i), (3, vI n), (4, vI sm)]) (by decide) rfl dX12_putPacket_188 ?_
                  have L190_11 : ∀ (k11 : Nat) (b : Int) (w190_11 : Hp_), TY w190_11 → FRM [73, 86, 87, 88, 100] [41, 42, 43] h w190_11 → (FS r ≤ b ∧ b ≤ 3 * r + 1) → ((w190_11 73 41) ≤ h 73 41 + 18 + IS (GT (h 92) (w190_11 86)) b - IS (GT (h 92) (h 86)) b) → (∀ j : Int, FS r ≤ j → j < 3 * r + 1 → (w190_11 87) j = h 86 j ∧ (w190_11 86) j = pas (h 83 j) * i / n) → (∀ j : Int, j < FS r ∨ 3 * r + 1 ≤ j → (w190_11 86) j = h 86 j) → (TKQ (w190_11 86) (h 83) i n (h 73 18)) → (PKW (h 73 18) (w190_11 88) (heS ((h 83, h 92, h 80, h 81, fun c i => h 89 (h 90 c + i)) : DT_) n i r (s, W))) → (RBR (w190_11 73 41) 0 (w190_11 100) (wdsS ((h 83, h 92, h 80, h 81, fun c i => h 89 (h 90 c + i)) : DT_) n i (FS r) (b - FS r).toNat (endB (heS ((h 83, h 92, h 80, h 81, fun c i => h 89 (h 90 c + i)) : DT_) n i r (s, W)).1))) → (3 * r + 1 - b).toNat < k11 → TT K ly 0 0 190 [(0, vR 73), (1, vI r), (2, vI i), (3, vI n), (4, vI sm), (5, vI b)] [] w190_11 := by
                    intro k11
                    induction k11 with
                    | zero => intro b w190_11 hT190_11 hF190_11 hb hln hhd hru htq hP4 hR4 hk11; exact absurd hk11 (Nat.not_lt_zero _)
                    | succ k11 ih11 =>
                      intro b w190_11 hT190_11 hF190_11 hb hln hhd hru htq hP4 hR4 hk11
                      refine TT_iload hK 5 rfl dX12_putPacket_190 ?_
                      refine TT_iconst hK dX12_putPacket_192 ?_
                      refine TT_iload_n hK rfl 1 rfl dX12_putPacket_193 ?_
                      refine TT_imul hK dX12_putPacket_194 ?_
                      refine TT_icmp_gt hK (tgt := 287) (irm (by omega) (by omega)) (irm (by omega) (by omega)) dX12_putPacket_195 (by decide) (fun hb195_12 => ?_) (fun hb195_12 => ?_)
                      · have M9 : pkS ((h 83, h 92, h 80, h 81, fun c i => h 89 (h 90 c + i)) : DT_) n i r (s, W) = ((wdsS ((h 83, h 92, h 80, h 81, fun c i => h 89 (h 90 c + i)) : DT_) n i (FS r) (b - FS r).toNat (endB (heS ((h 83, h 92, h 80, h 81, fun c i => h 89 (h 90 c + i)) : DT_) n i r (s, W)).1)), (heS ((h 83, h 92, h 80, h 81, fun c i => h 89 (h 90 c + i)) : DT_) n i r (s, W)).2) := by
                            unfold pkS
                            rw [show 3 * r + 1 = b by omega]
                        refine TT_vret hK hQ ?_ dX12_putPacket_287
                        have e13_73_41 : w190_11 73 41 = (w190_11 73) 41 := rfl
                        have e14_73_41 : w190_11 73 41 = (w190_11 73) 41 := rfl
                        exact ⟨⟨hT190_11, hF190_11⟩, rfl, (by rewrite [e13_73_41]; have ia := IS_ag (f := GT (h 92) (w190_11 86)) (g := GT (h 92) (h 86)) (a := 3 * r + 1) (c := h 73 18) (by omega) (by omega) (fun k h1 h2 => congrArg (fun z => h 92 (35 * k + z)) (hru k (Or.inr h1))); rw [show b = 3 * r + 1 by omega] at hln; omega), (by exact htq), (by rewrite [e14_73_41]; rw [M9]; exact ⟨hR4, wdsS_u _ (endB_u hP4.1)⟩), (by rw [M9]; exact ⟨PBQ_u (wdsS_u _ (endB_u hP4.1)), hP4.2⟩), (by exact ⟨fun j j0 j1 => (hhd j j0 j1).2, hru⟩)⟩
                      · have gb := ISM (g0 := GT (h 92) (h 86)) (g1 := GT (h 92) (w190_11 86)) (ws := h 91) (b := b + 1) (c := h 73 18) (by omega) (GTw hT hlq htk0 hc) (fun j h1 h2 => GTw hT190_11 hlq htq hc j h1 (by omega))
                        have g1s : IS (GT (h 92) (w190_11 86)) (b + 1) = IS (GT (h 92) (w190_11 86)) b + h 92 (35 * b + (w190_11 86) b) := IS_s (by omega)
                        have g0s : IS (GT (h 92) (h 86)) (b + 1) = IS (GT (h 92) (h 86)) b + h 92 (35 * b + h 86 b) := IS_s (by omega)
                        have hh := hhd b (by omega) (by omega)
                        have tq9 := htq b (by omega) (by omega)
                        have tq8 := htk0 b (by omega) (by omega)
                        have r86 := ty_86 (i := b) (v := (w190_11 86) b) hT190_11 rfl (by omega) (by omega)
                        have q86 := ty_86 (i := b) (v := h 86 b) hT rfl (by omega) (by omega)
                        have mo := hlq b (by omega) (by omega) (h 86 b) ((w190_11 86) b) (by omega) (by omega) (by omega) (by omega)
                        have mi := hmi b (by omega) (by omega)
                        have e87 : h 92 (35 * b + (w190_11 87) b) = h 92 (35 * b + h 86 b) := by rw [hh.1]
                        have h87b : (w190_11 87) b = tkF ((h 83, h 92, h 80, h 81, fun c i => h 89 (h 90 c + i)) : DT_) n (i - 1) b := (hhd b (by omega) (by omega)).1.trans (htk b (by omega) (by omega))
                        have h86b : (w190_11 86) b = tkF ((h 83, h 92, h 80, h 81, fun c i => h 89 (h 90 c + i)) : DT_) n i b := (hhd b (by omega) (by omega)).2
                        have tkb := tk9 b (by omega) (by omega)
                        have szb := sz0 b (by omega) (by omega)
                        have lo9 : loF ((h 83, h 92, h 80, h 81, fun c i => h 89 (h 90 c + i)) : DT_) n i b = h 92 (35 * b + (w190_11 87) b) := by
                            rw [h87b]; rfl
                        have hi9 : loF ((h 83, h 92, h 80, h 81, fun c i => h 89 (h 90 c + i)) : DT_) n i b + szF ((h 83, h 92, h 80, h 81, fun c i => h 89 (h 90 c + i)) : DT_) n i b = h 92 (35 * b + (w190_11 86) b) := by
                            rw [h86b]
                            exact loF_sz
                        refine TT_aload_n hK rfl 0 rfl dX12_putPacket_198 ?_
                        refine gf_X12_72 hK (by decide) rfl (q := 92) rfl rfl dX12_putPacket_199 ?_
                        refine TT_bipush hK (by decide) dX12_putPacket_202 ?_
                        refine TT_iload hK 5 rfl dX12_putPacket_204 ?_
                        refine TT_imul hK dX12_putPacket_206 ?_
                        refine TT_aload_n hK rfl 0 rfl dX12_putPacket_207 ?_
                        refine gf_X12_57 hK (by decide) rfl (q := 87) rfl rfl dX12_putPacket_208 ?_
                        refine TT_iload hK 5 rfl dX12_putPacket_211 ?_
                        refine TT_iald hK (o := 87) (n := 20) (by decide) rfl (by first | omega | (simp [up, setR] <;> omega)) (by first | omega | (simp [up, setR] <;> omega)) (v := (w190_11 87) b) rfl dX12_putPacket_213 ?_
                        have r15 := ty_87 (i := b) (v := (w190_11 87) b) hT190_11 rfl (by omega) (by omega)
                        refine TT_iadd hK dX12_putPacket_214 ?_
                        refine TT_iald hK (o := 92) (n := 350) (by decide) rfl (by first | omega | (simp [up, setR] <;> omega)) (by first | omega | (simp [up, setR] <;> omega)) (v := (h 92) ((35 * b) + ((w190_11 87) b))) (rd_ (hF190_11.1 92 (by decide)) rfl) dX12_putPacket_215 ?_
                        have r16 := ty_92 (i := (35 * b) + ((w190_11 87) b)) (v := (h 92) ((35 * b) + ((w190_11 87) b))) hT190_11 (rd_ (hF190_11.1 92 (by decide)) rfl) (by omega) (by omega)
                        refine TT_istore hK (lv' := [(6, vI ((h 92) ((35 * b) + ((w190_11 87) b)))), (0, vR 73), (1, vI r), (2, vI i), (3, vI n), (4, vI sm), (5, vI b)]) (by decide) rfl dX12_putPacket_216 ?_
                        have L218_17 : ∀ (k17 : Nat) (k : Int) (w218_17 : Hp_), TY w218_17 → FRM [73, 86, 87, 88, 100] [41, 42, 43] h w218_17 → (h 92 (35 * b + (w218_17 87) b) ≤ k ∧ k ≤ h 92 (35 * b + (w218_17 86) b)) → ((w218_17 73 41) ≤ h 73 41 + 18 + IS (GT (h 92) (w218_17 86)) b - IS (GT (h 92) (h 86)) b + (k - h 92 (35 * b + (w218_17 87) b))) → (∀ j : Int, FS r ≤ j → j < 3 * r + 1 → (w218_17 87) j = h 86 j ∧ (w218_17 86) j = pas (h 83 j) * i / n) → (∀ j : Int, j < FS r ∨ 3 * r + 1 ≤ j → (w218_17 86) j = h 86 j) → (TKQ (w218_17 86) (h 83) i n (h 73 18)) → (PKW (h 73 18) (w218_17 88) (heS ((h 83, h 92, h 80, h 81, fun c i => h 89 (h 90 c + i)) : DT_) n i r (s, W))) → (RBR (w218_17 73 41) 0 (w218_17 100) (wrS (fun q => h 89 (h 90 b + q)) (loF ((h 83, h 92, h 80, h 81, fun c i => h 89 (h 90 c + i)) : DT_) n i b) (k - loF ((h 83, h 92, h 80, h 81, fun c i => h 89 (h 90 c + i)) : DT_) n i b).toNat (wdsS ((h 83, h 92, h 80, h 81, fun c i => h 89 (h 90 c + i)) : DT_) n i (FS r) (b - FS r).toNat (endB (heS ((h 83, h 92, h 80, h 81, fun c i => h 89 (h 90 c + i)) : DT_) n i r (s, W)).1)))) → ((4400 : Int) - k).toNat < k17 → TT K ly 0 0 218 [(0, vR 73), (1, vI r), (2, vI i), (3, vI n), (4, vI sm), (5, vI b), (6, vI k)] [] w218_17 := by
                          intro k17
                          induction k17 with
                          | zero => intro k w218_17 hT218_17 hF218_17 hk hln2 hhd hru htq hP4 hR5 hk17; exact absurd hk17 (Nat.not_lt_zero _)
                          | succ k17 ih17 =>
                            intro k w218_17 hT218_17 hF218_17 hk hln2 hhd hru htq hP4 hR5 hk17
                            have gb := ISM (g0 := GT (h 92) (h 86)) (g1 := GT (h 92) (w218_17 86)) (ws := h 91) (b := b + 1) (c := h 73 18) (by omega) (GTw hT hlq htk0 hc) (fun j h1 h2 => GTw hT218_17 hlq htq hc j h1 (by omega))
                            have g1s : IS (GT (h 92) (w218_17 86)) (b + 1) = IS (GT (h 92) (w218_17 86)) b + h 92 (35 * b + (w218_17 86) b) := IS_s (by omega)
                            have g0s : IS (GT (h 92) (h 86)) (b + 1) = IS (GT (h 92) (h 86)) b + h 92 (35 * b + h 86 b) := IS_s (by omega)
                            have hh := hhd b (by omega) (by omega)
                            have tq9 := htq b (by omega) (by omega)
                            have tq8 := htk0 b (by omega) (by omega)
                            have r86 := ty_86 (i := b) (v := (w218_17 86) b) hT218_17 rfl (by omega) (by omega)
                            have q86 := ty_86 (i := b) (v := h 86 b) hT rfl (by omega) (by omega)
                            have mo := hlq b (by omega) (by omega) (h 86 b) ((w218_17 86) b) (by omega) (by omega) (by omega) (by omega)
                            have mi := hmi b (by omega) (by omega)
                            have e87 : h 92 (35 * b + (w218_17 87) b) = h 92 (35 * b + h 86 b) := by rw [hh.1]
                            have h87b : (w218_17 87) b = tkF ((h 83, h 92, h 80, h 81, fun c i => h 89 (h 90 c + i)) : DT_) n (i - 1) b := (hhd b (by omega) (by omega)).1.trans (htk b (by omega) (by omega))
                            have h86b : (w218_17 86) b = tkF ((h 83, h 92, h 80, h 81, fun c i => h 89 (h 90 c + i)) : DT_) n i b := (hhd b (by omega) (by omega)).2
                            have tkb := tk9 b (by omega) (by omega)
                            have szb := sz0 b (by omega) (by omega)
                            have lo9 : loF ((h 83, h 92, h 80, h 81, fun c i => h 89 (h 90 c + i)) : DT_) n i b = h 92 (35 * b + (w218_17 87) b) := by
                                rw [h87b]; rfl
                            have hi9 : loF ((h 83, h 92, h 80, h 81, fun c i => h 89 (h 90 c + i)) : DT_) n i b + szF ((h 83, h 92, h 80, h 81, fun c i => h 89 (h 90 c + i)) : DT_) n i b = h 92 (35 * b + (w218_17 86) b) := by
                                rw [h86b]
                                exact loF_sz
                            refine TT_iload hK 6 rfl dX12_putPacket_218 ?_
                            refine TT_aload_n hK rfl 0 rfl dX12_putPacket_220 ?_
                            refine gf_X12_72 hK (by decide) rfl (q := 92) rfl rfl dX12_putPacket_221 ?_
                            refine TT_bipush hK (by decide) dX12_putPacket_224 ?_
                            refine TT_iload hK 5 rfl dX12_putPacket_226 ?_
                            refine TT_imul hK dX12_putPacket_228 ?_
                            refine TT_aload_n hK rfl 0 rfl dX12_putPacket_229 ?_
                            refine gf_X12_54 hK (by decide) rfl (q := 86) rfl rfl dX12_putPacket_230 ?_
                            refine TT_iload hK 5 rfl dX12_putPacket_233 ?_
                            refine TT_iald hK (o := 86) (n := 20) (by decide) rfl (by first | omega | (simp [up, setR] <;> omega)) (by first | omega | (simp [up, setR] <;> omega)) (v := (w218_17 86) b) rfl dX12_putPacket_235 ?_
                            have r18 := ty_86 (i := b) (v := (w218_17 86) b) hT218_17 rfl (by omega) (by omega)
                            refine TT_iadd hK dX12_putPacket_236 ?_
                            refine TT_iald hK (o := 92) (n := 350) (by decide) rfl (by first | omega | (simp [up, setR] <;> omega)) (by first | omega | (simp [up, setR] <;> omega)) (v := (h 92) ((35 * b) + ((w218_17 86) b))) (rd_ (hF218_17.1 92 (by decide)) rfl) dX12_putPacket_237 ?_
                            have r19 := ty_92 (i := (35 * b) + ((w218_17 86) b)) (v := (h 92) ((35 * b) + ((w218_17 86) b))) hT218_17 (rd_ (hF218_17.1 92 (by decide)) rfl) (by omega) (by omega)
                            refine TT_icmp_ge hK (tgt := 281) (irm (by omega) (by omega)) (irm (by omega) (by omega)) dX12_putPacket_238 (by decide) (fun hb238_20 => ?_) (fun hb238_20 => ?_)
                            · refine TT_iinc hK (v := b + 1) (lv' := [(5, vI (b + 1)), (0, vR 73), (1, vI r), (2, vI i), (3, vI n), (4, vI sm), (6, vI k)]) 5 rfl rfl (by decide) rfl dX12_putPacket_281 ?_
                              refine TT_goto hK (tgt := 190) dX12_putPacket_284 (by decide) ?_
                              refine TT_sub [1, 2, 3, 4, 5, 0] rfl ?_
                              have e21_73_41 : w218_17 73 41 = (w218_17 73) 41 := rfl
                              have e22_73_41 : w218_17 73 41 = (w218_17 73) 41 := rfl
                              exact ih11 (b + 1) w218_17 hT218_17 hF218_17 (by first | omega | (simp [up, setR] <;> omega)) (by rewrite [e21_73_41]; omega) (by exact hhd) (by exact hru) (by exact htq) (by exact hP4) (by rewrite [e22_73_41]; rw [wdsS_s (by omega)]; rw [show (k - loF ((h 83, h 92, h 80, h 81, fun c i => h 89 (h 90 c + i)) : DT_) n i b).toNat = (szF ((h 83, h 92, h 80, h 81, fun c i => h 89 (h 90 c + i)) : DT_) n i b).toNat by omega] at hR5; exact hR5) (by first | omega | (simp [up, setR] <;> omega))
                            · refine TT_aload_n hK rfl 0 rfl dX12_putPacket_241 ?_
                              refine gf_X12_96 hK (by decide) rfl (q := 100) rfl rfl dX12_putPacket_242 ?_
                              refine TT_aload_n hK rfl 0 rfl dX12_putPacket_245 ?_
                              refine gf_X12_329 hK (by decide) rfl (v := (w218_17 73) 41) rfl dX12_putPacket_246 ?_
                              have r23 := ty_73_41 (v := (w218_17 73) 41) hT218_17 rfl
                              refine TT_aload_n hK rfl 0 rfl dX12_putPacket_249 ?_
                              refine gf_X12_63 hK (by decide) rfl (q := 89) rfl rfl dX12_putPacket_250 ?_
                              refine TT_aload_n hK rfl 0 rfl dX12_putPacket_253 ?_
                              refine gf_X12_66 hK (by decide) rfl (q := 90) rfl rfl dX12_putPacket_254 ?_
                              refine TT_iload hK 5 rfl dX12_putPacket_257 ?_
                              refine TT_iald hK (o := 90) (n := 10) (by decide) rfl (by first | omega | (simp [up, setR] <;> omega)) (by first | omega | (simp [up, setR] <;> omega)) (v := (h 90) b) (rd_ (hF218_17.1 90 (by decide)) rfl) dX12_putPacket_259 ?_
                              have r24 := ty_90 (i := b) (v := (h 90) b) hT218_17 (rd_ (hF218_17.1 90 (by decide)) rfl) (by omega) (by omega)
                              refine TT_iload hK 6 rfl dX12_putPacket_260 ?_
                              refine TT_iadd hK dX12_putPacket_262 ?_
                              refine TT_iald hK (o := 89) (n := 4400) (by decide) rfl (by first | omega | (simp [up, setR] <;> omega)) (by first | omega | (simp [up, setR] <;> omega)) (v := (h 89) (((h 90) b) + k)) (rd_ (hF218_17.1 89 (by decide)) rfl) dX12_putPacket_263 ?_
                              have r25 := ty_89 (i := ((h 90) b) + k) (v := (h 89) (((h 90) b) + k)) hT218_17 (rd_ (hF218_17.1 89 (by decide)) rfl) (by omega) (by omega)
                              refine TT_iast hK (o := 100) (n := 4700) (by decide) rfl (by omega) (by omega) dX12_putPacket_264 ?_
                              refine TT_hp (h' := setO w218_17 100 (fup (w218_17 100) ((w218_17 73) 41) ((h 89) (((h 90) b) + k)))) (up_can rfl rfl rfl) ?_
                              have hT_26 : TY (setO w218_17 100 (fup (w218_17 100) ((w218_17 73) 41) ((h 89) (((h 90) b) + k)))) := tu_100 hT218_17 (show up w218_17 100 ((w218_17 73) 41) ((h 89) (((h 90) b) + k)) = (setO w218_17 100 (fup (w218_17 100) ((w218_17 73) 41) ((h 89) (((h 90) b) + k)))) from up_can rfl rfl rfl) (by omega)
                              have hF_26 : FRM [73, 86, 87, 88, 100] [41, 42, 43] h (setO w218_17 100 (fup (w218_17 100) ((w218_17 73) 41) ((h 89) (((h 90) b) + k)))) := FRM_up (show up w218_17 100 ((w218_17 73) 41) ((h 89) (((h 90) b) + k)) = (setO w218_17 100 (fup (w218_17 100) ((w218_17 73) 41) ((h 89) (((h 90) b) + k)))) from up_can rfl rfl rfl) hF218_17 (by decide) (by decide)
                              refine TT_aload_n hK rfl 0 rfl dX12_putPacket_265 ?_
                              refine TT_dup hK rfl dX12_putPacket_266 ?_
                              refine gf_X12_329 hK (by decide) rfl (v := (w218_17 73) 41) (rd_ (sOf_ne _ _ (by decide)) rfl) dX12_putPacket_267 ?_
                              refine TT_iconst hK dX12_putPacket_270 ?_
                              refine TT_iadd hK dX12_putPacket_271 ?_
                              refine pf_X12_329 hK (by decide) rfl dX12_putPacket_272 ?_
                              refine TT_hp (h' := setO (setO w218_17 73 (fup (w218_17 73) 41 (((w218_17 73) 41) + 1))) 100 (fup (w218_17 100) ((w218_17 73) 41) ((h 89) (((h 90) b) + k)))) (up_can (sOf_ne _ _ (by decide)) rfl ((setO_comm _ _ _ (by decide)).trans (setO_cg rfl rfl))) ?_
                              have hT_27 : TY (setO (setO w218_17 73 (fup (w218_17 73) 41 (((w218_17 73) 41) + 1))) 100 (fup (w218_17 100) ((w218_17 73) 41) ((h 89) (((h 90) b) + k)))) := tu_73_41 hT_26 (show up (setO w218_17 100 (fup (w218_17 100) ((w218_17 73) 41) ((h 89) (((h 90) b) + k)))) 73 41 (((w218_17 73) 41) + 1) = (setO (setO w218_17 73 (fup (w218_17 73) 41 (((w218_17 73) 41) + 1))) 100 (fup (w218_17 100) ((w218_17 73) 41) ((h 89) (((h 90) b) + k)))) from up_can (sOf_ne _ _ (by decide)) rfl ((setO_comm _ _ _ (by decide)).trans (setO_cg rfl rfl))) (by omega)
                              have hF_27 : FRM [73, 86, 87, 88, 100] [41, 42, 43] h (setO (setO w218_17 73 (fup (w218_17 73) 41 (((w218_17 73) 41) + 1))) 100 (fup (w218_17 100) ((w218_17 73) 41) ((h 89) (((h 90) b) + k)))) := FRM_f (show up (setO w218_17 100 (fup (w218_17 100) ((w218_17 73) 41) ((h 89) (((h 90) b) + k)))) 73 41 (((w218_17 73) 41) + 1) = (setO (setO w218_17 73 (fup (w218_17 73) 41 (((w218_17 73) 41) + 1))) 100 (fup (w218_17 100) ((w218_17 73) 41) ((h 89) (((h 90) b) + k)))) from up_can (sOf_ne _ _ (by decide)) rfl ((setO_comm _ _ _ (by decide)).trans (setO_cg rfl rfl))) hF_26 (by decide) (by decide)
                              refine TT_iinc hK (v := k + 1) (lv' := [(6, vI (k + 1)), (0, vR 73), (1, vI r), (2, vI i), (3, vI n), (4, vI sm), (5, vI b)]) 6 rfl rfl (by decide) rfl dX12_putPacket_275 ?_
                              refine TT_goto hK (tgt := 218) dX12_putPacket_278 (by decide) ?_
                              refine TT_sub [1, 2, 3, 4, 5, 6, 0] rfl ?_
                              have e28_86 : (setO (setO w218_17 73 (fup (w218_17 73) 41 (((w218_17 73) 41) + 1))) 100 (fup (w218_17 100) ((w218_17 73) 41) ((h 89) (((h 90) b) + k)))) 86 = w218_17 86 := (sOf_ne _ _ (by decide)).trans (sOf_ne _ _ (by decide))
                              have e29_87 : (setO (setO w218_17 73 (fup (w218_17 73) 41 (((w218_17 73) 41) + 1))) 100 (fup (w218_17 100) ((w218_17 73) 41) ((h 89) (((h 90) b) + k)))) 87 = w218_17 87 := (sOf_ne _ _ (by decide)).trans (sOf_ne _ _ (by decide))
                              have e30_73_41 : (setO (setO w218_17 73 (fup (w218_17 73) 41 (((w218_17 73) 41) + 1))) 100 (fup (w218_17 100) ((w218_17 73) 41) ((h 89) (((h 90) b) + k)))) 73 41 = ((w218_17 73) 41) + 1 := rd_ ((sOf_ne _ _ (by decide)).trans (sOf_eq _ _ _)) (fup_eq _ _ _)
                              have e31_86 : (setO (setO w218_17 73 (fup (w218_17 73) 41 (((w218_17 73) 41) + 1))) 100 (fup (w218_17 100) ((w218_17 73) 41) ((h 89) (((h 90) b) + k)))) 86 = w218_17 86 := (sOf_ne _ _ (by decide)).trans (sOf_ne _ _ (by decide))
                              have e32_87 : (setO (setO w218_17 73 (fup (w218_17 73) 41 (((w218_17 73) 41) + 1))) 100 (fup (w218_17 100) ((w218_17 73) 41) ((h 89) (((h 90) b) + k)))) 87 = w218_17 87 := (sOf_ne _ _ (by decide)).trans (sOf_ne _ _ (by decide))
                              have e33_86 : (setO (setO w218_17 73 (fup (w218_17 73) 41 (((w218_17 73) 41) + 1))) 100 (fup (w218_17 100) ((w218_17 73) 41) ((h 89) (((h 90) b) + k)))) 86 = w218_17 86 := (sOf_ne _ _ (by decide)).trans (sOf_ne _ _ (by decide))
                              have e34_87 : (setO (setO w218_17 73 (fup (w218_17 73) 41 (((w218_17 73) 41) + 1))) 100 (fup (w218_17 100) ((w218_17 73) 41) ((h 89) (((h 90) b) + k)))) 87 = w218_17 87 := (sOf_ne _ _ (by decide)).trans (sOf_ne _ _ (by decide))
                              have e35_86 : (setO (setO w218_17 73 (fup (w218_17 73) 41 (((w218_17 73) 41) + 1))) 100 (fup (w218_17 100) ((w218_17 73) 41) ((h 89) (((h 90) b) + k)))) 86 = w218_17 86 := (sOf_ne _ _ (by decide)).trans (sOf_ne _ _ (by decide))
                              have e36_86 : (setO (setO w218_17 73 (fup (w218_17 73) 41 (((w218_17 73) 41) + 1))) 100 (fup (w218_17 100) ((w218_17 73) 41) ((h 89) (((h 90) b) + k)))) 86 = w218_17 86 := (sOf_ne _ _ (by decide)).trans (sOf_ne _ _ (by decide))
                              have e37_88 : (setO (setO w218_17 73 (fup (w218_17 73) 41 (((w218_17 73) 41) + 1))) 100 (fup (w218_17 100) ((w218_17 73) 41) ((h 89) (((h 90) b) + k)))) 88 = w218_17 88 := (sOf_ne _ _ (by decide)).trans (sOf_ne _ _ (by decide))
                              have e38_100 : (setO (setO w218_17 73 (fup (w218_17 73) 41 (((w218_17 73) 41) + 1))) 100 (fup (w218_17 100) ((w218_17 73) 41) ((h 89) (((h 90) b) + k)))) 100 = fup (w218_17 100) ((w218_17 73) 41) ((h 89) (((h 90) b) + k)) := sOf_eq _ _ _
                              have e39_73_41 : (setO (setO w218_17 73 (fup (w218_17 73) 41 (((w218_17 73) 41) + 1))) 100 (fup (w218_17 100) ((w218_17 73) 41) ((h 89) (((h 90) b) + k)))) 73 41 = ((w218_17 73) 41) + 1 := rd_ ((sOf_ne _ _ (by decide)).trans (sOf_eq _ _ _)) (fup_eq _ _ _)
                              exact ih17 (k + 1) (setO (setO w218_17 73 (fup (w218_17 73) 41 (((w218_17 73) 41) + 1))) 100 (fup (w218_17 100) ((w218_17 73) 41) ((h 89) (((h 90) b) + k)))) hT_27 hF_27 (by rewrite [e28_86, e29_87]; first | omega | (simp [up, setR] <;> omega)) (by rewrite [e30_73_41, e31_86, e32_87]; first | omega | (simp [up, setR] <;> omega)) (by rewrite [e33_86, e34_87]; exact hhd) (by rewrite [e35_86]; exact hru) (by rewrite [e36_86]; exact htq) (by rewrite [e37_88]; exact hP4) (by rewrite [e38_100, e39_73_41]; rw [show (k + 1 - loF ((h 83, h 92, h 80, h 81, fun c i => h 89 (h 90 c + i)) : DT_) n i b).toNat = (k - loF ((h 83, h 92, h 80, h 81, fun c i => h 89 (h 90 c + i)) : DT_) n i b).toNat + 1 by omega]; show RBR _ _ _ (adS (h 89 (h 90 b + (loF ((h 83, h 92, h 80, h 81, fun c i => h 89 (h 90 c + i)) : DT_) n i b + ((k - loF ((h 83, h 92, h 80, h 81, fun c i => h 89 (h 90 c + i)) : DT_) n i b).toNat : Int)))) (wrS (fun q => h 89 (h 90 b + q)) (loF ((h 83, h 92, h 80, h 81, fun c i => h 89 (h 90 c + i)) : DT_) n i b) (k - loF ((h 83, h 92, h 80, h 81, fun c i => h 89 (h 90 c + i)) : DT_) n i b).toNat (wdsS ((h 83, h 92, h 80, h 81, fun c i => h 89 (h 90 c + i)) : DT_) n i (FS r) (b - FS r).toNat (endB (heS ((h 83, h 92, h 80, h 81, fun c i => h 89 (h 90 c + i)) : DT_) n i r (s, W)).1)))); rw [show loF ((h 83, h 92, h 80, h 81, fun c i => h 89 (h 90 c + i)) : DT_) n i b + ((k - loF ((h 83, h 92, h 80, h 81, fun c i => h 89 (h 90 c + i)) : DT_) n i b).toNat : Int) = k by omega]; exact RBR_a hR5) (by first | omega | (simp [up, setR] <;> omega))
                        refine TT_sub [1, 2, 3, 4, 5, 6, 0] rfl ?_
                        have e40_73_41 : w190_11 73 41 = (w190_11 73) 41 := rfl
                        have e41_73_41 : w190_11 73 41 = (w190_11 73) 41 := rfl
                        exact L218_17 ((((4400 : Int) - ((h 92) ((35 * b) + ((w190_11 87) b)))).toNat) + 1) ((h 92) ((35 * b) + ((w190_11 87) b))) w190_11 hT190_11 hF190_11 (by first | omega | (simp [up, setR] <;> omega)) (by rewrite [e40_73_41]; first | omega | (simp [up, setR] <;> omega)) (by exact hhd) (by exact hru) (by exact htq) (by exact hP4) (by rewrite [e41_73_41]; rw [show ((h 92) ((35 * b) + ((w190_11 87) b)) - loF ((h 83, h 92, h 80, h 81, fun c i => h 89 (h 90 c + i)) : DT_) n i b).toNat = 0 by omega]; exact hR4) (Nat.lt_succ_self _)
                  refine TT_sub [1, 2, 3, 4, 5, 0] rfl ?_
                  have e42_73_41 : g185_10 73 41 = ln := (congrFun (hG_10.1 73 (by decide)) 41).trans (rd_ (sOf_eq _ _ _) (fup_eq _ _ _))
                  have e43_86 : g185_10 86 = w117_6 86 := ((hG_10.1 86 (by decide))).trans (sOf_ne _ _ (by decide))
                  have e44_86 : g185_10 86 = w117_6 86 := ((hG_10.1 86 (by decide))).trans (sOf_ne _ _ (by decide))
                  have e45_87 : g185_10 87 = w117_6 87 := ((hG_10.1 87 (by decide))).trans (sOf_ne _ _ (by decide))
                  have e46_86 : g185_10 86 = w117_6 86 := ((hG_10.1 86 (by decide))).trans (sOf_ne _ _ (by decide))
                  have e47_86 : g185_10 86 = w117_6 86 := ((hG_10.1 86 (by decide))).trans (sOf_ne _ _ (by decide))
                  have e48_88 : g185_10 88 = w117_6 88 := ((hG_10.1 88 (by decide))).trans (sOf_ne _ _ (by decide))
                  have e49_100 : g185_10 100 = w117_6 100 := ((hG_10.1 100 (by decide))).trans (sOf_ne _ _ (by decide))
                  have e50_73_41 : g185_10 73 41 = ln := (congrFun (hG_10.1 73 (by decide)) 41).trans (rd_ (sOf_eq _ _ _) (fup_eq _ _ _))
                  have fs3 := p1_at185
                  have ie := IS_eq (f := GT (h 92) (w117_6 86)) (g := GT (h 92) (h 86)) (c := FS r) (fun k h1 h2 => congrArg (fun z => h 92 (35 * k + z)) (hru k (Or.inl h2)))
                  exact L190_11 (((3 * r + 1 - z185_10).toNat) + 1) z185_10 g185_10 hT_10 hF_10 (by first | omega | (simp [up, setR] <;> omega)) (by rewrite [e42_73_41, e43_86]; rw [fs3]; omega) (by rewrite [e44_86, e45_87]; exact hhd) (by rewrite [e46_86]; exact hru) (by rewrite [e47_86]; exact htq) (by rewrite [e48_88]; exact hP3) (by rewrite [e49_100, e50_73_41]; rw [fs3, show FS r - FS r = 0 by omega, hln9]; exact RBR_e hR3) (Nat.lt_succ_self _)
                refine TT_aload_n hK rfl 0 rfl dX12_putPacket_160 ?_
                refine TT_aload_n hK rfl 0 rfl dX12_putPacket_161 ?_
                refine gf_X12_314 hK (by decide) rfl (v := (w117_6 73) 43) rfl dX12_putPacket_162 ?_
                have r51 := ty_73_43 (v := (w117_6 73) 43) hT117_6 rfl
                refine TT_if_le hK (tgt := 177) (irm (by omega) (by omega)) dX12_putPacket_165 (by decide) (fun hb165_52 => ?_) (fun hb165_52 => ?_)
                · refine TT_aload_n hK rfl 0 rfl dX12_putPacket_177 ?_
                  refine gf_X12_311 hK (by decide) rfl (v := (w117_6 73) 42) rfl dX12_putPacket_178 ?_
                  have r53 := ty_73_42 (v := (w117_6 73) 42) hT117_6 rfl
                  exact J181_8 ((w117_6 73) 42) (by first | omega | (simp [up, setR] <;> omega)) (by first | exact endB_p hR3 (by omega) | exact endB_q hR3 (by omega))
                · refine TT_aload_n hK rfl 0 rfl dX12_putPacket_168 ?_
                  refine gf_X12_311 hK (by decide) rfl (v := (w117_6 73) 42) rfl dX12_putPacket_169 ?_
                  have r54 := ty_73_42 (v := (w117_6 73) 42) hT117_6 rfl
                  refine TT_iconst hK dX12_putPacket_172 ?_
                  refine TT_iadd hK dX12_putPacket_173 ?_
                  refine TT_goto hK (tgt := 181) dX12_putPacket_174 (by decide) ?_
                  exact J181_8 (((w117_6 73) 42) + 1) (by first | omega | (simp [up, setR] <;> omega)) (by first | exact endB_p hR3 (by omega) | exact endB_q hR3 (by omega))
              refine TT_iload hK 5 rfl dX12_putPacket_117 ?_
              refine TT_iconst hK dX12_putPacket_119 ?_
              refine TT_iload_n hK rfl 1 rfl dX12_putPacket_120 ?_
              refine TT_imul hK dX12_putPacket_121 ?_
              refine TT_icmp_gt hK (tgt := 160) (irm (by omega) (by omega)) (irm (by omega) (by omega)) dX12_putPacket_122 (by decide) (fun hb122_55 => ?_) (fun hb122_55 => ?_)
              · have heq9 := PK_m (s := s) (W := W) (b := b) hA1 (by omega)
                refine TT_sub [0, 1, 2, 3, 4] rfl ?_
                have e56_73_42 : w117_6 73 42 = (w117_6 73) 42 := rfl
                have e57_73_43 : w117_6 73 43 = (w117_6 73) 43 := rfl
                have e58_73_42 : w117_6 73 42 = (w117_6 73) 42 := rfl
                have e59_73_43 : w117_6 73 43 = (w117_6 73) 43 := rfl
                exact J160_7  (by rewrite [e56_73_42, e57_73_43]; first | omega | (simp [up, setR] <;> omega)) (by rewrite [e58_73_42, e59_73_43]; rw [heq9]; exact hR2) (by rw [heq9]; exact hP2)
              · refine TT_iload hK 4 rfl dX12_putPacket_125 ?_
                refine TT_if_eq hK (tgt := 160) (irm (by omega) (by omega)) dX12_putPacket_127 (by decide) (fun hb127_60 => ?_) (fun hb127_60 => ?_)
                · have heq9 := PK_m (s := s) (W := W) (b := b) hA1 (by omega)
                  refine TT_sub [0, 1, 2, 3, 4] rfl ?_
                  have e61_73_42 : w117_6 73 42 = (w117_6 73) 42 := rfl
                  have e62_73_43 : w117_6 73 43 = (w117_6 73) 43 := rfl
                  have e63_73_42 : w117_6 73 42 = (w117_6 73) 42 := rfl
                  have e64_73_43 : w117_6 73 43 = (w117_6 73) 43 := rfl
                  exact J160_7  (by rewrite [e61_73_42, e62_73_43]; first | omega | (simp [up, setR] <;> omega)) (by rewrite [e63_73_42, e64_73_43]; rw [heq9]; exact hR2) (by rw [heq9]; exact hP2)
                · refine TT_aload_n hK rfl 0 rfl dX12_putPacket_130 ?_
                  refine gf_X12_35 hK (by decide) rfl (q := 80) rfl rfl dX12_putPacket_131 ?_
                  refine TT_iload hK 5 rfl dX12_putPacket_134 ?_
                  refine TT_iald hK (o := 80) (n := 20) (by decide) rfl (by first | omega | (simp [up, setR] <;> omega)) (by first | omega | (simp [up, setR] <;> omega)) (v := (h 80) b) (rd_ (hF117_6.1 80 (by decide)) rfl) dX12_putPacket_136 ?_
                  have r65 := ty_80 (i := b) (v := (h 80) b) hT117_6 (rd_ (hF117_6.1 80 (by decide)) rfl) (by omega) (by omega)
                  refine TT_aload_n hK rfl 0 rfl dX12_putPacket_137 ?_
                  refine gf_X12_38 hK (by decide) rfl (q := 81) rfl rfl dX12_putPacket_138 ?_
                  refine TT_iload hK 5 rfl dX12_putPacket_141 ?_
                  refine TT_iald hK (o := 81) (n := 20) (by decide) rfl (by first | omega | (simp [up, setR] <;> omega)) (by first | omega | (simp [up, setR] <;> omega)) (v := (h 81) b) (rd_ (hF117_6.1 81 (by decide)) rfl) dX12_putPacket_143 ?_
                  have r66 := ty_81 (i := b) (v := (h 81) b) hT117_6 (rd_ (hF117_6.1 81 (by decide)) rfl) (by omega) (by omega)
                  refine TT_imul hK dX12_putPacket_144 ?_
                  refine TT_nmI (fun p9 hp9 => ?_)
                  refine TT_if_le hK (tgt := 154) (irm (by have k9 := mul_z (ty_80 (i := b) (v := h 80 b) hT rfl (by omega) (by omega)) (ty_81 (i := b) (v := h 81 b) hT rfl (by omega) (by omega)) hp9; omega) (by have k9 := mul_z (ty_80 (i := b) (v := h 80 b) hT rfl (by omega) (by omega)) (ty_81 (i := b) (v := h 81 b) hT rfl (by omega) (by omega)) hp9; omega)) dX12_putPacket_145 (by decide) (fun hb145_67 => ?_) (fun hb145_67 => ?_)
                  · have k9 := mul_z (ty_80 (i := b) (v := h 80 b) hT rfl (by omega) (by omega)) (ty_81 (i := b) (v := h 81 b) hT rfl (by omega) (by omega)) hp9
                    have em9 := k9.2.1 (by omega)
                    
                    refine TT_iinc hK (v := b + 1) (lv' := [(5, vI (b + 1)), (0, vR 73), (1, vI r), (2, vI i), (3, vI n), (4, vI sm)]) 5 rfl rfl (by decide) rfl dX12_putPacket_154 ?_
                    refine TT_goto hK (tgt := 117) dX12_putPacket_157 (by decide) ?_
                    refine TT_sub [1, 2, 3, 4, 5, 0] rfl ?_
                    have e68_73_42 : w117_6 73 42 = (w117_6 73) 42 := rfl
                    have e69_73_43 : w117_6 73 43 = (w117_6 73) 43 := rfl
                    have e70_73_41 : w117_6 73 41 = (w117_6 73) 41 := rfl
                    have e71_73_42 : w117_6 73 42 = (w117_6 73) 42 := rfl
                    have e72_73_43 : w117_6 73 43 = (w117_6 73) 43 := rfl
                    exact ih6 (b + 1) w117_6 hT117_6 hF117_6 (by first | omega | (simp [up, setR] <;> omega)) (by rewrite [e68_73_42, e69_73_43]; first | omega | (simp [up, setR] <;> omega)) (by rewrite [e70_73_41]; first | omega | (simp [up, setR] <;> omega)) (by exact hhd) (by exact hru) (by exact htq) (by intro q; exfalso; omega) (by rewrite [e71_73_42, e72_73_43]; rw [hdsS_s (by omega), hd1S_e (D := ((h 83, h 92, h 80, h 81, fun c i => h 89 (h 90 c + i)) : DT_)) em9]; exact hR2) (by rw [hdsS_s (by omega), hd1S_e (D := ((h 83, h 92, h 80, h 81, fun c i => h 89 (h 90 c + i)) : DT_)) em9]; exact hP2) (by first | omega | (simp [up, setR] <;> omega))
                  · have k9 := mul_z (ty_80 (i := b) (v := h 80 b) hT rfl (by omega) (by omega)) (ty_81 (i := b) (v := h 81 b) hT rfl (by omega) (by omega)) hp9
                    have em9 := k9.2.2 (by omega)
                    have h87b : (w117_6 87) b = tkF ((h 83, h 92, h 80, h 81, fun c i => h 89 (h 90 c + i)) : DT_) n (i - 1) b := (hhd b (by omega) (by omega)).1.trans (htk b (by omega) (by omega))
                    have h86b : (w117_6 86) b = tkF ((h 83, h 92, h 80, h 81, fun c i => h 89 (h 90 c + i)) : DT_) n i b := (hhd b (by omega) (by omega)).2
                    have tkb := tk9 b (by omega) (by omega)
                    have szb := sz0 b (by omega) (by omega)
                    refine TT_aload_n hK rfl 0 rfl dX12_putPacket_148 ?_
                    refine TT_iload hK 5 rfl dX12_putPacket_149 ?_
                    have e73_73_42 : w117_6 73 42 = (w117_6 73) 42 := rfl
                    have e74_73_43 : w117_6 73 43 = (w117_6 73) 43 := rfl
                    have e75_73_42 : w117_6 73 42 = (w117_6 73) 42 := rfl
                    have e76_73_43 : w117_6 73 43 = (w117_6 73) 43 := rfl
                    have e77_92 : w117_6 92 = h 92 := (hF117_6.1 92 (by decide))
                    refine iv_X12_332 hK (s_putHead_e ((hdsS ((h 83, h 92, h 80, h 81, fun c i => h 89 (h 90 c + i)) : DT_) n i (FS r) (b - FS r).toNat (putS sm 1 s, W)).1) b w117_6 hT117_6 (by first | omega | (simp [up, setR] <;> omega)) (by rw [h86b, h87b]; omega) (by rewrite [e73_73_42, e74_73_43]; first | omega | (simp [up, setR] <;> omega)) (by rewrite [e75_73_42, e76_73_43]; exact hR2) (by exact hP2.1) (by rw [(hP2.2 b (by omega) (by omega)).1]; exact (hP2.2 b (by omega) (by omega)).2) (by rw [h87b]; omega) (by rewrite [e77_92]; rw [h86b, h87b]; exact szb.1)) (by decide) rfl ⟨by decide, by decide⟩ (by decide) rfl rfl (Nat.le_of_ble_eq_true rfl) ⟨by decide, by decide⟩ dX12_putPacket_151 ?_
                    intro r9 g151_78 hp9
                    obtain ⟨⟨hT_78, hG_78⟩, hr9, p1_78, hd_78, w1_78⟩ := hp9
                    rw [hr9]
                    have hF_78 : FRM [73, 86, 87, 88, 100] [41, 42, 43] h g151_78 := FRM_tr hF117_6 hG_78 (by decide) (by decide)
                    rw [show w117_6 73 42 = (w117_6 73) 42 from rfl] at p1_78
                    rw [show w117_6 73 43 = (w117_6 73) 43 from rfl] at p1_78
                    rw [show w117_6 83 = h 83 from (hF117_6.1 83 (by decide))] at hd_78
                    rw [show w117_6 92 = h 92 from (hF117_6.1 92 (by decide))] at hd_78
                    rw [show w117_6 92 = h 92 from (hF117_6.1 92 (by decide))] at w1_78
                    have hd_at151 := hd_78
                    have w1_at151 := w1_78
                    show TT K ly 0 0 154 [(0, vR 73), (1, vI r), (2, vI i), (3, vI n), (4, vI sm), (5, vI b)] [] g151_78
                    rw [h86b, h87b] at hd_at151 w1_at151
                    have pw9 := PKW_h (D := ((h 83, h 92, h 80, h 81, fun c i => h 89 (h 90 c + i)) : DT_)) em9 hP2 (by omega) szb.1 (by omega) rfl
                    refine TT_iinc hK (v := b + 1) (lv' := [(5, vI (b + 1)), (0, vR 73), (1, vI r), (2, vI i), (3, vI n), (4, vI sm)]) 5 rfl rfl (by decide) rfl dX12_putPacket_154 ?_
                    refine TT_goto hK (tgt := 117) dX12_putPacket_157 (by decide) ?_
                    refine TT_sub [1, 2, 3, 4, 5, 0] rfl ?_
                    have e79_73_42 : g151_78 73 42 = (g151_78 73) 42 := rfl
                    have e80_73_43 : g151_78 73 43 = (g151_78 73) 43 := rfl
                    have e81_73_41 : g151_78 73 41 = (w117_6 73) 41 := (hG_78.2 41 (by decide))
                    have e82_86 : g151_78 86 = w117_6 86 := (hG_78.1 86 (by decide))
                    have e83_87 : g151_78 87 = w117_6 87 := (hG_78.1 87 (by decide))
                    have e84_86 : g151_78 86 = w117_6 86 := (hG_78.1 86 (by decide))
                    have e85_86 : g151_78 86 = w117_6 86 := (hG_78.1 86 (by decide))
                    have e86_73_42 : g151_78 73 42 = (g151_78 73) 42 := rfl
                    have e87_73_43 : g151_78 73 43 = (g151_78 73) 43 := rfl
                    exact ih6 (b + 1) g151_78 hT_78 hF_78 (by first | omega | (simp [up, setR] <;> omega)) (by rewrite [e79_73_42, e80_73_43]; first | omega | (simp [up, setR] <;> omega)) (by rewrite [e81_73_41]; first | omega | (simp [up, setR] <;> omega)) (by rewrite [e82_86, e83_87]; exact hhd) (by rewrite [e84_86]; exact hru) (by rewrite [e85_86]; exact htq) (by intro q; exfalso; omega) (by rewrite [e86_73_42, e87_73_43]; rw [hdsS_s (by omega), hd1S_p (D := ((h 83, h 92, h 80, h 81, fun c i => h 89 (h 90 c + i)) : DT_)) em9, ← (hP2.2 b (by omega) (by omega)).1]; exact hd_at151) (by rw [hdsS_s (by omega), w1_at151]; exact pw9.1) (by first | omega | (simp [up, setR] <;> omega))
          refine TT_sub [1, 2, 3, 4, 5, 0] rfl ?_
          have e88_73_42 : g112_5 73 42 = (w111_4 73) 42 := congrFun (hG_5.1 73 (by decide)) 42
          have e89_73_43 : g112_5 73 43 = (w111_4 73) 43 := congrFun (hG_5.1 73 (by decide)) 43
          have e90_73_41 : g112_5 73 41 = (w111_4 73) 41 := congrFun (hG_5.1 73 (by decide)) 41
          have e91_86 : g112_5 86 = w111_4 86 := (hG_5.1 86 (by decide))
          have e92_87 : g112_5 87 = w111_4 87 := (hG_5.1 87 (by decide))
          have e93_86 : g112_5 86 = w111_4 86 := (hG_5.1 86 (by decide))
          have e94_86 : g112_5 86 = w111_4 86 := (hG_5.1 86 (by decide))
          have e95_100 : g112_5 100 = w111_4 100 := (hG_5.1 100 (by decide))
          have e96_73_42 : g112_5 73 42 = (w111_4 73) 42 := congrFun (hG_5.1 73 (by decide)) 42
          have e97_73_43 : g112_5 73 43 = (w111_4 73) 43 := congrFun (hG_5.1 73 (by decide)) 43
          have e98_88 : g112_5 88 = w111_4 88 := (hG_5.1 88 (by decide))
          have fs2 := p1_at112
          exact L117_6 (((3 * r + 1 - z112_5).toNat) + 1) z112_5 g112_5 hT_5 hF_5 (by first | omega | (simp [up, setR] <;> omega)) (by rewrite [e88_73_42, e89_73_43]; first | omega | (simp [up, setR] <;> omega)) (by rewrite [e90_73_41]; first | omega | (simp [up, setR] <;> omega)) (by rewrite [e91_86, e92_87]; exact hhd) (by rewrite [e93_86]; exact hru) (by rewrite [e94_86]; exact htq) (by intro _; exact fs2) (by rewrite [e95_100, e96_73_42, e97_73_43]; rw [fs2, show FS r - FS r = 0 by omega]; exact hR1) (by rewrite [e98_88]; rw [fs2, show FS r - FS r = 0 by omega, k88]; exact PKW_s hpk (putS_n 1 sm wu1).1) (Nat.lt_succ_self _)
        refine TT_aload_n hK rfl 0 rfl dX12_putPacket_83 ?_
        refine TT_aload_n hK rfl 0 rfl dX12_putPacket_84 ?_
        refine gf_X12_329 hK (by decide) rfl (v := (w9_2 73) 41) rfl dX12_putPacket_85 ?_
        have r99 := ty_73_41 (v := (w9_2 73) 41) hT9_2 rfl
        refine pf_X12_311 hK (by decide) rfl dX12_putPacket_88 ?_
        refine TT_hp (h' := setO w9_2 73 (fup (w9_2 73) 42 ((w9_2 73) 41))) (up_can rfl rfl rfl) ?_
        have hT_100 : TY (setO w9_2 73 (fup (w9_2 73) 42 ((w9_2 73) 41))) := tu_73_42 hT9_2 (show up w9_2 73 42 ((w9_2 73) 41) = (setO w9_2 73 (fup (w9_2 73) 42 ((w9_2 73) 41))) from up_can rfl rfl rfl) (by omega)
        have hF_100 : FRM [73, 86, 87, 88, 100] [41, 42, 43] h (setO w9_2 73 (fup (w9_2 73) 42 ((w9_2 73) 41))) := FRM_f (show up w9_2 73 42 ((w9_2 73) 41) = (setO w9_2 73 (fup (w9_2 73) 42 ((w9_2 73) 41))) from up_can rfl rfl rfl) hF9_2 (by decide) (by decide)
        refine TT_aload_n hK rfl 0 rfl dX12_putPacket_91 ?_
        refine TT_iconst hK dX12_putPacket_92 ?_
        refine pf_X12_314 hK (by decide) rfl dX12_putPacket_93 ?_
        refine TT_hp (h' := setO w9_2 73 (fup (fup (w9_2 73) 42 ((w9_2 73) 41)) 43 0)) (up_can (sOf_eq _ _ _) rfl (setO_same _ _ _ _)) ?_
        have hT_101 : TY (setO w9_2 73 (fup (fup (w9_2 73) 42 ((w9_2 73) 41)) 43 0)) := tu_73_43 hT_100 (show up (setO w9_2 73 (fup (w9_2 73) 42 ((w9_2 73) 41))) 73 43 0 = (setO w9_2 73 (fup (fup (w9_2 73) 42 ((w9_2 73) 41)) 43 0)) from up_can (sOf_eq _ _ _) rfl (setO_same _ _ _ _)) (by omega)
        have hF_101 : FRM [73, 86, 87, 88, 100] [41, 42, 43] h (setO w9_2 73 (fup (fup (w9_2 73) 42 ((w9_2 73) 41)) 43 0)) := FRM_f (show up (setO w9_2 73 (fup (w9_2 73) 42 ((w9_2 73) 41))) 73 43 0 = (setO w9_2 73 (fup (fup (w9_2 73) 42 ((w9_2 73) 41)) 43 0)) from up_can (sOf_eq _ _ _) rfl (setO_same _ _ _ _)) hF_100 (by decide) (by decide)
        refine TT_aload_n hK rfl 0 rfl dX12_putPacket_96 ?_
        refine TT_iload hK 4 rfl dX12_putPacket_97 ?_
        refine TT_if_eq hK (tgt := 106) (irm (by omega) (by omega)) dX12_putPacket_99 (by decide) (fun hb99_102 => ?_) (fun hb99_102 => ?_)
        · refine TT_iconst hK dX12_putPacket_106 ?_
          refine TT_iconst hK dX12_putPacket_107 ?_
          have e103_73_42 : (setO w9_2 73 (fup (fup (w9_2 73) 42 ((w9_2 73) 41)) 43 0)) 73 42 = (w9_2 73) 41 := rd_ (sOf_eq _ _ _) ((fup_ne _ _ (by decide)).trans (fup_eq _ _ _))
          have e104_73_43 : (setO w9_2 73 (fup (fup (w9_2 73) 42 ((w9_2 73) 41)) 43 0)) 73 43 = 0 := rd_ (sOf_eq _ _ _) (fup_eq _ _ _)
          have e105_100 : (setO w9_2 73 (fup (fup (w9_2 73) 42 ((w9_2 73) 41)) 43 0)) 100 = w9_2 100 := sOf_ne _ _ (by decide)
          have e106_73_42 : (setO w9_2 73 (fup (fup (w9_2 73) 42 ((w9_2 73) 41)) 43 0)) 73 42 = (w9_2 73) 41 := rd_ (sOf_eq _ _ _) ((fup_ne _ _ (by decide)).trans (fup_eq _ _ _))
          have e107_73_43 : (setO w9_2 73 (fup (fup (w9_2 73) 42 ((w9_2 73) 41)) 43 0)) 73 43 = 0 := rd_ (sOf_eq _ _ _) (fup_eq _ _ _)
          refine iv_X12_320 hK (s_putBits_e s 0 1 (setO w9_2 73 (fup (fup (w9_2 73) 42 ((w9_2 73) 41)) 43 0)) hT_101 (by first | omega | (simp [up, setR] <;> omega)) (by first | omega | (simp [up, setR] <;> omega)) (by rewrite [e103_73_42, e104_73_43]; first | omega | (simp [up, setR] <;> omega)) (by rewrite [e105_100, e106_73_42, e107_73_43]; rw [k41, k100]; exact hrb) (by exact wu1) (by first | omega | (simp [up, setR] <;> omega))) (by decide) rfl ⟨by decide, by decide⟩ (by decide) rfl rfl (Nat.le_of_ble_eq_true rfl) ⟨by decide, by decide⟩ dX12_putPacket_108 ?_
          intro r9 g108_108 hp9
          obtain ⟨⟨hT_108, hG_108⟩, hr9, p1_108, pb_108⟩ := hp9
          rw [hr9]
          have hF_108 : FRM [73, 86, 87, 88, 100] [41, 42, 43] h g108_108 := FRM_tr hF_101 hG_108 (by decide) (by decide)
          rw [show (setO w9_2 73 (fup (fup (w9_2 73) 42 ((w9_2 73) 41)) 43 0)) 73 42 = (w9_2 73) 41 from rd_ (sOf_eq _ _ _) ((fup_ne _ _ (by decide)).trans (fup_eq _ _ _))] at p1_108
          rw [show (setO w9_2 73 (fup (fup (w9_2 73) 42 ((w9_2 73) 41)) 43 0)) 73 43 = 0 from rd_ (sOf_eq _ _ _) (fup_eq _ _ _)] at p1_108
          have p1_at108 := p1_108
          have pb_at108 := pb_108
          show TT K ly 0 0 111 [(0, vR 73), (1, vI r), (2, vI i), (3, vI n), (4, vI sm), (5, vI b)] [] g108_108
          refine TT_sub [0, 1, 2, 3, 4] rfl ?_
          have e109_73_42 : g108_108 73 42 = (g108_108 73) 42 := rfl
          have e110_73_43 : g108_108 73 43 = (g108_108 73) 43 := rfl
          have e111_73_41 : g108_108 73 41 = (w9_2 73) 41 := ((hG_108.2 41 (by decide))).trans (rd_ (sOf_eq _ _ _) ((fup_ne _ _ (by decide)).trans (fup_ne _ _ (by decide))))
          have e112_86 : g108_108 86 = w9_2 86 := ((hG_108.1 86 (by decide))).trans (sOf_ne _ _ (by decide))
          have e113_87 : g108_108 87 = w9_2 87 := ((hG_108.1 87 (by decide))).trans (sOf_ne _ _ (by decide))
          have e114_86 : g108_108 86 = w9_2 86 := ((hG_108.1 86 (by decide))).trans (sOf_ne _ _ (by decide))
          have e115_86 : g108_108 86 = w9_2 86 := ((hG_108.1 86 (by decide))).trans (sOf_ne _ _ (by decide))
          have e116_88 : g108_108 88 = w9_2 88 := ((hG_108.1 88 (by decide))).trans (sOf_ne _ _ (by decide))
          have e117_73_42 : g108_108 73 42 = (g108_108 73) 42 := rfl
          have e118_73_43 : g108_108 73 43 = (g108_108 73) 43 := rfl
          exact J111_4 g108_108 hT_108 hF_108 (by rewrite [e109_73_42, e110_73_43]; first | omega | (simp [up, setR] <;> omega)) (by rewrite [e111_73_41]; first | omega | (simp [up, setR] <;> omega)) (by rewrite [e112_86, e113_87]; rw [show b = 3 * r + 1 by omega] at hhd; exact hhd) (by rewrite [e114_86]; rw [show b = 3 * r + 1 by omega] at hru; exact hru) (by rewrite [e115_86]; rw [show b = 3 * r + 1 by omega] at hhd hru; exact TKQ_n (FS r) (3 * r + 1) hi hn htk0 (fun j h1 h2 => (ty_83 (i := j) (v := h 83 j) hT rfl h1 (by omega)).1.1) hhd hru) (by rewrite [e116_88]; first | rfl | exact k88) (by rewrite [e117_73_42, e118_73_43]; first | (rw [show sm = 1 by omega]; exact pb_at108.1) | (rw [show sm = 0 by omega]; exact pb_at108.1)) (by rw [hA, show b = 3 * r + 1 by omega])
        · refine TT_iconst hK dX12_putPacket_102 ?_
          refine TT_goto hK (tgt := 107) dX12_putPacket_103 (by decide) ?_
          refine TT_iconst hK dX12_putPacket_107 ?_
          have e119_73_42 : (setO w9_2 73 (fup (fup (w9_2 73) 42 ((w9_2 73) 41)) 43 0)) 73 42 = (w9_2 73) 41 := rd_ (sOf_eq _ _ _) ((fup_ne _ _ (by decide)).trans (fup_eq _ _ _))
          have e120_73_43 : (setO w9_2 73 (fup (fup (w9_2 73) 42 ((w9_2 73) 41)) 43 0)) 73 43 = 0 := rd_ (sOf_eq _ _ _) (fup_eq _ _ _)
          have e121_100 : (setO w9_2 73 (fup (fup (w9_2 73) 42 ((w9_2 73) 41)) 43 0)) 100 = w9_2 100 := sOf_ne _ _ (by decide)
          have e122_73_42 : (setO w9_2 73 (fup (fup (w9_2 73) 42 ((w9_2 73) 41)) 43 0)) 73 42 = (w9_2 73) 41 := rd_ (sOf_eq _ _ _) ((fup_ne _ _ (by decide)).trans (fup_eq _ _ _))
          have e123_73_43 : (setO w9_2 73 (fup (fup (w9_2 73) 42 ((w9_2 73) 41)) 43 0)) 73 43 = 0 := rd_ (sOf_eq _ _ _) (fup_eq _ _ _)
          refine iv_X12_320 hK (s_putBits_e s 1 1 (setO w9_2 73 (fup (fup (w9_2 73) 42 ((w9_2 73) 41)) 43 0)) hT_101 (by first | omega | (simp [up, setR] <;> omega)) (by first | omega | (simp [up, setR] <;> omega)) (by rewrite [e119_73_42, e120_73_43]; first | omega | (simp [up, setR] <;> omega)) (by rewrite [e121_100, e122_73_42, e123_73_43]; rw [k41, k100]; exact hrb) (by exact wu1) (by first | omega | (simp [up, setR] <;> omega))) (by decide) rfl ⟨by decide, by decide⟩ (by decide) rfl rfl (Nat.le_of_ble_eq_true rfl) ⟨by decide, by decide⟩ dX12_putPacket_108 ?_
          intro r9 g108_124 hp9
          obtain ⟨⟨hT_124, hG_124⟩, hr9, p1_124, pb_124⟩ := hp9
          rw [hr9]
          have hF_124 : FRM [73, 86, 87, 88, 100] [41, 42, 43] h g108_124 := FRM_tr hF_101 hG_124 (by decide) (by decide)
          rw [show (setO w9_2 73 (fup (fup (w9_2 73) 42 ((w9_2 73) 41)) 43 0)) 73 42 = (w9_2 73) 41 from rd_ (sOf_eq _ _ _) ((fup_ne _ _ (by decide)).trans (fup_eq _ _ _))] at p1_124
          rw [show (setO w9_2 73 (fup (fup (w9_2 73) 42 ((w9_2 73) 41)) 43 0)) 73 43 = 0 from rd_ (sOf_eq _ _ _) (fup_eq _ _ _)] at p1_124
          have p1_at108 := p1_124
          have pb_at108 := pb_124
          show TT K ly 0 0 111 [(0, vR 73), (1, vI r), (2, vI i), (3, vI n), (4, vI sm), (5, vI b)] [] g108_124
          refine TT_sub [0, 1, 2, 3, 4] rfl ?_
          have e125_73_42 : g108_124 73 42 = (g108_124 73) 42 := rfl
          have e126_73_43 : g108_124 73 43 = (g108_124 73) 43 := rfl
          have e127_73_41 : g108_124 73 41 = (w9_2 73) 41 := ((hG_124.2 41 (by decide))).trans (rd_ (sOf_eq _ _ _) ((fup_ne _ _ (by decide)).trans (fup_ne _ _ (by decide))))
          have e128_86 : g108_124 86 = w9_2 86 := ((hG_124.1 86 (by decide))).trans (sOf_ne _ _ (by decide))
          have e129_87 : g108_124 87 = w9_2 87 := ((hG_124.1 87 (by decide))).trans (sOf_ne _ _ (by decide))
          have e130_86 : g108_124 86 = w9_2 86 := ((hG_124.1 86 (by decide))).trans (sOf_ne _ _ (by decide))
          have e131_86 : g108_124 86 = w9_2 86 := ((hG_124.1 86 (by decide))).trans (sOf_ne _ _ (by decide))
          have e132_88 : g108_124 88 = w9_2 88 := ((hG_124.1 88 (by decide))).trans (sOf_ne _ _ (by decide))
          have e133_73_42 : g108_124 73 42 = (g108_124 73) 42 := rfl
          have e134_73_43 : g108_124 73 43 = (g108_124 73) 43 := rfl
          exact J111_4 g108_124 hT_124 hF_124 (by rewrite [e125_73_42, e126_73_43]; first | omega | (simp [up, setR] <;> omega)) (by rewrite [e127_73_41]; first | omega | (simp [up, setR] <;> omega)) (by rewrite [e128_86, e129_87]; rw [show b = 3 * r + 1 by omega] at hhd; exact hhd) (by rewrite [e130_86]; rw [show b = 3 * r + 1 by omega] at hru; exact hru) (by rewrite [e131_86]; rw [show b = 3 * r + 1 by omega] at hhd hru; exact TKQ_n (FS r) (3 * r + 1) hi hn htk0 (fun j h1 h2 => (ty_83 (i := j) (v := h 83 j) hT rfl h1 (by omega)).1.1) hhd hru) (by rewrite [e132_88]; first | rfl | exact k88) (by rewrite [e133_73_42, e134_73_43]; first | (rw [show sm = 1 by omega]; exact pb_at108.1) | (rw [show sm = 0 by omega]; exact pb_at108.1)) (by rw [hA, show b = 3 * r + 1 by omega])
      · refine TT_aload_n hK rfl 0 rfl dX12_putPacket_17 ?_
        refine gf_X12_57 hK (by decide) rfl (q := 87) rfl rfl dX12_putPacket_18 ?_
        refine TT_iload hK 5 rfl dX12_putPacket_21 ?_
        refine TT_aload_n hK rfl 0 rfl dX12_putPacket_23 ?_
        refine gf_X12_54 hK (by decide) rfl (q := 86) rfl rfl dX12_putPacket_24 ?_
        refine TT_iload hK 5 rfl dX12_putPacket_27 ?_
        refine TT_iald hK (o := 86) (n := 20) (by decide) rfl (by first | omega | (simp [up, setR] <;> omega)) (by first | omega | (simp [up, setR] <;> omega)) (v := (w9_2 86) b) rfl dX12_putPacket_29 ?_
        have r135 := ty_86 (i := b) (v := (w9_2 86) b) hT9_2 rfl (by omega) (by omega)
        refine TT_iast hK (o := 87) (n := 20) (by decide) rfl (by omega) (by omega) dX12_putPacket_30 ?_
        refine TT_hp (h' := setO w9_2 87 (fup (w9_2 87) b ((w9_2 86) b))) (up_can rfl rfl rfl) ?_
        have hT_136 : TY (setO w9_2 87 (fup (w9_2 87) b ((w9_2 86) b))) := tu_87 hT9_2 (show up w9_2 87 b ((w9_2 86) b) = (setO w9_2 87 (fup (w9_2 87) b ((w9_2 86) b))) from up_can rfl rfl rfl) (by omega)
        have hF_136 : FRM [73, 86, 87, 88, 100] [41, 42, 43] h (setO w9_2 87 (fup (w9_2 87) b ((w9_2 86) b))) := FRM_up (show up w9_2 87 b ((w9_2 86) b) = (setO w9_2 87 (fup (w9_2 87) b ((w9_2 86) b))) from up_can rfl rfl rfl) hF9_2 (by decide) (by decide)
        refine TT_aload_n hK rfl 0 rfl dX12_putPacket_31 ?_
        refine gf_X12_54 hK (by decide) rfl (q := 86) rfl rfl dX12_putPacket_32 ?_
        refine TT_iload hK 5 rfl dX12_putPacket_35 ?_
        refine TT_aload_n hK rfl 0 rfl dX12_putPacket_37 ?_
        refine TT_iload hK 5 rfl dX12_putPacket_38 ?_
        refine iv_X12_296 hK (s_passesOf_x b (setO w9_2 87 (fup (w9_2 87) b ((w9_2 86) b))) hT_136 (by first | omega | (simp [up, setR] <;> omega))) (by decide) rfl ⟨by decide, by decide⟩ (by decide) rfl rfl (Nat.le_of_ble_eq_true rfl) ⟨by decide, by decide⟩ dX12_putPacket_40 ?_
        intro r9 g40_137 hp9
        obtain ⟨⟨hT_137, hG_137⟩, z40_137, hr9, hz_137, p1_137, p2_137⟩ := hp9
        rw [hr9]
        have hF_137 : FRM [73, 86, 87, 88, 100] [41, 42, 43] h g40_137 := FRM_tr hF_136 hG_137 (by decide) (by decide)
        rw [show (setO w9_2 87 (fup (w9_2 87) b ((w9_2 86) b))) 83 = h 83 from (sOf_ne _ _ (by decide)).trans (hF9_2.1 83 (by decide))] at p2_137
        have p2_at40 := p2_137
        show TT K ly 0 0 43 [(0, vR 73), (1, vI r), (2, vI i), (3, vI n), (4, vI sm), (5, vI b)] [vI z40_137, vI b, vR 86] g40_137
        refine TT_iload_n hK rfl 2 rfl dX12_putPacket_43 ?_
        refine TT_imul hK dX12_putPacket_44 ?_
        refine TT_nmI (fun m9 hm9 => ?_)
        refine TT_iload_n hK rfl 3 rfl dX12_putPacket_45 ?_
        have hm := pu1 (hm9.trans (Int.mul_comm _ _)) hi hn (by omega)
        refine TT_idivn hK (irm (by omega) (by omega)) (irm (by omega) (by omega)) (by first | omega | (simp [up, setR] <;> omega)) (by first | omega | (simp [up, setR] <;> omega)) dX12_putPacket_46 ?_
        refine TT_iast hK (o := 86) (n := 20) (by decide) rfl (by omega) (by omega) dX12_putPacket_47 ?_
        refine TT_hp (h' := setO g40_137 86 (fup (w9_2 86) b (m9 / n))) (up_can (((hG_137.1 86 (by decide))).trans (sOf_ne _ _ (by decide))) rfl rfl) ?_
        have hT_138 : TY (setO g40_137 86 (fup (w9_2 86) b (m9 / n))) := tu_86 hT_137 (show up g40_137 86 b (m9 / n) = (setO g40_137 86 (fup (w9_2 86) b (m9 / n))) from up_can (((hG_137.1 86 (by decide))).trans (sOf_ne _ _ (by decide))) rfl rfl) (by omega)
        have hF_138 : FRM [73, 86, 87, 88, 100] [41, 42, 43] h (setO g40_137 86 (fup (w9_2 86) b (m9 / n))) := FRM_up (show up g40_137 86 b (m9 / n) = (setO g40_137 86 (fup (w9_2 86) b (m9 / n))) from up_can (((hG_137.1 86 (by decide))).trans (sOf_ne _ _ (by decide))) rfl rfl) hF_137 (by decide) (by decide)
        have J75_139 : ∀ (sm2 : Int), (0 ≤ sm2 ∧ sm2 ≤ 1) → ((sm2 = 1 ∧ (sm = 1 ∨ tkF ((h 83, h 92, h 80, h 81, fun c i => h 89 (h 90 c + i)) : DT_) n (i - 1) b < tkF ((h 83, h 92, h 80, h 81, fun c i => h 89 (h 90 c + i)) : DT_) n i b)) ∨ (sm2 = 0 ∧ ¬(sm = 1 ∨ tkF ((h 83, h 92, h 80, h 81, fun c i => h 89 (h 90 c + i)) : DT_) n (i - 1) b < tkF ((h 83, h 92, h 80, h 81, fun c i => h 89 (h 90 c + i)) : DT_) n i b))) → TT K ly 0 0 75 [(0, vR 73), (1, vI r), (2, vI i), (3, vI n), (4, vI sm), (5, vI b)] [vI sm2] (setO g40_137 86 (fup (w9_2 86) b (m9 / n))) := by
          intro sm2 hs2 hs3
          refine TT_istore hK (lv' := [(4, vI sm2), (0, vR 73), (1, vI r), (2, vI i), (3, vI n), (5, vI b)]) (by decide) rfl dX12_putPacket_75 ?_
          refine TT_iinc hK (v := b + 1) (lv' := [(5, vI (b + 1)), (4, vI sm2), (0, vR 73), (1, vI r), (2, vI i), (3, vI n)]) 5 rfl rfl (by decide) rfl dX12_putPacket_77 ?_
          refine TT_goto hK (tgt := 9) dX12_putPacket_80 (by decide) ?_
          refine TT_sub [2, 3, 4, 5, 1, 0] rfl ?_
          have e140_73_41 : (setO g40_137 86 (fup (w9_2 86) b (m9 / n))) 73 41 = (w9_2 73) 41 := (congrFun ((sOf_ne _ _ (by decide)).trans (hG_137.1 73 (by decide))) 41).trans (rd_ (sOf_ne _ _ (by decide)) rfl)
          have e141_86 : (setO g40_137 86 (fup (w9_2 86) b (m9 / n))) 86 = fup (w9_2 86) b (m9 / n) := sOf_eq _ _ _
          have e142_87 : (setO g40_137 86 (fup (w9_2 86) b (m9 / n))) 87 = fup (w9_2 87) b ((w9_2 86) b) := (sOf_ne _ _ (by decide)).trans (((hG_137.1 87 (by decide))).trans (sOf_eq _ _ _))
          have e143_86 : (setO g40_137 86 (fup (w9_2 86) b (m9 / n))) 86 = fup (w9_2 86) b (m9 / n) := sOf_eq _ _ _
          have e144_88 : (setO g40_137 86 (fup (w9_2 86) b (m9 / n))) 88 = w9_2 88 := (sOf_ne _ _ (by decide)).trans (((hG_137.1 88 (by decide))).trans (sOf_ne _ _ (by decide)))
          have e145_100 : (setO g40_137 86 (fup (w9_2 86) b (m9 / n))) 100 = w9_2 100 := (sOf_ne _ _ (by decide)).trans (((hG_137.1 100 (by decide))).trans (sOf_ne _ _ (by decide)))
          exact ih2 sm2 (b + 1) (setO g40_137 86 (fup (w9_2 86) b (m9 / n))) hT_138 hF_138 (by first | omega | (simp [up, setR] <;> omega)) (by first | omega | (simp [up, setR] <;> omega)) (by rewrite [e140_73_41]; first | omega | (simp [up, setR] <;> omega)) (by rewrite [e141_86, e142_87]; intro j h1 h2; by_cases e : j = b; (rw [e, fup_eq, fup_eq, hm9, p2_at40]; exact ⟨hru b (Or.inr (Int.le_refl _)), rfl⟩); (rw [fup_ne _ _ e, fup_ne _ _ e]; exact hhd j h1 (by omega))) (by rewrite [e143_86]; intro j h1; rw [fup_ne _ _ (by omega)]; exact hru j (by omega)) (by rewrite [e144_88]; first | rfl | exact k88) (by rewrite [e145_100]; first | rfl | exact k100) (by exact anS_s (by omega) hA hs3) (by first | omega | (simp [up, setR] <;> omega))
        have t1 : tkF ((h 83, h 92, h 80, h 81, fun c i => h 89 (h 90 c + i)) : DT_) n i b = m9 / n := by
            show pas (h 83 b) * i / n = m9 / n
            rw [hm9, p2_at40]
        have t0 : (w9_2 86) b = tkF ((h 83, h 92, h 80, h 81, fun c i => h 89 (h 90 c + i)) : DT_) n (i - 1) b := (hru b (Or.inr (Int.le_refl _))).trans (htk b (by omega) (by omega))
        refine TT_iload hK 4 rfl dX12_putPacket_48 ?_
        refine TT_if_ne hK (tgt := 70) (irm (by omega) (by omega)) dX12_putPacket_50 (by decide) (fun hb50_146 => ?_) (fun hb50_146 => ?_)
        · refine TT_iconst hK dX12_putPacket_70 ?_
          refine TT_goto hK (tgt := 75) dX12_putPacket_71 (by decide) ?_
          exact J75_139 1 (by first | omega | (simp [up, setR] <;> omega)) (by first | exact Or.inl ⟨rfl, by omega⟩ | exact Or.inr ⟨rfl, by omega⟩)
        · refine TT_aload_n hK rfl 0 rfl dX12_putPacket_53 ?_
          refine gf_X12_54 hK (by decide) rfl (q := 86) rfl rfl dX12_putPacket_54 ?_
          refine TT_iload hK 5 rfl dX12_putPacket_57 ?_
          refine TT_iald hK (o := 86) (n := 20) (by decide) rfl (by first | omega | (simp [up, setR] <;> omega)) (by first | omega | (simp [up, setR] <;> omega)) (v := m9 / n) (rd_ (sOf_eq _ _ _) (fup_eq _ _ _)) dX12_putPacket_59 ?_
          have r147 := ty_86 (i := b) (v := m9 / n) hT_138 (rd_ (sOf_eq _ _ _) (fup_eq _ _ _)) (by omega) (by omega)
          refine TT_aload_n hK rfl 0 rfl dX12_putPacket_60 ?_
          refine gf_X12_57 hK (by decide) rfl (q := 87) rfl rfl dX12_putPacket_61 ?_
          refine TT_iload hK 5 rfl dX12_putPacket_64 ?_
          refine TT_iald hK (o := 87) (n := 20) (by decide) rfl (by first | omega | (simp [up, setR] <;> omega)) (by first | omega | (simp [up, setR] <;> omega)) (v := (w9_2 86) b) (rd_ ((sOf_ne _ _ (by decide)).trans (((hG_137.1 87 (by decide))).trans (sOf_eq _ _ _))) (fup_eq _ _ _)) dX12_putPacket_66 ?_
          refine TT_icmp_le hK (tgt := 74) (irm (by omega) (by omega)) (irm (by omega) (by omega)) dX12_putPacket_67 (by decide) (fun hb67_148 => ?_) (fun hb67_148 => ?_)
          · refine TT_iconst hK dX12_putPacket_74 ?_
            exact J75_139 0 (by first | omega | (simp [up, setR] <;> omega)) (by first | exact Or.inl ⟨rfl, by omega⟩ | exact Or.inr ⟨rfl, by omega⟩)
          · refine TT_iconst hK dX12_putPacket_70 ?_
            refine TT_goto hK (tgt := 75) dX12_putPacket_71 (by decide) ?_
            exact J75_139 1 (by first | omega | (simp [up, setR] <;> omega)) (by first | exact Or.inl ⟨rfl, by omega⟩ | exact Or.inr ⟨rfl, by omega⟩)
  refine TT_sub [2, 3, 4, 5, 1, 0] rfl ?_
  have e149_73_41 : g4_1 73 41 = (h 73) 41 := congrFun (hG_1.1 73 (by decide)) 41
  have e150_86 : g4_1 86 = h 86 := (hG_1.1 86 (by decide))
  have e151_87 : g4_1 87 = h 87 := (hG_1.1 87 (by decide))
  have e152_86 : g4_1 86 = h 86 := (hG_1.1 86 (by decide))
  have e153_88 : g4_1 88 = h 88 := (hG_1.1 88 (by decide))
  have e154_100 : g4_1 100 = h 100 := (hG_1.1 100 (by decide))
  have fs1 := p1_at4
  exact L9_2 (((3 * r + 1 - z4_1).toNat) + 1) 0 z4_1 g4_1 hT_1 hF_1 (by first | omega | (simp [up, setR] <;> omega)) (by first | omega | (simp [up, setR] <;> omega)) (by rewrite [e149_73_41]; first | omega | (simp [up, setR] <;> omega)) (by rewrite [e150_86, e151_87]; intro j h1 h2; omega) (by rewrite [e152_86]; intro j h1; rfl) (by rewrite [e153_88]; first | rfl) (by rewrite [e154_100]; first | rfl) (by rw [fs1, show FS r - FS r = 0 by omega]; rfl) (Nat.lt_succ_self _)

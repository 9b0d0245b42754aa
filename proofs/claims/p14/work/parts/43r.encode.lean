def AR (w e l : Int) : Int → Int := fun k => BW w l k * BH e l k
theorem ARb {w e l c : Int} (hw : 1 ≤ w ∧ w ≤ 8) (he : 1 ≤ e ∧ e ≤ 8) (hl : 0 ≤ l ∧ l ≤ 3) (hc : 0 ≤ c ∧ c ≤ 3 * l + 1) : IS (AR w e l) c ≤ 64 := by
  unfold IS
  exact AREA (w := w) (e := e) (l := l) (by omega) (by omega) hl (by omega)
theorem lf_1 {n l : Int} (hn : 1 ≤ n ∧ n ≤ 8) (hl : 0 ≤ l ∧ l ≤ 4) : 1 ≤ lf n l ∧ lf n l ≤ 8 := by
  unfold lf
  (repeat' split) <;> omega
def BL (l : Int) : Int := if l = 0 then 128 else if l = 1 then 288 else if l = 2 then 648 else 1458
theorem BL_r {l : Int} (hl : 0 ≤ l ∧ l ≤ 2) : 1 ≤ BL l ∧ BL l ≤ 1000 := by
  unfold BL
  (repeat' split) <;> omega
theorem LV_0 {w e : Int} {sq : Int → Int} (h : ∀ j : Int, 0 ≤ j → j < 64 → -128 ≤ sq j ∧ sq j ≤ 128) : LV w e (BL 0) sq := by
  intro i h0 h1
  have := h i h0 h1
  rw [show BL 0 = 128 from rfl]
  exact ⟨by omega, fun _ _ => this⟩
theorem LV_n {W H l : Int} {s0 s1 s2 : Int → Int} (hl : 0 ≤ l ∧ l ≤ 2) (hW : 1 ≤ W ∧ W ≤ 8) (hH : 1 ≤ H ∧ H ≤ 8) (h : LV (lf W l) (lf H l) (BL l) s0) (hc : ∀ t : Int, 0 ≤ t → t < 64 → s1 t = cE (lf W l) (lf H l) s0 t) (hr : ∀ t : Int, 0 ≤ t → t < 64 → s2 t = rE (lf W l) (lf H l) s1 t) : LV (lf W (l + 1)) (lf H (l + 1)) (BL (l + 1)) s2 := by
  have k := rEb (lf_1 hW (by omega)) (lf_1 hH (by omega)) (BL_r hl) h hc hr
  have e1 : ∀ n : Int, (lf n l + 1) / 2 = lf n (l + 1) := by
    intro n
    rcases (show l = 0 ∨ l = 1 ∨ l = 2 by omega) with rfl | rfl | rfl
    · show (n + 1) / 2 = (n + 1) / 2; rfl
    · show ((n + 1) / 2 + 1) / 2 = (n + 3) / 4; omega
    · show ((n + 3) / 4 + 1) / 2 = (n + 7) / 8; omega
  have e2 : (3 * ((3 * BL l + 1) / 2) + 1) / 2 = BL (l + 1) := by
    rcases (show l = 0 ∨ l = 1 ∨ l = 2 by omega) with rfl | rfl | rfl <;> rfl
  rw [e1, e1, e2] at k
  exact k
theorem GT_nn {w : Hp_} {c : Int} (hT : TY w) (hc : c ≤ 10) : 0 ≤ IS (GT (w 92) (w 86)) c := by
  have key : ∀ n : Nat, (n : Int) ≤ 10 → 0 ≤ IS (GT (w 92) (w 86)) (n : Int) := by
    intro n
    induction n with
    | zero => intro _; exact Int.le_refl _
    | succ n ih =>
      intro hn
      have i1 := ih (by omega)
      have r := ty_86 (i := (n : Int)) (v := w 86 (n : Int)) hT rfl (by omega) (by omega)
      have r2 := ty_92 (i := 35 * (n : Int) + w 86 (n : Int)) (v := w 92 (35 * (n : Int) + w 86 (n : Int))) hT rfl (by omega) (by omega)
      rw [show ((n + 1 : Nat) : Int) = (n : Int) + 1 by omega, IS_s (by omega)]
      have e : GT (w 92) (w 86) (n : Int) = w 92 (35 * (n : Int) + w 86 (n : Int)) := rfl
      omega
  have k := key c.toNat (by omega)
  unfold IS at k ⊢
  exact k
theorem TKQ_0 {tk pl : Int → Int} {n c : Int} (h : ∀ j : Int, 0 ≤ j → j < c → tk j = 0) (hp : ∀ j : Int, 0 ≤ j → j < c → 0 ≤ pl j) (hn : 1 ≤ n ∧ n ≤ 3) : TKQ tk pl 1 n c := by
  intro j h0 h1
  have := tkm (i := 1) (n := n) (pas_r (hp j h0 h1)) (by omega) hn.2
  rw [h j h0 h1]
  exact ⟨this.2.1, pas_r (hp j h0 h1)⟩
theorem TKQ_m {tk pl : Int → Int} {i n c : Int} (h : TKQ tk pl i n c) (hp : ∀ j : Int, 0 ≤ j → j < c → 0 ≤ pl j) (hi : 1 ≤ i + 1 ∧ i + 1 ≤ n) (hn : n ≤ 3) : TKQ tk pl (i + 1) n c := by
  intro j h0 h1
  have := tkm (i := i + 1) (n := n) (pas_r (hp j h0 h1)) hi hn
  rw [show i + 1 - 1 = i by omega] at this
  have k := h j h0 h1
  exact ⟨Int.le_trans k.1 this.2.2, k.2⟩
set_option maxRecDepth 20000 in
theorem s_X12_encode_73 (l n : Int) (h : Hp_) (hT : TY h) (hl : -2147483648 ≤ l ∧ l ≤ 2147483647) (hn : -2147483648 ≤ n ∧ n ≤ 2147483647) (htb : TBL (h 74) (h 75)) (hmi : MIQ (h 90) (h 91)) : Ctr yX12_encode cX12_encode 6 (some .int) (rmd 10) ly ly 0 0 [vR 73, vI l, vI n] h (fun r h' => (TY h' ∧ FRM [73, 77, 78, 79, 80, 81, 82, 83, 84, 85, 86, 87, 88, 89, 90, 91, 92, 93, 94, 95, 96, 97, 98, 99, 100] [2, 18, 26, 27, 28, 29, 32, 33, 34, 36, 38, 39, 41, 42, 43] h h') ∧ ∃ z : Int, r = some (vI z) ∧ (0 ≤ z ∧ z ≤ 4400) ∧ (MIQ (h' 90) (h' 91))) := by
  refine Ctr_of (by decide) (Nat.le_of_ble_eq_true rfl) ⟨Nat.le_refl _, Nat.le_refl _⟩ (fun K hK hQ _ => ?_)
  show TT K ly 0 0 0 [(0, vR 73), (1, vI l), (2, vI n)] [] h
  have hF : FRM [73, 77, 78, 79, 80, 81, 82, 83, 84, 85, 86, 87, 88, 89, 90, 91, 92, 93, 94, 95, 96, 97, 98, 99, 100] [2, 18, 26, 27, 28, 29, 32, 33, 34, 36, 38, 39, 41, 42, 43] h h := FRM_rf _ _ _
  have rW := ty_73_3 (v := h 73 3) hT rfl
  have rH := ty_73_4 (v := h 73 4) hT rfl
  refine TT_aload_n hK rfl 0 rfl dX12_encode_0 ?_
  refine TT_iload_n hK rfl 1 rfl dX12_encode_1 ?_
  refine TT_iconst hK dX12_encode_2 ?_
  refine TT_iconst hK dX12_encode_3 ?_
  refine iv_X12_120 hK (s_X12_within l 0 3 h hT (by first | omega | (simp [up, setR] <;> omega)) (by first | omega | (simp [up, setR] <;> omega)) (by first | omega | (simp [up, setR] <;> omega))) ⟨by decide, by decide⟩ (by decide) rfl rfl (Nat.le_of_ble_eq_true rfl) ⟨by decide, by decide⟩ dX12_encode_4 ?_
  intro r9 g4_1 hp9
  obtain ⟨⟨hT_1, hG_1⟩, z4_1, hr9, hz_1, p1_1, p2_1⟩ := hp9
  rw [hr9]
  have hF_1 : FRM [73, 77, 78, 79, 80, 81, 82, 83, 84, 85, 86, 87, 88, 89, 90, 91, 92, 93, 94, 95, 96, 97, 98, 99, 100] [2, 18, 26, 27, 28, 29, 32, 33, 34, 36, 38, 39, 41, 42, 43] h g4_1 := FRM_tr hF hG_1 (by decide) (by decide)
  show TT K ly 0 0 7 [(0, vR 73), (1, vI l), (2, vI n)] [vI z4_1, vR 73] g4_1
  refine TT_if_eq hK (tgt := 23) (irm (by omega) (by omega)) dX12_encode_7 (by decide) (fun hb7_2 => ?_) (fun hb7_2 => ?_)
  · refine TT_iconst hK dX12_encode_23 ?_
    refine pf_X12_117 hK (by decide) rfl dX12_encode_24 ?_
    refine TT_hp (h' := setO g4_1 73 (fup (h 73) 2 1)) (up_can (hG_1.1 73 (by decide)) rfl rfl) ?_
    have hT_3 : TY (setO g4_1 73 (fup (h 73) 2 1)) := tu_73_2 hT_1 (show up g4_1 73 2 1 = (setO g4_1 73 (fup (h 73) 2 1)) from up_can (hG_1.1 73 (by decide)) rfl rfl) (by omega)
    have hF_3 : FRM [73, 77, 78, 79, 80, 81, 82, 83, 84, 85, 86, 87, 88, 89, 90, 91, 92, 93, 94, 95, 96, 97, 98, 99, 100] [2, 18, 26, 27, 28, 29, 32, 33, 34, 36, 38, 39, 41, 42, 43] h (setO g4_1 73 (fup (h 73) 2 1)) := FRM_f (show up g4_1 73 2 1 = (setO g4_1 73 (fup (h 73) 2 1)) from up_can (hG_1.1 73 (by decide)) rfl rfl) hF_1 (by decide) (by decide)
    refine TT_aload_n hK rfl 0 rfl dX12_encode_27 ?_
    refine gf_X12_117 hK (by decide) rfl (v := 1) (rd_ (sOf_eq _ _ _) (fup_eq _ _ _)) dX12_encode_28 ?_
    refine TT_if_le hK (tgt := 36) (by decide) dX12_encode_31 (by decide) (fun hb31_4 => ?_) (fun hb31_4 => ?_)
    · exact absurd hb31_4 (by decide)
    · refine TT_iconst hK dX12_encode_34 ?_
      refine TT_iret hK hQ ?_ dX12_encode_35
      have e5_90 : (setO g4_1 73 (fup (h 73) 2 1)) 90 = h 90 := (sOf_ne _ _ (by decide)).trans (hG_1.1 90 (by decide))
      have e6_91 : (setO g4_1 73 (fup (h 73) 2 1)) 91 = h 91 := (sOf_ne _ _ (by decide)).trans (hG_1.1 91 (by decide))
      exact ⟨⟨hT_3, hF_3⟩, 0, rfl, (by omega), (by rewrite [e5_90, e6_91]; exact hmi)⟩
  · refine TT_iload_n hK rfl 2 rfl dX12_encode_10 ?_
    refine TT_iconst hK dX12_encode_11 ?_
    refine TT_iconst hK dX12_encode_12 ?_
    refine iv_X12_120 hK (s_X12_within n 1 3 g4_1 hT_1 (by first | omega | (simp [up, setR] <;> omega)) (by first | omega | (simp [up, setR] <;> omega)) (by first | omega | (simp [up, setR] <;> omega))) ⟨by decide, by decide⟩ (by decide) rfl rfl (Nat.le_of_ble_eq_true rfl) ⟨by decide, by decide⟩ dX12_encode_13 ?_
    intro r9 g13_7 hp9
    obtain ⟨⟨hT_7, hG_7⟩, z13_7, hr9, hz_7, p1_7, p2_7⟩ := hp9
    rw [hr9]
    have hF_7 : FRM [73, 77, 78, 79, 80, 81, 82, 83, 84, 85, 86, 87, 88, 89, 90, 91, 92, 93, 94, 95, 96, 97, 98, 99, 100] [2, 18, 26, 27, 28, 29, 32, 33, 34, 36, 38, 39, 41, 42, 43] h g13_7 := FRM_tr hF_1 hG_7 (by decide) (by decide)
    show TT K ly 0 0 16 [(0, vR 73), (1, vI l), (2, vI n)] [vI z13_7, vR 73] g13_7
    refine TT_if_eq hK (tgt := 23) (irm (by omega) (by omega)) dX12_encode_16 (by decide) (fun hb16_8 => ?_) (fun hb16_8 => ?_)
    · refine TT_iconst hK dX12_encode_23 ?_
      refine pf_X12_117 hK (by decide) rfl dX12_encode_24 ?_
      refine TT_hp (h' := setO g13_7 73 (fup (h 73) 2 1)) (up_can (((hG_7.1 73 (by decide))).trans (hG_1.1 73 (by decide))) rfl rfl) ?_
      have hT_9 : TY (setO g13_7 73 (fup (h 73) 2 1)) := tu_73_2 hT_7 (show up g13_7 73 2 1 = (setO g13_7 73 (fup (h 73) 2 1)) from up_can (((hG_7.1 73 (by decide))).trans (hG_1.1 73 (by decide))) rfl rfl) (by omega)
      have hF_9 : FRM [73, 77, 78, 79, 80, 81, 82, 83, 84, 85, 86, 87, 88, 89, 90, 91, 92, 93, 94, 95, 96, 97, 98, 99, 100] [2, 18, 26, 27, 28, 29, 32, 33, 34, 36, 38, 39, 41, 42, 43] h (setO g13_7 73 (fup (h 73) 2 1)) := FRM_f (show up g13_7 73 2 1 = (setO g13_7 73 (fup (h 73) 2 1)) from up_can (((hG_7.1 73 (by decide))).trans (hG_1.1 73 (by decide))) rfl rfl) hF_7 (by decide) (by decide)
      refine TT_aload_n hK rfl 0 rfl dX12_encode_27 ?_
      refine gf_X12_117 hK (by decide) rfl (v := 1) (rd_ (sOf_eq _ _ _) (fup_eq _ _ _)) dX12_encode_28 ?_
      refine TT_if_le hK (tgt := 36) (by decide) dX12_encode_31 (by decide) (fun hb31_10 => ?_) (fun hb31_10 => ?_)
      · exact absurd hb31_10 (by decide)
      · refine TT_iconst hK dX12_encode_34 ?_
        refine TT_iret hK hQ ?_ dX12_encode_35
        have e11_90 : (setO g13_7 73 (fup (h 73) 2 1)) 90 = h 90 := (sOf_ne _ _ (by decide)).trans (((hG_7.1 90 (by decide))).trans (hG_1.1 90 (by decide)))
        have e12_91 : (setO g13_7 73 (fup (h 73) 2 1)) 91 = h 91 := (sOf_ne _ _ (by decide)).trans (((hG_7.1 91 (by decide))).trans (hG_1.1 91 (by decide)))
        exact ⟨⟨hT_9, hF_9⟩, 0, rfl, (by omega), (by rewrite [e11_90, e12_91]; exact hmi)⟩
    · refine TT_iconst hK dX12_encode_19 ?_
      refine TT_goto hK (tgt := 24) dX12_encode_20 (by decide) ?_
      refine pf_X12_117 hK (by decide) rfl dX12_encode_24 ?_
      refine TT_hp (h' := setO g13_7 73 (fup (h 73) 2 0)) (up_can (((hG_7.1 73 (by decide))).trans (hG_1.1 73 (by decide))) rfl rfl) ?_
      have hT_13 : TY (setO g13_7 73 (fup (h 73) 2 0)) := tu_73_2 hT_7 (show up g13_7 73 2 0 = (setO g13_7 73 (fup (h 73) 2 0)) from up_can (((hG_7.1 73 (by decide))).trans (hG_1.1 73 (by decide))) rfl rfl) (by omega)
      have hF_13 : FRM [73, 77, 78, 79, 80, 81, 82, 83, 84, 85, 86, 87, 88, 89, 90, 91, 92, 93, 94, 95, 96, 97, 98, 99, 100] [2, 18, 26, 27, 28, 29, 32, 33, 34, 36, 38, 39, 41, 42, 43] h (setO g13_7 73 (fup (h 73) 2 0)) := FRM_f (show up g13_7 73 2 0 = (setO g13_7 73 (fup (h 73) 2 0)) from up_can (((hG_7.1 73 (by decide))).trans (hG_1.1 73 (by decide))) rfl rfl) hF_7 (by decide) (by decide)
      refine TT_aload_n hK rfl 0 rfl dX12_encode_27 ?_
      refine gf_X12_117 hK (by decide) rfl (v := 0) (rd_ (sOf_eq _ _ _) (fup_eq _ _ _)) dX12_encode_28 ?_
      refine TT_if_le hK (tgt := 36) (by decide) dX12_encode_31 (by decide) (fun hb31_14 => ?_) (fun hb31_14 => ?_)
      · refine TT_iconst hK dX12_encode_36 ?_
        refine TT_istore_n hK rfl (lv' := [(3, vI 0), (0, vR 73), (1, vI l), (2, vI n)]) (by decide) rfl dX12_encode_37 ?_
        have L38_15 : ∀ (k15 : Nat) (k : Int) (w38_15 : Hp_), TY w38_15 → FRM [73, 77, 78, 79, 80, 81, 82, 83, 84, 85, 86, 87, 88, 89, 90, 91, 92, 93, 94, 95, 96, 97, 98, 99, 100] [2, 18, 26, 27, 28, 29, 32, 33, 34, 36, 38, 39, 41, 42, 43] h w38_15 → (MIQ (w38_15 90) (w38_15 91)) → (0 ≤ k ∧ k ≤ 64) → (∀ j : Int, 0 ≤ j → j < k → -128 ≤ (w38_15 77) j ∧ (w38_15 77) j ≤ 128) → ((64 : Int) - k).toNat < k15 → TT K ly 0 0 38 [(0, vR 73), (1, vI l), (2, vI n), (3, vI k)] [] w38_15 := by
          intro k15
          induction k15 with
          | zero => intro k w38_15 hT38_15 hF38_15 hmi hk hs0 hk15; exact absurd hk15 (Nat.not_lt_zero _)
          | succ k15 ih15 =>
            intro k w38_15 hT38_15 hF38_15 hmi hk hs0 hk15
            refine TT_iload_n hK rfl 3 rfl dX12_encode_38 ?_
            refine TT_bipush hK (by decide) dX12_encode_39 ?_
            refine TT_icmp_ge hK (tgt := 66) (irm (by omega) (by omega)) (by decide) dX12_encode_41 (by decide) (fun hb41_16 => ?_) (fun hb41_16 => ?_)
            · refine TT_iconst hK dX12_encode_66 ?_
              refine TT_istore_n hK rfl (lv' := [(3, vI 0), (0, vR 73), (1, vI l), (2, vI n)]) (by decide) rfl dX12_encode_67 ?_
              have L68_17 : ∀ (k17 : Nat) (lv : Int) (w68_17 : Hp_), TY w68_17 → FRM [73, 77, 78, 79, 80, 81, 82, 83, 84, 85, 86, 87, 88, 89, 90, 91, 92, 93, 94, 95, 96, 97, 98, 99, 100] [2, 18, 26, 27, 28, 29, 32, 33, 34, 36, 38, 39, 41, 42, 43] h w68_17 → (MIQ (w68_17 90) (w68_17 91)) → (0 ≤ lv ∧ lv ≤ l) → (LV (lf (h 73 3) lv) (lf (h 73 4) lv) (BL lv) (w68_17 77)) → ((3 : Int) - lv).toNat < k17 → TT K ly 0 0 68 [(0, vR 73), (1, vI l), (2, vI n), (3, vI lv)] [] w68_17 := by
                intro k17
                induction k17 with
                | zero => intro lv w68_17 hT68_17 hF68_17 hmi hlv hLV hk17; exact absurd hk17 (Nat.not_lt_zero _)
                | succ k17 ih17 =>
                  intro lv w68_17 hT68_17 hF68_17 hmi hlv hLV hk17
                  have l1 := lf_1 (n := h 73 3) (l := lv) rW (by omega)
                  have l2 := lf_1 (n := h 73 4) (l := lv) rH (by omega)
                  refine TT_iload_n hK rfl 3 rfl dX12_encode_68 ?_
                  refine TT_iload_n hK rfl 1 rfl dX12_encode_69 ?_
                  refine TT_icmp_ge hK (tgt := 121) (irm (by omega) (by omega)) (irm (by omega) (by omega)) dX12_encode_70 (by decide) (fun hb70_18 => ?_) (fun hb70_18 => ?_)
                  · refine TT_aload_n hK rfl 0 rfl dX12_encode_121 ?_
                    refine TT_iconst hK dX12_encode_122 ?_
                    refine TT_aload_n hK rfl 0 rfl dX12_encode_123 ?_
                    refine gf_X12_16 hK (by decide) rfl (v := (h 73) 3) (hF68_17.2 3 (by decide)) dX12_encode_124 ?_
                    have r19 := ty_73_3 (v := (h 73) 3) hT68_17 (hF68_17.2 3 (by decide))
                    refine TT_aload_n hK rfl 0 rfl dX12_encode_127 ?_
                    refine gf_X12_20 hK (by decide) rfl (v := (h 73) 4) (hF68_17.2 4 (by decide)) dX12_encode_128 ?_
                    have r20 := ty_73_4 (v := (h 73) 4) hT68_17 (hF68_17.2 4 (by decide))
                    refine TT_iload_n hK rfl 1 rfl dX12_encode_131 ?_
                    refine iv_X12_342 hK (s_beBands_x 0 ((h 73) 3) ((h 73) 4) l w68_17 hT68_17 (by first | omega | (simp [up, setR] <;> omega)) (by first | omega | (simp [up, setR] <;> omega)) (by first | omega | (simp [up, setR] <;> omega)) (by first | omega | (simp [up, setR] <;> omega))) (by decide) rfl ⟨by decide, by decide⟩ (by decide) rfl rfl (Nat.le_of_ble_eq_true rfl) ⟨by decide, by decide⟩ dX12_encode_132 ?_
                    intro r9 g132_21 hp9
                    obtain ⟨⟨hT_21, hG_21⟩, hr9, q1_21, q2_21, q3_21⟩ := hp9
                    rw [hr9]
                    have hF_21 : FRM [73, 77, 78, 79, 80, 81, 82, 83, 84, 85, 86, 87, 88, 89, 90, 91, 92, 93, 94, 95, 96, 97, 98, 99, 100] [2, 18, 26, 27, 28, 29, 32, 33, 34, 36, 38, 39, 41, 42, 43] h g132_21 := FRM_tr hF68_17 hG_21 (by decide) (by decide)
                    have q1_at132 := q1_21
                    have q2_at132 := q2_21
                    have q3_at132 := q3_21
                    show TT K ly 0 0 135 [(0, vR 73), (1, vI l), (2, vI n), (3, vI lv)] [] g132_21
                    refine TT_aload_n hK rfl 0 rfl dX12_encode_135 ?_
                    refine TT_iconst hK dX12_encode_136 ?_
                    refine TT_iload_n hK rfl 1 rfl dX12_encode_137 ?_
                    refine TT_imul hK dX12_encode_138 ?_
                    refine TT_iconst hK dX12_encode_139 ?_
                    refine TT_iadd hK dX12_encode_140 ?_
                    refine pf_X12_345 hK (by decide) rfl dX12_encode_141 ?_
                    refine TT_hp (h' := setO g132_21 73 (fup (w68_17 73) 18 ((3 * l) + 1))) (up_can (hG_21.1 73 (by decide)) rfl rfl) ?_
                    have hT_22 : TY (setO g132_21 73 (fup (w68_17 73) 18 ((3 * l) + 1))) := tu_73_18 hT_21 (show up g132_21 73 18 ((3 * l) + 1) = (setO g132_21 73 (fup (w68_17 73) 18 ((3 * l) + 1))) from up_can (hG_21.1 73 (by decide)) rfl rfl) (by omega)
                    have hF_22 : FRM [73, 77, 78, 79, 80, 81, 82, 83, 84, 85, 86, 87, 88, 89, 90, 91, 92, 93, 94, 95, 96, 97, 98, 99, 100] [2, 18, 26, 27, 28, 29, 32, 33, 34, 36, 38, 39, 41, 42, 43] h (setO g132_21 73 (fup (w68_17 73) 18 ((3 * l) + 1))) := FRM_f (show up g132_21 73 18 ((3 * l) + 1) = (setO g132_21 73 (fup (w68_17 73) 18 ((3 * l) + 1))) from up_can (hG_21.1 73 (by decide)) rfl rfl) hF_21 (by decide) (by decide)
                    refine TT_iconst hK dX12_encode_144 ?_
                    refine TT_istore_n hK rfl (lv' := [(3, vI 0), (0, vR 73), (1, vI l), (2, vI n)]) (by decide) rfl dX12_encode_145 ?_
                    refine TT_iconst hK dX12_encode_146 ?_
                    refine TT_istore hK (lv' := [(4, vI 0), (3, vI 0), (0, vR 73), (1, vI l), (2, vI n)]) (by decide) rfl dX12_encode_147 ?_
                    have L149_23 : ∀ (k23 : Nat) (f : Int) (b : Int) (w149_23 : Hp_), TY w149_23 → FRM [73, 77, 78, 79, 80, 81, 82, 83, 84, 85, 86, 87, 88, 89, 90, 91, 92, 93, 94, 95, 96, 97, 98, 99, 100] [2, 18, 26, 27, 28, 29, 32, 33, 34, 36, 38, 39, 41, 42, 43] h w149_23 → (0 ≤ b ∧ b ≤ 3 * l + 1) → ((w149_23 73 18) = 3 * l + 1) → (∀ i : Int, 0 ≤ i → i < 64 → -4095 ≤ (w149_23 77) i ∧ (w149_23 77) i ≤ 4095) → (∀ j : Int, 0 ≤ j → j < 3 * l + 1 → (w149_23 80) j = BW (h 73 3) l j) → (∀ j : Int, 0 ≤ j → j < 3 * l + 1 → (w149_23 81) j = BH (h 73 4) l j) → (∀ j : Int, 0 ≤ j → j < 3 * l + 1 → (w149_23 86) j = 0) → (MIQ (w149_23 90) (w149_23 91)) → (LQ (w149_23 83) (w149_23 91) (w149_23 92) b) → (0 ≤ f ∧ f ≤ 48 * IS (AR (h 73 3) (h 73 4) l) b + 30 * b) → (f = IS (w149_23 91) b) → ((10 : Int) - b).toNat < k23 → TT K ly 0 0 149 [(0, vR 73), (1, vI l), (2, vI n), (3, vI f), (4, vI b)] [] w149_23 := by
                      intro k23
                      induction k23 with
                      | zero => intro f b w149_23 hT149_23 hF149_23 hb k18 hsq hbw hbh hbt hmi hlq hf hfs hk23; exact absurd hk23 (Nat.not_lt_zero _)
                      | succ k23 ih23 =>
                        intro f b w149_23 hT149_23 hF149_23 hb k18 hsq hbw hbh hbt hmi hlq hf hfs hk23
                        refine TT_iload hK 4 rfl dX12_encode_149 ?_
                        refine TT_aload_n hK rfl 0 rfl dX12_encode_151 ?_
                        refine gf_X12_345 hK (by decide) rfl (v := (w149_23 73) 18) rfl dX12_encode_152 ?_
                        have r24 := ty_73_18 (v := (w149_23 73) 18) hT149_23 rfl
                        refine TT_icmp_ge hK (tgt := 201) (irm (by omega) (by omega)) (irm (by omega) (by omega)) dX12_encode_155 (by decide) (fun hb155_25 => ?_) (fun hb155_25 => ?_)
                        · have gn := GT_nn (c := 3 * l + 1) hT149_23 (by omega)
                          have iaR := ARb (w := (h 73 3)) (e := (h 73 4)) (l := l) (c := b) (by omega) (by omega) (by omega) (by omega)
                          refine TT_aload_n hK rfl 0 rfl dX12_encode_201 ?_
                          refine gf_X12_96 hK (by decide) rfl (q := 100) rfl rfl dX12_encode_202 ?_
                          refine TT_iconst hK dX12_encode_205 ?_
                          refine TT_aload_n hK rfl 0 rfl dX12_encode_206 ?_
                          refine gf_X12_16 hK (by decide) rfl (v := (h 73) 3) (hF149_23.2 3 (by decide)) dX12_encode_207 ?_
                          have r26 := ty_73_3 (v := (h 73) 3) hT149_23 (hF149_23.2 3 (by decide))
                          refine TT_iast hK (o := 100) (n := 4700) (by decide) rfl (by omega) (by omega) dX12_encode_210 ?_
                          refine TT_hp (h' := setO w149_23 100 (fup (w149_23 100) 0 ((h 73) 3))) (up_can rfl rfl rfl) ?_
                          have hT_27 : TY (setO w149_23 100 (fup (w149_23 100) 0 ((h 73) 3))) := tu_100 hT149_23 (show up w149_23 100 0 ((h 73) 3) = (setO w149_23 100 (fup (w149_23 100) 0 ((h 73) 3))) from up_can rfl rfl rfl) (by omega)
                          have hF_27 : FRM [73, 77, 78, 79, 80, 81, 82, 83, 84, 85, 86, 87, 88, 89, 90, 91, 92, 93, 94, 95, 96, 97, 98, 99, 100] [2, 18, 26, 27, 28, 29, 32, 33, 34, 36, 38, 39, 41, 42, 43] h (setO w149_23 100 (fup (w149_23 100) 0 ((h 73) 3))) := FRM_up (show up w149_23 100 0 ((h 73) 3) = (setO w149_23 100 (fup (w149_23 100) 0 ((h 73) 3))) from up_can rfl rfl rfl) hF149_23 (by decide) (by decide)
                          refine TT_aload_n hK rfl 0 rfl dX12_encode_211 ?_
                          refine gf_X12_96 hK (by decide) rfl (q := 100) rfl rfl dX12_encode_212 ?_
                          refine TT_iconst hK dX12_encode_215 ?_
                          refine TT_aload_n hK rfl 0 rfl dX12_encode_216 ?_
                          refine gf_X12_20 hK (by decide) rfl (v := (h 73) 4) ((rd_ (sOf_ne _ _ (by decide)) rfl).trans (hF149_23.2 4 (by decide))) dX12_encode_217 ?_
                          have r28 := ty_73_4 (v := (h 73) 4) hT_27 ((rd_ (sOf_ne _ _ (by decide)) rfl).trans (hF149_23.2 4 (by decide)))
                          refine TT_iast hK (o := 100) (n := 4700) (by decide) rfl (by omega) (by omega) dX12_encode_220 ?_
                          refine TT_hp (h' := setO w149_23 100 (fup (fup (w149_23 100) 0 ((h 73) 3)) 1 ((h 73) 4))) (up_can (sOf_eq _ _ _) rfl (setO_same _ _ _ _)) ?_
                          have hT_29 : TY (setO w149_23 100 (fup (fup (w149_23 100) 0 ((h 73) 3)) 1 ((h 73) 4))) := tu_100 hT_27 (show up (setO w149_23 100 (fup (w149_23 100) 0 ((h 73) 3))) 100 1 ((h 73) 4) = (setO w149_23 100 (fup (fup (w149_23 100) 0 ((h 73) 3)) 1 ((h 73) 4))) from up_can (sOf_eq _ _ _) rfl (setO_same _ _ _ _)) (by omega)
                          have hF_29 : FRM [73, 77, 78, 79, 80, 81, 82, 83, 84, 85, 86, 87, 88, 89, 90, 91, 92, 93, 94, 95, 96, 97, 98, 99, 100] [2, 18, 26, 27, 28, 29, 32, 33, 34, 36, 38, 39, 41, 42, 43] h (setO w149_23 100 (fup (fup (w149_23 100) 0 ((h 73) 3)) 1 ((h 73) 4))) := FRM_up (show up (setO w149_23 100 (fup (w149_23 100) 0 ((h 73) 3))) 100 1 ((h 73) 4) = (setO w149_23 100 (fup (fup (w149_23 100) 0 ((h 73) 3)) 1 ((h 73) 4))) from up_can (sOf_eq _ _ _) rfl (setO_same _ _ _ _)) hF_27 (by decide) (by decide)
                          refine TT_aload_n hK rfl 0 rfl dX12_encode_221 ?_
                          refine gf_X12_96 hK (by decide) rfl (q := 100) rfl rfl dX12_encode_222 ?_
                          refine TT_iconst hK dX12_encode_225 ?_
                          refine TT_iload_n hK rfl 1 rfl dX12_encode_226 ?_
                          refine TT_iast hK (o := 100) (n := 4700) (by decide) rfl (by omega) (by omega) dX12_encode_227 ?_
                          refine TT_hp (h' := setO w149_23 100 (fup (fup (fup (w149_23 100) 0 ((h 73) 3)) 1 ((h 73) 4)) 2 l)) (up_can (sOf_eq _ _ _) rfl (setO_same _ _ _ _)) ?_
                          have hT_30 : TY (setO w149_23 100 (fup (fup (fup (w149_23 100) 0 ((h 73) 3)) 1 ((h 73) 4)) 2 l)) := tu_100 hT_29 (show up (setO w149_23 100 (fup (fup (w149_23 100) 0 ((h 73) 3)) 1 ((h 73) 4))) 100 2 l = (setO w149_23 100 (fup (fup (fup (w149_23 100) 0 ((h 73) 3)) 1 ((h 73) 4)) 2 l)) from up_can (sOf_eq _ _ _) rfl (setO_same _ _ _ _)) (by omega)
                          have hF_30 : FRM [73, 77, 78, 79, 80, 81, 82, 83, 84, 85, 86, 87, 88, 89, 90, 91, 92, 93, 94, 95, 96, 97, 98, 99, 100] [2, 18, 26, 27, 28, 29, 32, 33, 34, 36, 38, 39, 41, 42, 43] h (setO w149_23 100 (fup (fup (fup (w149_23 100) 0 ((h 73) 3)) 1 ((h 73) 4)) 2 l)) := FRM_up (show up (setO w149_23 100 (fup (fup (w149_23 100) 0 ((h 73) 3)) 1 ((h 73) 4))) 100 2 l = (setO w149_23 100 (fup (fup (fup (w149_23 100) 0 ((h 73) 3)) 1 ((h 73) 4)) 2 l)) from up_can (sOf_eq _ _ _) rfl (setO_same _ _ _ _)) hF_29 (by decide) (by decide)
                          refine TT_aload_n hK rfl 0 rfl dX12_encode_228 ?_
                          refine gf_X12_96 hK (by decide) rfl (q := 100) rfl rfl dX12_encode_229 ?_
                          refine TT_iconst hK dX12_encode_232 ?_
                          refine TT_iload_n hK rfl 2 rfl dX12_encode_233 ?_
                          refine TT_iast hK (o := 100) (n := 4700) (by decide) rfl (by omega) (by omega) dX12_encode_234 ?_
                          refine TT_hp (h' := setO w149_23 100 (fup (fup (fup (fup (w149_23 100) 0 ((h 73) 3)) 1 ((h 73) 4)) 2 l) 3 n)) (up_can (sOf_eq _ _ _) rfl (setO_same _ _ _ _)) ?_
                          have hT_31 : TY (setO w149_23 100 (fup (fup (fup (fup (w149_23 100) 0 ((h 73) 3)) 1 ((h 73) 4)) 2 l) 3 n)) := tu_100 hT_30 (show up (setO w149_23 100 (fup (fup (fup (w149_23 100) 0 ((h 73) 3)) 1 ((h 73) 4)) 2 l)) 100 3 n = (setO w149_23 100 (fup (fup (fup (fup (w149_23 100) 0 ((h 73) 3)) 1 ((h 73) 4)) 2 l) 3 n)) from up_can (sOf_eq _ _ _) rfl (setO_same _ _ _ _)) (by omega)
                          have hF_31 : FRM [73, 77, 78, 79, 80, 81, 82, 83, 84, 85, 86, 87, 88, 89, 90, 91, 92, 93, 94, 95, 96, 97, 98, 99, 100] [2, 18, 26, 27, 28, 29, 32, 33, 34, 36, 38, 39, 41, 42, 43] h (setO w149_23 100 (fup (fup (fup (fup (w149_23 100) 0 ((h 73) 3)) 1 ((h 73) 4)) 2 l) 3 n)) := FRM_up (show up (setO w149_23 100 (fup (fup (fup (w149_23 100) 0 ((h 73) 3)) 1 ((h 73) 4)) 2 l)) 100 3 n = (setO w149_23 100 (fup (fup (fup (fup (w149_23 100) 0 ((h 73) 3)) 1 ((h 73) 4)) 2 l) 3 n)) from up_can (sOf_eq _ _ _) rfl (setO_same _ _ _ _)) hF_30 (by decide) (by decide)
                          refine TT_aload_n hK rfl 0 rfl dX12_encode_235 ?_
                          refine TT_iconst hK dX12_encode_236 ?_
                          refine pf_X12_329 hK (by decide) rfl dX12_encode_237 ?_
                          refine TT_hp (h' := setO (setO w149_23 73 (fup (w149_23 73) 41 4)) 100 (fup (fup (fup (fup (w149_23 100) 0 ((h 73) 3)) 1 ((h 73) 4)) 2 l) 3 n)) (up_can (sOf_ne _ _ (by decide)) rfl ((setO_comm _ _ _ (by decide)).trans (setO_cg rfl rfl))) ?_
                          have hT_32 : TY (setO (setO w149_23 73 (fup (w149_23 73) 41 4)) 100 (fup (fup (fup (fup (w149_23 100) 0 ((h 73) 3)) 1 ((h 73) 4)) 2 l) 3 n)) := tu_73_41 hT_31 (show up (setO w149_23 100 (fup (fup (fup (fup (w149_23 100) 0 ((h 73) 3)) 1 ((h 73) 4)) 2 l) 3 n)) 73 41 4 = (setO (setO w149_23 73 (fup (w149_23 73) 41 4)) 100 (fup (fup (fup (fup (w149_23 100) 0 ((h 73) 3)) 1 ((h 73) 4)) 2 l) 3 n)) from up_can (sOf_ne _ _ (by decide)) rfl ((setO_comm _ _ _ (by decide)).trans (setO_cg rfl rfl))) (by omega)
                          have hF_32 : FRM [73, 77, 78, 79, 80, 81, 82, 83, 84, 85, 86, 87, 88, 89, 90, 91, 92, 93, 94, 95, 96, 97, 98, 99, 100] [2, 18, 26, 27, 28, 29, 32, 33, 34, 36, 38, 39, 41, 42, 43] h (setO (setO w149_23 73 (fup (w149_23 73) 41 4)) 100 (fup (fup (fup (fup (w149_23 100) 0 ((h 73) 3)) 1 ((h 73) 4)) 2 l) 3 n)) := FRM_f (show up (setO w149_23 100 (fup (fup (fup (fup (w149_23 100) 0 ((h 73) 3)) 1 ((h 73) 4)) 2 l) 3 n)) 73 41 4 = (setO (setO w149_23 73 (fup (w149_23 73) 41 4)) 100 (fup (fup (fup (fup (w149_23 100) 0 ((h 73) 3)) 1 ((h 73) 4)) 2 l) 3 n)) from up_can (sOf_ne _ _ (by decide)) rfl ((setO_comm _ _ _ (by decide)).trans (setO_cg rfl rfl))) hF_31 (by decide) (by decide)
                          refine TT_iconst hK dX12_encode_240 ?_
                          refine TT_istore hK (lv' := [(4, vI 1), (0, vR 73), (1, vI l), (2, vI n), (3, vI f)]) (by decide) rfl dX12_encode_241 ?_
                          have L243_33 : ∀ (k33 : Nat) (i : Int) (w243_33 : Hp_), TY w243_33 → FRM [73, 77, 78, 79, 80, 81, 82, 83, 84, 85, 86, 87, 88, 89, 90, 91, 92, 93, 94, 95, 96, 97, 98, 99, 100] [2, 18, 26, 27, 28, 29, 32, 33, 34, 36, 38, 39, 41, 42, 43] h w243_33 → (1 ≤ i ∧ i ≤ n + 1) → ((w243_33 73 18) = 3 * l + 1) → (MIQ (w243_33 90) (w243_33 91)) → (LQ (w243_33 83) (w243_33 91) (w243_33 92) (3 * l + 1)) → (IS (w243_33 91) (3 * l + 1) ≤ 3372) → (i ≤ n → TKQ (w243_33 86) (w243_33 83) i n (3 * l + 1)) → ((w243_33 73 41) ≤ 4 + 19 * (4 * (i - 1)) + IS (GT (w243_33 92) (w243_33 86)) (3 * l + 1)) → ((4 : Int) - i).toNat < k33 → TT K ly 0 0 243 [(0, vR 73), (1, vI l), (2, vI n), (4, vI i)] [] w243_33 := by
                            intro k33
                            induction k33 with
                            | zero => intro i w243_33 hT243_33 hF243_33 hi k18 hmi hlq hws htk hln hk33; exact absurd hk33 (Nat.not_lt_zero _)
                            | succ k33 ih33 =>
                              intro i w243_33 hT243_33 hF243_33 hi k18 hmi hlq hws htk hln hk33
                              refine TT_iload hK 3 rfl dX12_encode_243 ?_
                              refine TT_iload_n hK rfl 2 rfl dX12_encode_245 ?_
                              refine TT_icmp_gt hK (tgt := 279) (irm (by omega) (by omega)) (irm (by omega) (by omega)) dX12_encode_246 (by decide) (fun hb246_34 => ?_) (fun hb246_34 => ?_)
                              · refine TT_aload_n hK rfl 0 rfl dX12_encode_279 ?_
                                refine gf_X12_329 hK (by decide) rfl (v := (w243_33 73) 41) rfl dX12_encode_280 ?_
                                have r35 := ty_73_41 (v := (w243_33 73) 41) hT243_33 rfl
                                refine TT_iret hK hQ ?_ dX12_encode_283
                                exact ⟨⟨hT243_33, hF243_33⟩, ((w243_33 73) 41), rfl, (by omega), (by exact hmi)⟩
                              · refine TT_iconst hK dX12_encode_249 ?_
                                refine TT_istore hK (lv' := [(5, vI 0), (0, vR 73), (1, vI l), (2, vI n), (4, vI i)]) (by decide) rfl dX12_encode_250 ?_
                                have L252_36 : ∀ (k36 : Nat) (r : Int) (w252_36 : Hp_), TY w252_36 → FRM [73, 77, 78, 79, 80, 81, 82, 83, 84, 85, 86, 87, 88, 89, 90, 91, 92, 93, 94, 95, 96, 97, 98, 99, 100] [2, 18, 26, 27, 28, 29, 32, 33, 34, 36, 38, 39, 41, 42, 43] h w252_36 → (0 ≤ r ∧ r ≤ l + 1) → ((w252_36 73 18) = 3 * l + 1) → (MIQ (w252_36 90) (w252_36 91)) → (LQ (w252_36 83) (w252_36 91) (w252_36 92) (3 * l + 1)) → (IS (w252_36 91) (3 * l + 1) ≤ 3372) → (TKQ (w252_36 86) (w252_36 83) i n (3 * l + 1)) → ((w252_36 73 41) ≤ 4 + 19 * (4 * (i - 1) + r) + IS (GT (w252_36 92) (w252_36 86)) (3 * l + 1)) → ((4 : Int) - r).toNat < k36 → TT K ly 0 0 252 [(0, vR 73), (1, vI l), (2, vI n), (4, vI i), (5, vI r)] [] w252_36 := by
                                  intro k36
                                  induction k36 with
                                  | zero => intro r w252_36 hT252_36 hF252_36 hr k18 hmi hlq hws htk2 hln hk36; exact absurd hk36 (Nat.not_lt_zero _)
                                  | succ k36 ih36 =>
                                    intro r w252_36 hT252_36 hF252_36 hr k18 hmi hlq hws htk2 hln hk36
                                    refine TT_iload hK 4 rfl dX12_encode_252 ?_
                                    refine TT_iload_n hK rfl 1 rfl dX12_encode_254 ?_
                                    refine TT_icmp_gt hK (tgt := 273) (irm (by omega) (by omega)) (irm (by omega) (by omega)) dX12_encode_255 (by decide) (fun hb255_37 => ?_) (fun hb255_37 => ?_)
                                    · refine TT_iinc hK (v := i + 1) (lv' := [(4, vI (i + 1)), (0, vR 73), (1, vI l), (2, vI n), (5, vI r)]) 3 rfl rfl (by decide) rfl dX12_encode_273 ?_
                                      refine TT_goto hK (tgt := 243) dX12_encode_276 (by decide) ?_
                                      refine TT_sub [1, 2, 3, 0] rfl ?_
                                      have e38_73_18 : w252_36 73 18 = (w252_36 73) 18 := rfl
                                      have e39_73_41 : w252_36 73 41 = (w252_36 73) 41 := rfl
                                      exact ih33 (i + 1) w252_36 hT252_36 hF252_36 (by first | omega | (simp [up, setR] <;> omega)) (by rewrite [e38_73_18]; first | omega | (simp [up, setR] <;> omega)) (by exact hmi) (by exact hlq) (by exact hws) (by intro h1; exact TKQ_m htk2 (fun j h2 h3 => (ty_83 (i := j) (v := w252_36 83 j) hT252_36 rfl h2 (by omega)).1.1) (by omega) (by omega)) (by rewrite [e39_73_41]; first | omega | (simp [up, setR] <;> omega)) (by first | omega | (simp [up, setR] <;> omega))
                                    · refine TT_aload_n hK rfl 0 rfl dX12_encode_258 ?_
                                      refine TT_iload hK 4 rfl dX12_encode_259 ?_
                                      refine TT_iload hK 3 rfl dX12_encode_261 ?_
                                      refine TT_iload_n hK rfl 2 rfl dX12_encode_263 ?_
                                      have e40_73_18 : w252_36 73 18 = (w252_36 73) 18 := rfl
                                      have e41_73_18 : w252_36 73 18 = (w252_36 73) 18 := rfl
                                      have e42_73_18 : w252_36 73 18 = (w252_36 73) 18 := rfl
                                      have e43_73_18 : w252_36 73 18 = (w252_36 73) 18 := rfl
                                      have e44_73_41 : w252_36 73 41 = (w252_36 73) 41 := rfl
                                      refine iv_X12_358 hK (s_X12_putPacket_73 r i n w252_36 hT252_36 (by first | omega | (simp [up, setR] <;> omega)) (by rewrite [e40_73_18]; rw [k18]; omega) (by first | omega | (simp [up, setR] <;> omega)) (by first | omega | (simp [up, setR] <;> omega)) (by rewrite [e41_73_18]; rw [k18]; exact hlq) (by first | assumption | exact hmi) (by rewrite [e42_73_18]; rw [k18]; exact htk2) (by rewrite [e43_73_18, e44_73_41]; rw [k18]; omega)) (by decide) rfl ⟨by decide, by decide⟩ (by decide) rfl rfl (Nat.le_of_ble_eq_true rfl) ⟨by decide, by decide⟩ dX12_encode_264 ?_
                                      intro r9 g264_45 hp9
                                      obtain ⟨⟨hT_45, hG_45⟩, hr9, q1_45, q2_45⟩ := hp9
                                      rw [hr9]
                                      have hF_45 : FRM [73, 77, 78, 79, 80, 81, 82, 83, 84, 85, 86, 87, 88, 89, 90, 91, 92, 93, 94, 95, 96, 97, 98, 99, 100] [2, 18, 26, 27, 28, 29, 32, 33, 34, 36, 38, 39, 41, 42, 43] h g264_45 := FRM_tr hF252_36 hG_45 (by decide) (by decide)
                                      rw [show w252_36 73 18 = (w252_36 73) 18 from rfl] at q1_45
                                      rw [show w252_36 73 41 = (w252_36 73) 41 from rfl] at q1_45
                                      rw [show w252_36 73 18 = (w252_36 73) 18 from rfl] at q2_45
                                      have q1_at264 := q1_45
                                      have q2_at264 := q2_45
                                      show TT K ly 0 0 267 [(0, vR 73), (1, vI l), (2, vI n), (4, vI i), (5, vI r)] [] g264_45
                                      refine TT_iinc hK (v := r + 1) (lv' := [(5, vI (r + 1)), (0, vR 73), (1, vI l), (2, vI n), (4, vI i)]) 4 rfl rfl (by decide) rfl dX12_encode_267 ?_
                                      refine TT_goto hK (tgt := 252) dX12_encode_270 (by decide) ?_
                                      refine TT_sub [1, 2, 3, 4, 0] rfl ?_
                                      have e46_73_18 : g264_45 73 18 = (w252_36 73) 18 := (hG_45.2 18 (by decide))
                                      have e47_90 : g264_45 90 = w252_36 90 := (hG_45.1 90 (by decide))
                                      have e48_91 : g264_45 91 = w252_36 91 := (hG_45.1 91 (by decide))
                                      have e49_83 : g264_45 83 = w252_36 83 := (hG_45.1 83 (by decide))
                                      have e50_91 : g264_45 91 = w252_36 91 := (hG_45.1 91 (by decide))
                                      have e51_92 : g264_45 92 = w252_36 92 := (hG_45.1 92 (by decide))
                                      have e52_91 : g264_45 91 = w252_36 91 := (hG_45.1 91 (by decide))
                                      have e53_83 : g264_45 83 = w252_36 83 := (hG_45.1 83 (by decide))
                                      have e54_73_41 : g264_45 73 41 = (g264_45 73) 41 := rfl
                                      have e55_92 : g264_45 92 = w252_36 92 := (hG_45.1 92 (by decide))
                                      rw [k18] at q1_at264 q2_at264
                                      exact ih36 (r + 1) g264_45 hT_45 hF_45 (by first | omega | (simp [up, setR] <;> omega)) (by rewrite [e46_73_18]; first | omega | (simp [up, setR] <;> omega)) (by rewrite [e47_90, e48_91]; exact hmi) (by rewrite [e49_83, e50_91, e51_92]; exact hlq) (by rewrite [e52_91]; exact hws) (by rewrite [e53_83]; exact q2_at264) (by rewrite [e54_73_41, e55_92]; first | omega | (simp [up, setR] <;> omega)) (by first | omega | (simp [up, setR] <;> omega))
                                refine TT_sub [1, 2, 3, 4, 0] rfl ?_
                                have e56_73_18 : w243_33 73 18 = (w243_33 73) 18 := rfl
                                have e57_73_41 : w243_33 73 41 = (w243_33 73) 41 := rfl
                                exact L252_36 ((((4 : Int) - 0).toNat) + 1) 0 w243_33 hT243_33 hF243_33 (by first | omega | (simp [up, setR] <;> omega)) (by rewrite [e56_73_18]; first | omega | (simp [up, setR] <;> omega)) (by exact hmi) (by exact hlq) (by exact hws) (by exact htk (by omega)) (by rewrite [e57_73_41]; first | omega | (simp [up, setR] <;> omega)) (Nat.lt_succ_self _)
                          refine TT_sub [1, 2, 3, 0] rfl ?_
                          have e58_73_18 : (setO (setO w149_23 73 (fup (w149_23 73) 41 4)) 100 (fup (fup (fup (fup (w149_23 100) 0 ((h 73) 3)) 1 ((h 73) 4)) 2 l) 3 n)) 73 18 = (w149_23 73) 18 := rd_ ((sOf_ne _ _ (by decide)).trans (sOf_eq _ _ _)) (fup_ne _ _ (by decide))
                          have e59_90 : (setO (setO w149_23 73 (fup (w149_23 73) 41 4)) 100 (fup (fup (fup (fup (w149_23 100) 0 ((h 73) 3)) 1 ((h 73) 4)) 2 l) 3 n)) 90 = w149_23 90 := (sOf_ne _ _ (by decide)).trans (sOf_ne _ _ (by decide))
                          have e60_91 : (setO (setO w149_23 73 (fup (w149_23 73) 41 4)) 100 (fup (fup (fup (fup (w149_23 100) 0 ((h 73) 3)) 1 ((h 73) 4)) 2 l) 3 n)) 91 = w149_23 91 := (sOf_ne _ _ (by decide)).trans (sOf_ne _ _ (by decide))
                          have e61_83 : (setO (setO w149_23 73 (fup (w149_23 73) 41 4)) 100 (fup (fup (fup (fup (w149_23 100) 0 ((h 73) 3)) 1 ((h 73) 4)) 2 l) 3 n)) 83 = w149_23 83 := (sOf_ne _ _ (by decide)).trans (sOf_ne _ _ (by decide))
                          have e62_91 : (setO (setO w149_23 73 (fup (w149_23 73) 41 4)) 100 (fup (fup (fup (fup (w149_23 100) 0 ((h 73) 3)) 1 ((h 73) 4)) 2 l) 3 n)) 91 = w149_23 91 := (sOf_ne _ _ (by decide)).trans (sOf_ne _ _ (by decide))
                          have e63_92 : (setO (setO w149_23 73 (fup (w149_23 73) 41 4)) 100 (fup (fup (fup (fup (w149_23 100) 0 ((h 73) 3)) 1 ((h 73) 4)) 2 l) 3 n)) 92 = w149_23 92 := (sOf_ne _ _ (by decide)).trans (sOf_ne _ _ (by decide))
                          have e64_91 : (setO (setO w149_23 73 (fup (w149_23 73) 41 4)) 100 (fup (fup (fup (fup (w149_23 100) 0 ((h 73) 3)) 1 ((h 73) 4)) 2 l) 3 n)) 91 = w149_23 91 := (sOf_ne _ _ (by decide)).trans (sOf_ne _ _ (by decide))
                          have e65_83 : (setO (setO w149_23 73 (fup (w149_23 73) 41 4)) 100 (fup (fup (fup (fup (w149_23 100) 0 ((h 73) 3)) 1 ((h 73) 4)) 2 l) 3 n)) 83 = w149_23 83 := (sOf_ne _ _ (by decide)).trans (sOf_ne _ _ (by decide))
                          have e66_86 : (setO (setO w149_23 73 (fup (w149_23 73) 41 4)) 100 (fup (fup (fup (fup (w149_23 100) 0 ((h 73) 3)) 1 ((h 73) 4)) 2 l) 3 n)) 86 = w149_23 86 := (sOf_ne _ _ (by decide)).trans (sOf_ne _ _ (by decide))
                          have e67_73_41 : (setO (setO w149_23 73 (fup (w149_23 73) 41 4)) 100 (fup (fup (fup (fup (w149_23 100) 0 ((h 73) 3)) 1 ((h 73) 4)) 2 l) 3 n)) 73 41 = 4 := rd_ ((sOf_ne _ _ (by decide)).trans (sOf_eq _ _ _)) (fup_eq _ _ _)
                          have e68_86 : (setO (setO w149_23 73 (fup (w149_23 73) 41 4)) 100 (fup (fup (fup (fup (w149_23 100) 0 ((h 73) 3)) 1 ((h 73) 4)) 2 l) 3 n)) 86 = w149_23 86 := (sOf_ne _ _ (by decide)).trans (sOf_ne _ _ (by decide))
                          have e69_92 : (setO (setO w149_23 73 (fup (w149_23 73) 41 4)) 100 (fup (fup (fup (fup (w149_23 100) 0 ((h 73) 3)) 1 ((h 73) 4)) 2 l) 3 n)) 92 = w149_23 92 := (sOf_ne _ _ (by decide)).trans (sOf_ne _ _ (by decide))
                          exact L243_33 ((((4 : Int) - 1).toNat) + 1) 1 (setO (setO w149_23 73 (fup (w149_23 73) 41 4)) 100 (fup (fup (fup (fup (w149_23 100) 0 ((h 73) 3)) 1 ((h 73) 4)) 2 l) 3 n)) hT_32 hF_32 (by first | omega | (simp [up, setR] <;> omega)) (by rewrite [e58_73_18]; first | omega | (simp [up, setR] <;> omega)) (by rewrite [e59_90, e60_91]; exact hmi) (by rewrite [e61_83, e62_91, e63_92]; rw [show 3 * l + 1 = b by omega]; exact hlq) (by rewrite [e64_91]; rw [show 3 * l + 1 = b by omega]; omega) (by rewrite [e65_83, e66_86]; intro h1; exact TKQ_0 (fun j h2 h3 => hbt j h2 h3) (fun j h2 h3 => (ty_83 (i := j) (v := w149_23 83 j) hT_32 rfl h2 (by omega)).1.1) (by omega)) (by rewrite [e67_73_41, e68_86, e69_92]; first | omega | (simp [up, setR] <;> omega)) (Nat.lt_succ_self _)
                        · have ia : IS (AR (h 73 3) (h 73 4) l) (b + 1) = IS (AR (h 73 3) (h 73 4) l) b + BW (h 73 3) l b * BH (h 73 4) l b := IS_s (by omega)
                          have iaR := ARb (w := (h 73 3)) (e := (h 73 4)) (l := l) (c := b + 1) (by omega) (by omega) (by omega) (by omega)
                          refine TT_aload_n hK rfl 0 rfl dX12_encode_158 ?_
                          refine TT_iload hK 4 rfl dX12_encode_159 ?_
                          refine TT_iload hK 4 rfl dX12_encode_161 ?_
                          refine TT_aload_n hK rfl 0 rfl dX12_encode_163 ?_
                          refine gf_X12_16 hK (by decide) rfl (v := (h 73) 3) (hF149_23.2 3 (by decide)) dX12_encode_164 ?_
                          have r70 := ty_73_3 (v := (h 73) 3) hT149_23 (hF149_23.2 3 (by decide))
                          refine TT_aload_n hK rfl 0 rfl dX12_encode_167 ?_
                          refine gf_X12_20 hK (by decide) rfl (v := (h 73) 4) (hF149_23.2 4 (by decide)) dX12_encode_168 ?_
                          have r71 := ty_73_4 (v := (h 73) 4) hT149_23 (hF149_23.2 4 (by decide))
                          refine TT_iload_n hK rfl 1 rfl dX12_encode_171 ?_
                          refine iv_X12_348 hK (s_corner_x b ((h 73) 3) ((h 73) 4) l w149_23 hT149_23 (by first | omega | (simp [up, setR] <;> omega)) (by first | omega | (simp [up, setR] <;> omega)) (by first | omega | (simp [up, setR] <;> omega)) (by first | omega | (simp [up, setR] <;> omega))) ⟨by decide, by decide⟩ (by decide) rfl rfl (Nat.le_of_ble_eq_true rfl) ⟨by decide, by decide⟩ dX12_encode_172 ?_
                          intro r9 g172_72 hp9
                          obtain ⟨⟨hT_72, hG_72⟩, z172_72, hr9, hz_72, p1_72⟩ := hp9
                          rw [hr9]
                          have hF_72 : FRM [73, 77, 78, 79, 80, 81, 82, 83, 84, 85, 86, 87, 88, 89, 90, 91, 92, 93, 94, 95, 96, 97, 98, 99, 100] [2, 18, 26, 27, 28, 29, 32, 33, 34, 36, 38, 39, 41, 42, 43] h g172_72 := FRM_tr hF149_23 hG_72 (by decide) (by decide)
                          have p1_at172 := p1_72
                          show TT K ly 0 0 175 [(0, vR 73), (1, vI l), (2, vI n), (3, vI f), (4, vI b)] [vI z172_72, vI b, vR 73] g172_72
                          have e73_80 : g172_72 80 = w149_23 80 := (hG_72.1 80 (by decide))
                          have e74_81 : g172_72 81 = w149_23 81 := (hG_72.1 81 (by decide))
                          have e75_77 : g172_72 77 = w149_23 77 := (hG_72.1 77 (by decide))
                          refine iv_X12_352 hK (s_X12_loadBand_73 b z172_72 g172_72 hT_72 (by first | omega | (simp [up, setR] <;> omega)) (by rewrite [e73_80, e74_81]; rw [hbw b (by omega) (by omega), hbh b (by omega) (by omega)]; exact p1_at172) (by rewrite [e75_77]; exact hsq)) (by decide) rfl ⟨by decide, by decide⟩ (by decide) rfl rfl (Nat.le_of_ble_eq_true rfl) ⟨by decide, by decide⟩ dX12_encode_175 ?_
                          intro r9 g175_76 hp9
                          obtain ⟨⟨hT_76, hG_76⟩, hr9⟩ := hp9
                          rw [hr9]
                          have hF_76 : FRM [73, 77, 78, 79, 80, 81, 82, 83, 84, 85, 86, 87, 88, 89, 90, 91, 92, 93, 94, 95, 96, 97, 98, 99, 100] [2, 18, 26, 27, 28, 29, 32, 33, 34, 36, 38, 39, 41, 42, 43] h g175_76 := FRM_tr hF_72 hG_76 (by decide) (by decide)
                          show TT K ly 0 0 178 [(0, vR 73), (1, vI l), (2, vI n), (3, vI f), (4, vI b)] [] g175_76
                          refine TT_aload_n hK rfl 0 rfl dX12_encode_178 ?_
                          refine TT_iload hK 4 rfl dX12_encode_179 ?_
                          refine TT_iload_n hK rfl 3 rfl dX12_encode_181 ?_
                          have e77_80 : g175_76 80 = w149_23 80 := ((hG_76.1 80 (by decide))).trans (hG_72.1 80 (by decide))
                          have e78_81 : g175_76 81 = w149_23 81 := ((hG_76.1 81 (by decide))).trans (hG_72.1 81 (by decide))
                          have e79_74 : g175_76 74 = h 74 := ((hG_76.1 74 (by decide))).trans (((hG_72.1 74 (by decide))).trans (hF149_23.1 74 (by decide)))
                          have e80_75 : g175_76 75 = h 75 := ((hG_76.1 75 (by decide))).trans (((hG_72.1 75 (by decide))).trans (hF149_23.1 75 (by decide)))
                          have e81_90 : g175_76 90 = w149_23 90 := ((hG_76.1 90 (by decide))).trans (hG_72.1 90 (by decide))
                          have e82_91 : g175_76 91 = w149_23 91 := ((hG_76.1 91 (by decide))).trans (hG_72.1 91 (by decide))
                          have e83_83 : g175_76 83 = w149_23 83 := ((hG_76.1 83 (by decide))).trans (hG_72.1 83 (by decide))
                          have e84_91 : g175_76 91 = w149_23 91 := ((hG_76.1 91 (by decide))).trans (hG_72.1 91 (by decide))
                          have e85_92 : g175_76 92 = w149_23 92 := ((hG_76.1 92 (by decide))).trans (hG_72.1 92 (by decide))
                          refine iv_X12_355 hK (s_X12_tellBand_73 b f g175_76 hT_76 (by first | omega | (simp [up, setR] <;> omega)) (by rewrite [e77_80, e78_81]; rw [hbw b (by omega) (by omega), hbh b (by omega) (by omega)]; omega) (by rewrite [e79_74, e80_75]; first | assumption | exact htb) (by rewrite [e81_90, e82_91]; first | assumption | exact hmi) (by rewrite [e83_83, e84_91, e85_92]; first | assumption | exact hlq)) (by decide) rfl ⟨by decide, by decide⟩ (by decide) rfl rfl (Nat.le_of_ble_eq_true rfl) ⟨by decide, by decide⟩ dX12_encode_182 ?_
                          intro r9 g182_86 hp9
                          obtain ⟨⟨hT_86, hG_86⟩, hr9, q1_86, q2_86, q3_86, q4_86⟩ := hp9
                          rw [hr9]
                          have hF_86 : FRM [73, 77, 78, 79, 80, 81, 82, 83, 84, 85, 86, 87, 88, 89, 90, 91, 92, 93, 94, 95, 96, 97, 98, 99, 100] [2, 18, 26, 27, 28, 29, 32, 33, 34, 36, 38, 39, 41, 42, 43] h g182_86 := FRM_tr hF_76 hG_86 (by decide) (by decide)
                          rw [show g175_76 80 = w149_23 80 from ((hG_76.1 80 (by decide))).trans (hG_72.1 80 (by decide))] at q1_86
                          rw [show g175_76 81 = w149_23 81 from ((hG_76.1 81 (by decide))).trans (hG_72.1 81 (by decide))] at q1_86
                          rw [show g175_76 91 = w149_23 91 from ((hG_76.1 91 (by decide))).trans (hG_72.1 91 (by decide))] at q4_86
                          have q1_at182 := q1_86
                          have q2_at182 := q2_86
                          have q3_at182 := q3_86
                          have q4_at182 := q4_86
                          show TT K ly 0 0 185 [(0, vR 73), (1, vI l), (2, vI n), (3, vI f), (4, vI b)] [] g182_86
                          refine TT_iload_n hK rfl 3 rfl dX12_encode_185 ?_
                          refine TT_aload_n hK rfl 0 rfl dX12_encode_186 ?_
                          refine gf_X12_69 hK (by decide) rfl (q := 91) rfl rfl dX12_encode_187 ?_
                          refine TT_iload hK 4 rfl dX12_encode_190 ?_
                          refine TT_iald hK (o := 91) (n := 10) (by decide) rfl (by first | omega | (simp [up, setR] <;> omega)) (by first | omega | (simp [up, setR] <;> omega)) (v := (g182_86 91) b) rfl dX12_encode_192 ?_
                          have r87 := ty_91 (i := b) (v := (g182_86 91) b) hT_86 rfl (by omega) (by omega)
                          refine TT_iadd hK dX12_encode_193 ?_
                          refine TT_istore_n hK rfl (lv' := [(3, vI (f + ((g182_86 91) b))), (0, vR 73), (1, vI l), (2, vI n), (4, vI b)]) (by decide) rfl dX12_encode_194 ?_
                          refine TT_iinc hK (v := b + 1) (lv' := [(4, vI (b + 1)), (3, vI (f + ((g182_86 91) b))), (0, vR 73), (1, vI l), (2, vI n)]) 4 rfl rfl (by decide) rfl dX12_encode_195 ?_
                          refine TT_goto hK (tgt := 149) dX12_encode_198 (by decide) ?_
                          refine TT_sub [2, 3, 4, 1, 0] rfl ?_
                          have e88_73_18 : g182_86 73 18 = (w149_23 73) 18 := ((hG_86.2 18 (by decide))).trans ((congrFun (hG_76.1 73 (by decide)) 18).trans (congrFun (hG_72.1 73 (by decide)) 18))
                          have e89_77 : g182_86 77 = w149_23 77 := ((hG_86.1 77 (by decide))).trans (((hG_76.1 77 (by decide))).trans (hG_72.1 77 (by decide)))
                          have e90_80 : g182_86 80 = w149_23 80 := ((hG_86.1 80 (by decide))).trans (((hG_76.1 80 (by decide))).trans (hG_72.1 80 (by decide)))
                          have e91_81 : g182_86 81 = w149_23 81 := ((hG_86.1 81 (by decide))).trans (((hG_76.1 81 (by decide))).trans (hG_72.1 81 (by decide)))
                          have e92_86 : g182_86 86 = w149_23 86 := ((hG_86.1 86 (by decide))).trans (((hG_76.1 86 (by decide))).trans (hG_72.1 86 (by decide)))
                          have ib : IS (g182_86 91) (b + 1) = IS (g182_86 91) b + (g182_86 91) b := IS_s (by omega)
                          have ic := IS_eq (f := g182_86 91) (c := b) (fun k h1 h2 => q4_at182 k (by omega))
                          rw [hbw b (by omega) (by omega), hbh b (by omega) (by omega)] at q1_at182
                          exact ih23 (f + ((g182_86 91) b)) (b + 1) g182_86 hT_86 hF_86 (by first | omega | (simp [up, setR] <;> omega)) (by rewrite [e88_73_18]; first | omega | (simp [up, setR] <;> omega)) (by rewrite [e89_77]; exact hsq) (by rewrite [e90_80]; exact hbw) (by rewrite [e91_81]; exact hbh) (by rewrite [e92_86]; exact hbt) (by exact q2_at182) (by exact q3_at182) (by first | omega | (simp [up, setR] <;> omega)) (by omega) (by first | omega | (simp [up, setR] <;> omega))
                    refine TT_sub [2, 3, 4, 1, 0] rfl ?_
                    have e93_73_18 : (setO g132_21 73 (fup (w68_17 73) 18 ((3 * l) + 1))) 73 18 = (3 * l) + 1 := rd_ (sOf_eq _ _ _) (fup_eq _ _ _)
                    have e94_77 : (setO g132_21 73 (fup (w68_17 73) 18 ((3 * l) + 1))) 77 = w68_17 77 := (sOf_ne _ _ (by decide)).trans (hG_21.1 77 (by decide))
                    have e95_80 : (setO g132_21 73 (fup (w68_17 73) 18 ((3 * l) + 1))) 80 = g132_21 80 := sOf_ne _ _ (by decide)
                    have e96_81 : (setO g132_21 73 (fup (w68_17 73) 18 ((3 * l) + 1))) 81 = g132_21 81 := sOf_ne _ _ (by decide)
                    have e97_86 : (setO g132_21 73 (fup (w68_17 73) 18 ((3 * l) + 1))) 86 = g132_21 86 := sOf_ne _ _ (by decide)
                    have e98_90 : (setO g132_21 73 (fup (w68_17 73) 18 ((3 * l) + 1))) 90 = w68_17 90 := (sOf_ne _ _ (by decide)).trans (hG_21.1 90 (by decide))
                    have e99_91 : (setO g132_21 73 (fup (w68_17 73) 18 ((3 * l) + 1))) 91 = w68_17 91 := (sOf_ne _ _ (by decide)).trans (hG_21.1 91 (by decide))
                    have e100_83 : (setO g132_21 73 (fup (w68_17 73) 18 ((3 * l) + 1))) 83 = g132_21 83 := sOf_ne _ _ (by decide)
                    have e101_91 : (setO g132_21 73 (fup (w68_17 73) 18 ((3 * l) + 1))) 91 = w68_17 91 := (sOf_ne _ _ (by decide)).trans (hG_21.1 91 (by decide))
                    have e102_92 : (setO g132_21 73 (fup (w68_17 73) 18 ((3 * l) + 1))) 92 = w68_17 92 := (sOf_ne _ _ (by decide)).trans (hG_21.1 92 (by decide))
                    have e103_91 : (setO g132_21 73 (fup (w68_17 73) 18 ((3 * l) + 1))) 91 = w68_17 91 := (sOf_ne _ _ (by decide)).trans (hG_21.1 91 (by decide))
                    have i0 : IS (AR (h 73 3) (h 73 4) l) 0 = 0 := rfl
                    exact L149_23 ((((10 : Int) - 0).toNat) + 1) 0 0 (setO g132_21 73 (fup (w68_17 73) 18 ((3 * l) + 1))) hT_22 hF_22 (by first | omega | (simp [up, setR] <;> omega)) (by rewrite [e93_73_18]; first | omega | (simp [up, setR] <;> omega)) (by rewrite [e94_77]; intro i h1 h2; exact (hLV i h1 h2).1) (by rewrite [e95_80]; intro j h1 h2; have k9 := q1_at132 j h1 h2; rw [Int.zero_add] at k9; exact k9) (by rewrite [e96_81]; intro j h1 h2; have k9 := q2_at132 j h1 h2; rw [Int.zero_add] at k9; exact k9) (by rewrite [e97_86]; intro j h1 h2; have k9 := q3_at132 j h1 h2; rw [Int.zero_add] at k9; exact k9) (by rewrite [e98_90, e99_91]; exact hmi) (by rewrite [e100_83, e101_91, e102_92]; intro j h1 h2; exfalso; omega) (by first | omega | (simp [up, setR] <;> omega)) (by rewrite [e103_91]; exact rfl) (Nat.lt_succ_self _)
                  · refine TT_aload_n hK rfl 0 rfl dX12_encode_73 ?_
                    refine TT_aload_n hK rfl 0 rfl dX12_encode_74 ?_
                    refine gf_X12_16 hK (by decide) rfl (v := (h 73) 3) (hF68_17.2 3 (by decide)) dX12_encode_75 ?_
                    have r104 := ty_73_3 (v := (h 73) 3) hT68_17 (hF68_17.2 3 (by decide))
                    refine TT_iload_n hK rfl 3 rfl dX12_encode_78 ?_
                    refine iv_X12_153 hK (s_left_x ((h 73) 3) lv w68_17 hT68_17 (by first | omega | (simp [up, setR] <;> omega)) (by first | omega | (simp [up, setR] <;> omega))) ⟨by decide, by decide⟩ (by decide) rfl rfl (Nat.le_of_ble_eq_true rfl) ⟨by decide, by decide⟩ dX12_encode_79 ?_
                    intro r9 g79_105 hp9
                    obtain ⟨⟨hT_105, hG_105⟩, z79_105, hr9, hz_105, p1_105⟩ := hp9
                    rw [hr9]
                    have hF_105 : FRM [73, 77, 78, 79, 80, 81, 82, 83, 84, 85, 86, 87, 88, 89, 90, 91, 92, 93, 94, 95, 96, 97, 98, 99, 100] [2, 18, 26, 27, 28, 29, 32, 33, 34, 36, 38, 39, 41, 42, 43] h g79_105 := FRM_tr hF68_17 hG_105 (by decide) (by decide)
                    have p1_at79 := p1_105
                    show TT K ly 0 0 82 [(0, vR 73), (1, vI l), (2, vI n), (3, vI lv)] [vI z79_105, vR 73] g79_105
                    refine TT_aload_n hK rfl 0 rfl dX12_encode_82 ?_
                    refine gf_X12_20 hK (by decide) rfl (v := (h 73) 4) ((congrFun (hG_105.1 73 (by decide)) 4).trans (hF68_17.2 4 (by decide))) dX12_encode_83 ?_
                    have r106 := ty_73_4 (v := (h 73) 4) hT_105 ((congrFun (hG_105.1 73 (by decide)) 4).trans (hF68_17.2 4 (by decide)))
                    refine TT_iload_n hK rfl 3 rfl dX12_encode_86 ?_
                    refine iv_X12_153 hK (s_left_x ((h 73) 4) lv g79_105 hT_105 (by first | omega | (simp [up, setR] <;> omega)) (by first | omega | (simp [up, setR] <;> omega))) ⟨by decide, by decide⟩ (by decide) rfl rfl (Nat.le_of_ble_eq_true rfl) ⟨by decide, by decide⟩ dX12_encode_87 ?_
                    intro r9 g87_107 hp9
                    obtain ⟨⟨hT_107, hG_107⟩, z87_107, hr9, hz_107, p1_107⟩ := hp9
                    rw [hr9]
                    have hF_107 : FRM [73, 77, 78, 79, 80, 81, 82, 83, 84, 85, 86, 87, 88, 89, 90, 91, 92, 93, 94, 95, 96, 97, 98, 99, 100] [2, 18, 26, 27, 28, 29, 32, 33, 34, 36, 38, 39, 41, 42, 43] h g87_107 := FRM_tr hF_105 hG_107 (by decide) (by decide)
                    have p1_at87 := p1_107
                    show TT K ly 0 0 90 [(0, vR 73), (1, vI l), (2, vI n), (3, vI lv)] [vI z87_107, vI z79_105, vR 73] g87_107
                    refine TT_iconst hK dX12_encode_90 ?_
                    have e108_77 : g87_107 77 = w68_17 77 := ((hG_107.1 77 (by decide))).trans (hG_105.1 77 (by decide))
                    refine iv_X12_335 hK (s_columnsx z79_105 z87_107 g87_107 hT_107 (by first | omega | (simp [up, setR] <;> omega)) (by first | omega | (simp [up, setR] <;> omega)) (by rewrite [e108_77]; intro i h1 h2; exact (hLV i h1 h2).1)) (by decide) rfl ⟨by decide, by decide⟩ (by decide) rfl rfl (Nat.le_of_ble_eq_true rfl) ⟨by decide, by decide⟩ dX12_encode_91 ?_
                    intro r9 g91_109 hp9
                    obtain ⟨⟨hT_109, hG_109⟩, hr9, p1_109⟩ := hp9
                    rw [hr9]
                    have hF_109 : FRM [73, 77, 78, 79, 80, 81, 82, 83, 84, 85, 86, 87, 88, 89, 90, 91, 92, 93, 94, 95, 96, 97, 98, 99, 100] [2, 18, 26, 27, 28, 29, 32, 33, 34, 36, 38, 39, 41, 42, 43] h g91_109 := FRM_tr hF_107 hG_109 (by decide) (by decide)
                    rw [show g87_107 77 = w68_17 77 from ((hG_107.1 77 (by decide))).trans (hG_105.1 77 (by decide))] at p1_109
                    have p1_at91 := p1_109
                    show TT K ly 0 0 94 [(0, vR 73), (1, vI l), (2, vI n), (3, vI lv)] [] g91_109
                    refine TT_aload_n hK rfl 0 rfl dX12_encode_94 ?_
                    refine TT_aload_n hK rfl 0 rfl dX12_encode_95 ?_
                    refine gf_X12_16 hK (by decide) rfl (v := (h 73) 3) ((congrFun (hG_109.1 73 (by decide)) 3).trans ((congrFun (hG_107.1 73 (by decide)) 3).trans ((congrFun (hG_105.1 73 (by decide)) 3).trans (hF68_17.2 3 (by decide))))) dX12_encode_96 ?_
                    refine TT_iload_n hK rfl 3 rfl dX12_encode_99 ?_
                    refine iv_X12_153 hK (s_left_x ((h 73) 3) lv g91_109 hT_109 (by first | omega | (simp [up, setR] <;> omega)) (by first | omega | (simp [up, setR] <;> omega))) ⟨by decide, by decide⟩ (by decide) rfl rfl (Nat.le_of_ble_eq_true rfl) ⟨by decide, by decide⟩ dX12_encode_100 ?_
                    intro r9 g100_110 hp9
                    obtain ⟨⟨hT_110, hG_110⟩, z100_110, hr9, hz_110, p1_110⟩ := hp9
                    rw [hr9]
                    have hF_110 : FRM [73, 77, 78, 79, 80, 81, 82, 83, 84, 85, 86, 87, 88, 89, 90, 91, 92, 93, 94, 95, 96, 97, 98, 99, 100] [2, 18, 26, 27, 28, 29, 32, 33, 34, 36, 38, 39, 41, 42, 43] h g100_110 := FRM_tr hF_109 hG_110 (by decide) (by decide)
                    have p1_at100 := p1_110
                    show TT K ly 0 0 103 [(0, vR 73), (1, vI l), (2, vI n), (3, vI lv)] [vI z100_110, vR 73] g100_110
                    refine TT_aload_n hK rfl 0 rfl dX12_encode_103 ?_
                    refine gf_X12_20 hK (by decide) rfl (v := (h 73) 4) ((congrFun (hG_110.1 73 (by decide)) 4).trans ((congrFun (hG_109.1 73 (by decide)) 4).trans ((congrFun (hG_107.1 73 (by decide)) 4).trans ((congrFun (hG_105.1 73 (by decide)) 4).trans (hF68_17.2 4 (by decide)))))) dX12_encode_104 ?_
                    refine TT_iload_n hK rfl 3 rfl dX12_encode_107 ?_
                    refine iv_X12_153 hK (s_left_x ((h 73) 4) lv g100_110 hT_110 (by first | omega | (simp [up, setR] <;> omega)) (by first | omega | (simp [up, setR] <;> omega))) ⟨by decide, by decide⟩ (by decide) rfl rfl (Nat.le_of_ble_eq_true rfl) ⟨by decide, by decide⟩ dX12_encode_108 ?_
                    intro r9 g108_111 hp9
                    obtain ⟨⟨hT_111, hG_111⟩, z108_111, hr9, hz_111, p1_111⟩ := hp9
                    rw [hr9]
                    have hF_111 : FRM [73, 77, 78, 79, 80, 81, 82, 83, 84, 85, 86, 87, 88, 89, 90, 91, 92, 93, 94, 95, 96, 97, 98, 99, 100] [2, 18, 26, 27, 28, 29, 32, 33, 34, 36, 38, 39, 41, 42, 43] h g108_111 := FRM_tr hF_110 hG_111 (by decide) (by decide)
                    have p1_at108 := p1_111
                    show TT K ly 0 0 111 [(0, vR 73), (1, vI l), (2, vI n), (3, vI lv)] [vI z108_111, vI z100_110, vR 73] g108_111
                    refine TT_iconst hK dX12_encode_111 ?_
                    have e112_77 : g108_111 77 = g91_109 77 := ((hG_111.1 77 (by decide))).trans (hG_110.1 77 (by decide))
                    refine iv_X12_339 hK (s_rowsx z100_110 z108_111 g108_111 hT_111 (by first | omega | (simp [up, setR] <;> omega)) (by first | omega | (simp [up, setR] <;> omega)) (by rewrite [e112_77]; intro i h1 h2; rw [p1_at91 i h1 h2, p1_at79, p1_at87]; exact (cEb l1 l2 (BL_r (by omega)) hLV h1 h2).1)) (by decide) rfl ⟨by decide, by decide⟩ (by decide) rfl rfl (Nat.le_of_ble_eq_true rfl) ⟨by decide, by decide⟩ dX12_encode_112 ?_
                    intro r9 g112_113 hp9
                    obtain ⟨⟨hT_113, hG_113⟩, hr9, p1_113⟩ := hp9
                    rw [hr9]
                    have hF_113 : FRM [73, 77, 78, 79, 80, 81, 82, 83, 84, 85, 86, 87, 88, 89, 90, 91, 92, 93, 94, 95, 96, 97, 98, 99, 100] [2, 18, 26, 27, 28, 29, 32, 33, 34, 36, 38, 39, 41, 42, 43] h g112_113 := FRM_tr hF_111 hG_113 (by decide) (by decide)
                    rw [show g108_111 77 = g91_109 77 from ((hG_111.1 77 (by decide))).trans (hG_110.1 77 (by decide))] at p1_113
                    have p1_at112 := p1_113
                    show TT K ly 0 0 115 [(0, vR 73), (1, vI l), (2, vI n), (3, vI lv)] [] g112_113
                    refine TT_iinc hK (v := lv + 1) (lv' := [(3, vI (lv + 1)), (0, vR 73), (1, vI l), (2, vI n)]) 3 rfl rfl (by decide) rfl dX12_encode_115 ?_
                    refine TT_goto hK (tgt := 68) dX12_encode_118 (by decide) ?_
                    refine TT_sub [1, 2, 3, 0] rfl ?_
                    have e114_90 : g112_113 90 = w68_17 90 := ((hG_113.1 90 (by decide))).trans (((hG_111.1 90 (by decide))).trans (((hG_110.1 90 (by decide))).trans (((hG_109.1 90 (by decide))).trans (((hG_107.1 90 (by decide))).trans (hG_105.1 90 (by decide))))))
                    have e115_91 : g112_113 91 = w68_17 91 := ((hG_113.1 91 (by decide))).trans (((hG_111.1 91 (by decide))).trans (((hG_110.1 91 (by decide))).trans (((hG_109.1 91 (by decide))).trans (((hG_107.1 91 (by decide))).trans (hG_105.1 91 (by decide))))))
                    exact ih17 (lv + 1) g112_113 hT_113 hF_113 (by rewrite [e114_90, e115_91]; exact hmi) (by first | omega | (simp [up, setR] <;> omega)) (by exact LV_n (by omega) rW rH hLV (fun t h1 h2 => (p1_at91 t h1 h2).trans (by rw [p1_at79, p1_at87])) (fun t h1 h2 => (p1_at112 t h1 h2).trans (by rw [p1_at100, p1_at108]))) (by first | omega | (simp [up, setR] <;> omega))
              refine TT_sub [1, 2, 3, 0] rfl ?_
              exact L68_17 ((((3 : Int) - 0).toNat) + 1) 0 w38_15 hT38_15 hF38_15 (by exact hmi) (by first | omega | (simp [up, setR] <;> omega)) (by exact LV_0 (fun j h1 h2 => hs0 j h1 (by omega))) (Nat.lt_succ_self _)
            · refine TT_aload_n hK rfl 0 rfl dX12_encode_44 ?_
              refine gf_X12_26 hK (by decide) rfl (q := 77) rfl rfl dX12_encode_45 ?_
              refine TT_iload_n hK rfl 3 rfl dX12_encode_48 ?_
              refine TT_aload_n hK rfl 0 rfl dX12_encode_49 ?_
              refine gf_X12_23 hK (by decide) rfl (q := 76) rfl rfl dX12_encode_50 ?_
              refine TT_iload_n hK rfl 3 rfl dX12_encode_53 ?_
              refine TT_iald hK (o := 76) (n := 64) (by decide) rfl (by first | omega | (simp [up, setR] <;> omega)) (by first | omega | (simp [up, setR] <;> omega)) (v := (h 76) k) (rd_ (hF38_15.1 76 (by decide)) rfl) dX12_encode_54 ?_
              have r116 := ty_76 (i := k) (v := (h 76) k) hT38_15 (rd_ (hF38_15.1 76 (by decide)) rfl) (by omega) (by omega)
              refine TT_sipush hK (by decide) dX12_encode_55 ?_
              refine TT_isub hK dX12_encode_58 ?_
              refine TT_iast hK (o := 77) (n := 64) (by decide) rfl (by omega) (by omega) dX12_encode_59 ?_
              refine TT_hp (h' := setO w38_15 77 (fup (w38_15 77) k (((h 76) k) - 128))) (up_can rfl rfl rfl) ?_
              have hT_117 : TY (setO w38_15 77 (fup (w38_15 77) k (((h 76) k) - 128))) := tu_77 hT38_15 (show up w38_15 77 k (((h 76) k) - 128) = (setO w38_15 77 (fup (w38_15 77) k (((h 76) k) - 128))) from up_can rfl rfl rfl) (by omega)
              have hF_117 : FRM [73, 77, 78, 79, 80, 81, 82, 83, 84, 85, 86, 87, 88, 89, 90, 91, 92, 93, 94, 95, 96, 97, 98, 99, 100] [2, 18, 26, 27, 28, 29, 32, 33, 34, 36, 38, 39, 41, 42, 43] h (setO w38_15 77 (fup (w38_15 77) k (((h 76) k) - 128))) := FRM_up (show up w38_15 77 k (((h 76) k) - 128) = (setO w38_15 77 (fup (w38_15 77) k (((h 76) k) - 128))) from up_can rfl rfl rfl) hF38_15 (by decide) (by decide)
              refine TT_iinc hK (v := k + 1) (lv' := [(3, vI (k + 1)), (0, vR 73), (1, vI l), (2, vI n)]) 3 rfl rfl (by decide) rfl dX12_encode_60 ?_
              refine TT_goto hK (tgt := 38) dX12_encode_63 (by decide) ?_
              refine TT_sub [1, 2, 3, 0] rfl ?_
              have e118_90 : (setO w38_15 77 (fup (w38_15 77) k (((h 76) k) - 128))) 90 = w38_15 90 := sOf_ne _ _ (by decide)
              have e119_91 : (setO w38_15 77 (fup (w38_15 77) k (((h 76) k) - 128))) 91 = w38_15 91 := sOf_ne _ _ (by decide)
              have e120_77 : (setO w38_15 77 (fup (w38_15 77) k (((h 76) k) - 128))) 77 = fup (w38_15 77) k (((h 76) k) - 128) := sOf_eq _ _ _
              exact ih15 (k + 1) (setO w38_15 77 (fup (w38_15 77) k (((h 76) k) - 128))) hT_117 hF_117 (by rewrite [e118_90, e119_91]; exact hmi) (by first | omega | (simp [up, setR] <;> omega)) (by rewrite [e120_77]; intro j h1 h2; by_cases e : j = k; (rw [e, fup_eq]; omega); (rw [fup_ne _ _ e]; exact hs0 j h1 (by omega))) (by first | omega | (simp [up, setR] <;> omega))
        refine TT_sub [1, 2, 3, 0] rfl ?_
        have e121_90 : (setO g13_7 73 (fup (h 73) 2 0)) 90 = h 90 := (sOf_ne _ _ (by decide)).trans (((hG_7.1 90 (by decide))).trans (hG_1.1 90 (by decide)))
        have e122_91 : (setO g13_7 73 (fup (h 73) 2 0)) 91 = h 91 := (sOf_ne _ _ (by decide)).trans (((hG_7.1 91 (by decide))).trans (hG_1.1 91 (by decide)))
        have e123_77 : (setO g13_7 73 (fup (h 73) 2 0)) 77 = h 77 := (sOf_ne _ _ (by decide)).trans (((hG_7.1 77 (by decide))).trans (hG_1.1 77 (by decide)))
        exact L38_15 ((((64 : Int) - 0).toNat) + 1) 0 (setO g13_7 73 (fup (h 73) 2 0)) hT_13 hF_13 (by rewrite [e121_90, e122_91]; exact hmi) (by first | omega | (simp [up, setR] <;> omega)) (by rewrite [e123_77]; intro j h1 h2; exfalso; omega) (Nat.lt_succ_self _)
      · exact absurd hb31_14 (by decide)

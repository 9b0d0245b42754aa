theorem pu2b {a l m : Int} (hm : m = a * (l + 1)) (ha : 1 ≤ a ∧ a ≤ 3) (hl : 0 ≤ l ∧ l ≤ 3) : m ≤ 3 * (l + 1) := by
  rcases (show a = 1 ∨ a = 2 ∨ a = 3 by omega) with rfl | rfl | rfl <;> omega
def PQ (pc : Int → Int) (L k : Int) : Prop := ∀ b : Int, 0 ≤ b → b ≤ 3 * L → pc b ≤ (k + L - (b + 2) / 3) / (L + 1)
theorem PQ_0 {pc : Int → Int} {L : Int} (h : ∀ t : Int, 0 ≤ t → t ≤ 9 → pc t = 0) (hL : 0 ≤ L ∧ L ≤ 3) : PQ pc L 0 := by
  intro b h0 h1
  rw [h b h0 (by omega)]
  rcases (show L = 0 ∨ L = 1 ∨ L = 2 ∨ L = 3 by omega) with rfl | rfl | rfl | rfl <;> omega
theorem PQ_2 {pc : Int → Int} {L k u : Int} (h : PQ pc L k) (hL : 0 ≤ L ∧ L ≤ 3) (hk : 0 ≤ k ∧ k < 3 * (L + 1)) (hu : 0 ≤ u) (hu9 : u = k % (L + 1)) : ∀ j : Int, FS u ≤ j → j ≤ 3 * u → pc j ≤ 2 := by
  intro j h1 h2
  have hf := FS_r (r := u) ⟨hu, by rw [hu9]; rcases (show L = 0 ∨ L = 1 ∨ L = 2 ∨ L = 3 by omega) with rfl | rfl | rfl | rfl <;> omega⟩
  have e : (j + 2) / 3 = u := by
    unfold FS at h1 hf
    split at h1 <;> omega
  have k1 := h j (by omega) (by rw [hu9] at h2; rcases (show L = 0 ∨ L = 1 ∨ L = 2 ∨ L = 3 by omega) with rfl | rfl | rfl | rfl <;> omega)
  rw [e, hu9] at k1
  rcases (show L = 0 ∨ L = 1 ∨ L = 2 ∨ L = 3 by omega) with rfl | rfl | rfl | rfl <;> omega
theorem PQ_s {pc pc' : Int → Int} {L k u : Int} (h : PQ pc L k) (hL : 0 ≤ L ∧ L ≤ 3) (hu9 : u = k % (L + 1)) (hp : ∀ j : Int, (FS u ≤ j → j ≤ 3 * u → pc' j = pc j + 1) ∧ (j < FS u ∨ 3 * u < j → pc' j = pc j)) : PQ pc' L (k + 1) := by
  intro j h0 h1
  have k1 := h j h0 h1
  have hf := FS_r (r := u) (by rw [hu9]; rcases (show L = 0 ∨ L = 1 ∨ L = 2 ∨ L = 3 by omega) with rfl | rfl | rfl | rfl <;> omega)
  by_cases c : FS u ≤ j ∧ j ≤ 3 * u
  · rw [(hp j).1 c.1 c.2]
    have e : (j + 2) / 3 = u := by
      have c1 := c.1
      unfold FS at c1 hf
      split at c1 <;> omega
    rw [e, hu9] at k1 ⊢
    rcases (show L = 0 ∨ L = 1 ∨ L = 2 ∨ L = 3 by omega) with rfl | rfl | rfl | rfl <;> omega
  · rw [(hp j).2 (by omega)]
    refine Int.le_trans k1 ?_
    rcases (show L = 0 ∨ L = 1 ∨ L = 2 ∨ L = 3 by omega) with rfl | rfl | rfl | rfl <;> omega
theorem PSQ_0 {pc sz : Int → Int} {m : Int} (h : ∀ t : Int, 0 ≤ t → t ≤ 9 → pc t = 0) (hm : 0 ≤ m) : PSQ pc sz m := by
  intro j h0 h1 _
  rw [h j h0 h1]
  exact hm
set_option maxRecDepth 20000 in
theorem s_X12_decode_73 (n : Int) (h : Hp_) (hT : TY h) (hn : -2147483648 ≤ n ∧ n ≤ 2147483647) (htb : TBL (h 74) (h 75)) : Ctr yX12_decode cX12_decode 10 (some .int) (rmd 10) ly ly 0 0 [vR 73, vI n] h (fun r h' => (TY h' ∧ FRM [73, 77, 78, 79, 80, 81, 82, 83, 84, 85, 86, 87, 88, 93, 94, 95, 96, 97, 98, 99, 101, 102, 103, 104, 105, 106] [2, 26, 27, 28, 29, 32, 33, 34, 36, 38, 39, 42, 43, 44, 45, 50, 51, 52, 55] h h') ∧ ∃ z : Int, r = some (vI z) ∧ (0 ≤ z ∧ z ≤ 12)) := by
  refine Ctr_of (by decide) (Nat.le_of_ble_eq_true rfl) ⟨Nat.le_refl _, Nat.le_refl _⟩ (fun K hK hQ _ => ?_)
  show TT K ly 0 0 0 [(0, vR 73), (1, vI n)] [] h
  have hF : FRM [73, 77, 78, 79, 80, 81, 82, 83, 84, 85, 86, 87, 88, 93, 94, 95, 96, 97, 98, 99, 101, 102, 103, 104, 105, 106] [2, 26, 27, 28, 29, 32, 33, 34, 36, 38, 39, 42, 43, 44, 45, 50, 51, 52, 55] h h := FRM_rf _ _ _
  refine TT_aload_n hK rfl 0 rfl dX12_decode_0 ?_
  refine TT_iconst hK dX12_decode_1 ?_
  refine pf_X12_117 hK (by decide) rfl dX12_decode_2 ?_
  refine TT_hp (h' := setO h 73 (fup (h 73) 2 0)) (up_can rfl rfl rfl) ?_
  have hT_1 : TY (setO h 73 (fup (h 73) 2 0)) := tu_73_2 hT (show up h 73 2 0 = (setO h 73 (fup (h 73) 2 0)) from up_can rfl rfl rfl) (by omega)
  have hF_1 : FRM [73, 77, 78, 79, 80, 81, 82, 83, 84, 85, 86, 87, 88, 93, 94, 95, 96, 97, 98, 99, 101, 102, 103, 104, 105, 106] [2, 26, 27, 28, 29, 32, 33, 34, 36, 38, 39, 42, 43, 44, 45, 50, 51, 52, 55] h (setO h 73 (fup (h 73) 2 0)) := FRM_f (show up h 73 2 0 = (setO h 73 (fup (h 73) 2 0)) from up_can rfl rfl rfl) hF (by decide) (by decide)
  have J76_2 : ∀ (w76_2 : Hp_), TY w76_2 → FRM [73, 77, 78, 79, 80, 81, 82, 83, 84, 85, 86, 87, 88, 93, 94, 95, 96, 97, 98, 99, 101, 102, 103, 104, 105, 106] [2, 26, 27, 28, 29, 32, 33, 34, 36, 38, 39, 42, 43, 44, 45, 50, 51, 52, 55] h w76_2 → TT K ly 0 0 76 [(0, vR 73), (1, vI n)] [] w76_2 := by
    intro w76_2 hT76_2 hF76_2
    refine TT_aload_n hK rfl 0 rfl dX12_decode_76 ?_
    refine TT_iconst hK dX12_decode_77 ?_
    refine iv_X12_385 hK (s_X12_refuse_73 1 w76_2 hT76_2 (by first | omega | (simp [up, setR] <;> omega))) (by decide) rfl ⟨by decide, by decide⟩ (by decide) rfl rfl (Nat.le_of_ble_eq_true rfl) ⟨by decide, by decide⟩ dX12_decode_78 ?_
    intro r9 g78_3 hp9
    obtain ⟨⟨hT_3, hG_3⟩, z78_3, hr9, hz_3⟩ := hp9
    rw [hr9]
    have hF_3 : FRM [73, 77, 78, 79, 80, 81, 82, 83, 84, 85, 86, 87, 88, 93, 94, 95, 96, 97, 98, 99, 101, 102, 103, 104, 105, 106] [2, 26, 27, 28, 29, 32, 33, 34, 36, 38, 39, 42, 43, 44, 45, 50, 51, 52, 55] h g78_3 := FRM_tr hF76_2 hG_3 (by decide) (by decide)
    show TT K ly 0 0 81 [(0, vR 73), (1, vI n)] [vI z78_3] g78_3
    refine TT_iret hK hQ ?_ dX12_decode_81
    exact ⟨⟨hT_3, hF_3⟩, z78_3, rfl, (by omega)⟩
  refine TT_iload_n hK rfl 1 rfl dX12_decode_5 ?_
  refine TT_iconst hK dX12_decode_6 ?_
  refine TT_icmp_lt hK (tgt := 76) (irm (by omega) (by omega)) (by decide) dX12_decode_7 (by decide) (fun hb7_4 => ?_) (fun hb7_4 => ?_)
  · exact J76_2 (setO h 73 (fup (h 73) 2 0)) hT_1 hF_1 
  · refine TT_iload_n hK rfl 1 rfl dX12_decode_10 ?_
    refine TT_aload_n hK rfl 0 rfl dX12_decode_11 ?_
    refine gf_X12_329 hK (by decide) rfl (v := (h 73) 41) (rd_ (sOf_eq _ _ _) (fup_ne _ _ (by decide))) dX12_decode_12 ?_
    have r5 := ty_73_41 (v := (h 73) 41) hT_1 (rd_ (sOf_eq _ _ _) (fup_ne _ _ (by decide)))
    refine TT_icmp_gt hK (tgt := 76) (irm (by omega) (by omega)) (irm (by omega) (by omega)) dX12_decode_15 (by decide) (fun hb15_6 => ?_) (fun hb15_6 => ?_)
    · exact J76_2 (setO h 73 (fup (h 73) 2 0)) hT_1 hF_1 
    · refine TT_aload_n hK rfl 0 rfl dX12_decode_18 ?_
      refine gf_X12_96 hK (by decide) rfl (q := 100) rfl rfl dX12_decode_19 ?_
      refine TT_iconst hK dX12_decode_22 ?_
      refine TT_iald hK (o := 100) (n := 4700) (by decide) rfl (by first | omega | (simp [up, setR] <;> omega)) (by first | omega | (simp [up, setR] <;> omega)) (v := (h 100) 0) (rd_ (sOf_ne _ _ (by decide)) rfl) dX12_decode_23 ?_
      have r7 := ty_100 (i := 0) (v := (h 100) 0) hT_1 (rd_ (sOf_ne _ _ (by decide)) rfl) (by omega) (by omega)
      refine TT_iconst hK dX12_decode_24 ?_
      refine TT_bipush hK (by decide) dX12_decode_25 ?_
      refine iv_X12_120 hK (s_X12_within ((h 100) 0) 1 8 (setO h 73 (fup (h 73) 2 0)) hT_1 (by first | omega | (simp [up, setR] <;> omega)) (by first | omega | (simp [up, setR] <;> omega)) (by first | omega | (simp [up, setR] <;> omega))) ⟨by decide, by decide⟩ (by decide) rfl rfl (Nat.le_of_ble_eq_true rfl) ⟨by decide, by decide⟩ dX12_decode_27 ?_
      intro r9 g27_8 hp9
      obtain ⟨⟨hT_8, hG_8⟩, z27_8, hr9, hz_8, p1_8, p2_8⟩ := hp9
      rw [hr9]
      have hF_8 : FRM [73, 77, 78, 79, 80, 81, 82, 83, 84, 85, 86, 87, 88, 93, 94, 95, 96, 97, 98, 99, 101, 102, 103, 104, 105, 106] [2, 26, 27, 28, 29, 32, 33, 34, 36, 38, 39, 42, 43, 44, 45, 50, 51, 52, 55] h g27_8 := FRM_tr hF_1 hG_8 (by decide) (by decide)
      show TT K ly 0 0 30 [(0, vR 73), (1, vI n)] [vI z27_8] g27_8
      refine TT_if_eq hK (tgt := 76) (irm (by omega) (by omega)) dX12_decode_30 (by decide) (fun hb30_9 => ?_) (fun hb30_9 => ?_)
      · exact J76_2 g27_8 hT_8 hF_8 
      · refine TT_aload_n hK rfl 0 rfl dX12_decode_33 ?_
        refine gf_X12_96 hK (by decide) rfl (q := 100) rfl rfl dX12_decode_34 ?_
        refine TT_iconst hK dX12_decode_37 ?_
        refine TT_iald hK (o := 100) (n := 4700) (by decide) rfl (by first | omega | (simp [up, setR] <;> omega)) (by first | omega | (simp [up, setR] <;> omega)) (v := (h 100) 1) (rd_ (((hG_8.1 100 (by decide))).trans (sOf_ne _ _ (by decide))) rfl) dX12_decode_38 ?_
        have r10 := ty_100 (i := 1) (v := (h 100) 1) hT_8 (rd_ (((hG_8.1 100 (by decide))).trans (sOf_ne _ _ (by decide))) rfl) (by omega) (by omega)
        refine TT_iconst hK dX12_decode_39 ?_
        refine TT_bipush hK (by decide) dX12_decode_40 ?_
        refine iv_X12_120 hK (s_X12_within ((h 100) 1) 1 8 g27_8 hT_8 (by first | omega | (simp [up, setR] <;> omega)) (by first | omega | (simp [up, setR] <;> omega)) (by first | omega | (simp [up, setR] <;> omega))) ⟨by decide, by decide⟩ (by decide) rfl rfl (Nat.le_of_ble_eq_true rfl) ⟨by decide, by decide⟩ dX12_decode_42 ?_
        intro r9 g42_11 hp9
        obtain ⟨⟨hT_11, hG_11⟩, z42_11, hr9, hz_11, p1_11, p2_11⟩ := hp9
        rw [hr9]
        have hF_11 : FRM [73, 77, 78, 79, 80, 81, 82, 83, 84, 85, 86, 87, 88, 93, 94, 95, 96, 97, 98, 99, 101, 102, 103, 104, 105, 106] [2, 26, 27, 28, 29, 32, 33, 34, 36, 38, 39, 42, 43, 44, 45, 50, 51, 52, 55] h g42_11 := FRM_tr hF_8 hG_11 (by decide) (by decide)
        show TT K ly 0 0 45 [(0, vR 73), (1, vI n)] [vI z42_11] g42_11
        refine TT_if_eq hK (tgt := 76) (irm (by omega) (by omega)) dX12_decode_45 (by decide) (fun hb45_12 => ?_) (fun hb45_12 => ?_)
        · exact J76_2 g42_11 hT_11 hF_11 
        · refine TT_aload_n hK rfl 0 rfl dX12_decode_48 ?_
          refine gf_X12_96 hK (by decide) rfl (q := 100) rfl rfl dX12_decode_49 ?_
          refine TT_iconst hK dX12_decode_52 ?_
          refine TT_iald hK (o := 100) (n := 4700) (by decide) rfl (by first | omega | (simp [up, setR] <;> omega)) (by first | omega | (simp [up, setR] <;> omega)) (v := (h 100) 2) (rd_ (((hG_11.1 100 (by decide))).trans (((hG_8.1 100 (by decide))).trans (sOf_ne _ _ (by decide)))) rfl) dX12_decode_53 ?_
          have r13 := ty_100 (i := 2) (v := (h 100) 2) hT_11 (rd_ (((hG_11.1 100 (by decide))).trans (((hG_8.1 100 (by decide))).trans (sOf_ne _ _ (by decide)))) rfl) (by omega) (by omega)
          refine TT_iconst hK dX12_decode_54 ?_
          refine TT_iconst hK dX12_decode_55 ?_
          refine iv_X12_120 hK (s_X12_within ((h 100) 2) 0 3 g42_11 hT_11 (by first | omega | (simp [up, setR] <;> omega)) (by first | omega | (simp [up, setR] <;> omega)) (by first | omega | (simp [up, setR] <;> omega))) ⟨by decide, by decide⟩ (by decide) rfl rfl (Nat.le_of_ble_eq_true rfl) ⟨by decide, by decide⟩ dX12_decode_56 ?_
          intro r9 g56_14 hp9
          obtain ⟨⟨hT_14, hG_14⟩, z56_14, hr9, hz_14, p1_14, p2_14⟩ := hp9
          rw [hr9]
          have hF_14 : FRM [73, 77, 78, 79, 80, 81, 82, 83, 84, 85, 86, 87, 88, 93, 94, 95, 96, 97, 98, 99, 101, 102, 103, 104, 105, 106] [2, 26, 27, 28, 29, 32, 33, 34, 36, 38, 39, 42, 43, 44, 45, 50, 51, 52, 55] h g56_14 := FRM_tr hF_11 hG_14 (by decide) (by decide)
          show TT K ly 0 0 59 [(0, vR 73), (1, vI n)] [vI z56_14] g56_14
          refine TT_if_eq hK (tgt := 76) (irm (by omega) (by omega)) dX12_decode_59 (by decide) (fun hb59_15 => ?_) (fun hb59_15 => ?_)
          · exact J76_2 g56_14 hT_14 hF_14 
          · refine TT_aload_n hK rfl 0 rfl dX12_decode_62 ?_
            refine gf_X12_96 hK (by decide) rfl (q := 100) rfl rfl dX12_decode_63 ?_
            refine TT_iconst hK dX12_decode_66 ?_
            refine TT_iald hK (o := 100) (n := 4700) (by decide) rfl (by first | omega | (simp [up, setR] <;> omega)) (by first | omega | (simp [up, setR] <;> omega)) (v := (h 100) 3) (rd_ (((hG_14.1 100 (by decide))).trans (((hG_11.1 100 (by decide))).trans (((hG_8.1 100 (by decide))).trans (sOf_ne _ _ (by decide))))) rfl) dX12_decode_67 ?_
            have r16 := ty_100 (i := 3) (v := (h 100) 3) hT_14 (rd_ (((hG_14.1 100 (by decide))).trans (((hG_11.1 100 (by decide))).trans (((hG_8.1 100 (by decide))).trans (sOf_ne _ _ (by decide))))) rfl) (by omega) (by omega)
            refine TT_iconst hK dX12_decode_68 ?_
            refine TT_iconst hK dX12_decode_69 ?_
            refine iv_X12_120 hK (s_X12_within ((h 100) 3) 1 3 g56_14 hT_14 (by first | omega | (simp [up, setR] <;> omega)) (by first | omega | (simp [up, setR] <;> omega)) (by first | omega | (simp [up, setR] <;> omega))) ⟨by decide, by decide⟩ (by decide) rfl rfl (Nat.le_of_ble_eq_true rfl) ⟨by decide, by decide⟩ dX12_decode_70 ?_
            intro r9 g70_17 hp9
            obtain ⟨⟨hT_17, hG_17⟩, z70_17, hr9, hz_17, p1_17, p2_17⟩ := hp9
            rw [hr9]
            have hF_17 : FRM [73, 77, 78, 79, 80, 81, 82, 83, 84, 85, 86, 87, 88, 93, 94, 95, 96, 97, 98, 99, 101, 102, 103, 104, 105, 106] [2, 26, 27, 28, 29, 32, 33, 34, 36, 38, 39, 42, 43, 44, 45, 50, 51, 52, 55] h g70_17 := FRM_tr hF_14 hG_17 (by decide) (by decide)
            show TT K ly 0 0 73 [(0, vR 73), (1, vI n)] [vI z70_17] g70_17
            refine TT_if_ne hK (tgt := 82) (irm (by omega) (by omega)) dX12_decode_73 (by decide) (fun hb73_18 => ?_) (fun hb73_18 => ?_)
            · refine TT_aload_n hK rfl 0 rfl dX12_decode_82 ?_
              refine gf_X12_96 hK (by decide) rfl (q := 100) rfl rfl dX12_decode_83 ?_
              refine TT_iconst hK dX12_decode_86 ?_
              refine TT_iald hK (o := 100) (n := 4700) (by decide) rfl (by first | omega | (simp [up, setR] <;> omega)) (by first | omega | (simp [up, setR] <;> omega)) (v := (h 100) 0) (rd_ (((hG_17.1 100 (by decide))).trans (((hG_14.1 100 (by decide))).trans (((hG_11.1 100 (by decide))).trans (((hG_8.1 100 (by decide))).trans (sOf_ne _ _ (by decide)))))) rfl) dX12_decode_87 ?_
              refine TT_nmI (fun wq hwq => ?_)
              refine TT_istore_n hK rfl (lv' := [(2, vI wq), (0, vR 73), (1, vI n)]) (by decide) rfl dX12_decode_88 ?_
              refine TT_aload_n hK rfl 1 rfl dX12_decode_89 ?_
              refine gf_X12_96 hK (by decide) rfl (q := 100) rfl rfl dX12_decode_90 ?_
              refine TT_iconst hK dX12_decode_93 ?_
              refine TT_iald hK (o := 100) (n := 4700) (by decide) rfl (by first | omega | (simp [up, setR] <;> omega)) (by first | omega | (simp [up, setR] <;> omega)) (v := (h 100) 1) (rd_ (((hG_17.1 100 (by decide))).trans (((hG_14.1 100 (by decide))).trans (((hG_11.1 100 (by decide))).trans (((hG_8.1 100 (by decide))).trans (sOf_ne _ _ (by decide)))))) rfl) dX12_decode_94 ?_
              refine TT_nmI (fun eq heq => ?_)
              refine TT_istore_n hK rfl (lv' := [(3, vI eq), (2, vI wq), (0, vR 73), (1, vI n)]) (by decide) rfl dX12_decode_95 ?_
              refine TT_aload_n hK rfl 2 rfl dX12_decode_96 ?_
              refine gf_X12_96 hK (by decide) rfl (q := 100) rfl rfl dX12_decode_97 ?_
              refine TT_iconst hK dX12_decode_100 ?_
              refine TT_iald hK (o := 100) (n := 4700) (by decide) rfl (by first | omega | (simp [up, setR] <;> omega)) (by first | omega | (simp [up, setR] <;> omega)) (v := (h 100) 2) (rd_ (((hG_17.1 100 (by decide))).trans (((hG_14.1 100 (by decide))).trans (((hG_11.1 100 (by decide))).trans (((hG_8.1 100 (by decide))).trans (sOf_ne _ _ (by decide)))))) rfl) dX12_decode_101 ?_
              refine TT_nmI (fun lq hlq => ?_)
              refine TT_istore hK (lv' := [(4, vI lq), (3, vI eq), (2, vI wq), (0, vR 73), (1, vI n)]) (by decide) rfl dX12_decode_102 ?_
              refine TT_aload_n hK rfl 3 rfl dX12_decode_104 ?_
              refine TT_bipush hK (by decide) dX12_decode_105 ?_
              refine TT_iload_n hK rfl 2 rfl dX12_decode_107 ?_
              refine TT_iload_n hK rfl 1 rfl dX12_decode_108 ?_
              refine TT_iload hK 0 rfl dX12_decode_109 ?_
              refine iv_X12_342 hK (s_beBands_x 10 wq eq lq g70_17 hT_17 (by first | omega | (simp [up, setR] <;> omega)) (by first | omega | (simp [up, setR] <;> omega)) (by first | omega | (simp [up, setR] <;> omega)) (by first | omega | (simp [up, setR] <;> omega))) (by decide) rfl ⟨by decide, by decide⟩ (by decide) rfl rfl (Nat.le_of_ble_eq_true rfl) ⟨by decide, by decide⟩ dX12_decode_111 ?_
              intro r9 g111_19 hp9
              obtain ⟨⟨hT_19, hG_19⟩, hr9, q1_19, q2_19, q3_19⟩ := hp9
              rw [hr9]
              have hF_19 : FRM [73, 77, 78, 79, 80, 81, 82, 83, 84, 85, 86, 87, 88, 93, 94, 95, 96, 97, 98, 99, 101, 102, 103, 104, 105, 106] [2, 26, 27, 28, 29, 32, 33, 34, 36, 38, 39, 42, 43, 44, 45, 50, 51, 52, 55] h g111_19 := FRM_tr hF_17 hG_19 (by decide) (by decide)
              have q1_at111 := q1_19
              have q2_at111 := q2_19
              show TT K ly 0 0 114 [(4, vI lq), (3, vI eq), (2, vI wq), (0, vR 73), (1, vI n)] [] g111_19
              refine TT_iconst hK dX12_decode_114 ?_
              refine TT_istore hK (lv' := [(5, vI 0), (4, vI lq), (3, vI eq), (2, vI wq), (0, vR 73), (1, vI n)]) (by decide) rfl dX12_decode_115 ?_
              have L117_20 : ∀ (k20 : Nat) (j9 : Int) (w117_20 : Hp_), TY w117_20 → FRM [73, 77, 78, 79, 80, 81, 82, 83, 84, 85, 86, 87, 88, 93, 94, 95, 96, 97, 98, 99, 101, 102, 103, 104, 105, 106] [2, 26, 27, 28, 29, 32, 33, 34, 36, 38, 39, 42, 43, 44, 45, 50, 51, 52, 55] h w117_20 → (0 ≤ j9 ∧ j9 ≤ 10) → (∀ t : Int, 0 ≤ t → t < j9 → (w117_20 103) t = 0) → (∀ j : Int, 0 ≤ j → j < 3 * lq + 1 → (w117_20 80) (10 + j) = BW wq lq j) → (∀ j : Int, 0 ≤ j → j < 3 * lq + 1 → (w117_20 81) (10 + j) = BH eq lq j) → ((10 : Int) - j9).toNat < k20 → TT K ly 0 0 117 [(0, vR 73), (1, vI n), (2, vI wq), (3, vI eq), (4, vI lq), (5, vI j9)] [] w117_20 := by
                intro k20
                induction k20 with
                | zero => intro j9 w117_20 hT117_20 hF117_20 hj9 hpz hbw hbh hk20; exact absurd hk20 (Nat.not_lt_zero _)
                | succ k20 ih20 =>
                  intro j9 w117_20 hT117_20 hF117_20 hj9 hpz hbw hbh hk20
                  refine TT_iload hK 5 rfl dX12_decode_117 ?_
                  refine TT_bipush hK (by decide) dX12_decode_119 ?_
                  refine TT_icmp_ge hK (tgt := 138) (irm (by omega) (by omega)) (by decide) dX12_decode_121 (by decide) (fun hb121_21 => ?_) (fun hb121_21 => ?_)
                  · refine TT_aload_n hK rfl 0 rfl dX12_decode_138 ?_
                    refine TT_iconst hK dX12_decode_139 ?_
                    refine pf_X12_375 hK (by decide) rfl (by first | decide | omega) dX12_decode_140 ?_
                    refine TT_hp (h' := setO w117_20 73 (fup (w117_20 73) 50 0)) (up_can rfl rfl rfl) ?_
                    have hT_22 : TY (setO w117_20 73 (fup (w117_20 73) 50 0)) := tu_73_50 hT117_20 (show up w117_20 73 50 0 = (setO w117_20 73 (fup (w117_20 73) 50 0)) from up_can rfl rfl rfl) (by omega)
                    have hF_22 : FRM [73, 77, 78, 79, 80, 81, 82, 83, 84, 85, 86, 87, 88, 93, 94, 95, 96, 97, 98, 99, 101, 102, 103, 104, 105, 106] [2, 26, 27, 28, 29, 32, 33, 34, 36, 38, 39, 42, 43, 44, 45, 50, 51, 52, 55] h (setO w117_20 73 (fup (w117_20 73) 50 0)) := FRM_f (show up w117_20 73 50 0 = (setO w117_20 73 (fup (w117_20 73) 50 0)) from up_can rfl rfl rfl) hF117_20 (by decide) (by decide)
                    refine TT_iconst hK dX12_decode_143 ?_
                    refine TT_istore hK (lv' := [(5, vI 0), (0, vR 73), (1, vI n), (2, vI wq), (3, vI eq), (4, vI lq)]) (by decide) rfl dX12_decode_144 ?_
                    refine TT_iconst hK dX12_decode_146 ?_
                    refine TT_istore hK (lv' := [(6, vI 4), (5, vI 0), (0, vR 73), (1, vI n), (2, vI wq), (3, vI eq), (4, vI lq)]) (by decide) rfl dX12_decode_147 ?_
                    refine TT_aload_n hK rfl 2 rfl dX12_decode_149 ?_
                    refine gf_X12_96 hK (by decide) rfl (q := 100) rfl rfl dX12_decode_150 ?_
                    refine TT_iconst hK dX12_decode_153 ?_
                    refine TT_iald hK (o := 100) (n := 4700) (by decide) rfl (by first | omega | (simp [up, setR] <;> omega)) (by first | omega | (simp [up, setR] <;> omega)) (v := (h 100) 3) (rd_ ((sOf_ne _ _ (by decide)).trans (hF117_20.1 100 (by decide))) rfl) dX12_decode_154 ?_
                    have r23 := ty_100 (i := 3) (v := (h 100) 3) hT_22 (rd_ ((sOf_ne _ _ (by decide)).trans (hF117_20.1 100 (by decide))) rfl) (by omega) (by omega)
                    refine TT_iload hK 6 rfl dX12_decode_155 ?_
                    refine TT_iconst hK dX12_decode_157 ?_
                    refine TT_iadd hK dX12_decode_158 ?_
                    refine TT_imul hK dX12_decode_159 ?_
                    refine TT_nmI (fun al hal => ?_)
                    refine TT_istore hK (lv' := [(7, vI al), (6, vI 4), (5, vI 0), (0, vR 73), (1, vI n), (2, vI wq), (3, vI eq), (4, vI lq)]) (by decide) rfl dX12_decode_160 ?_
                    have L162_24 : ∀ (k24 : Nat) (k : Int) (f : Int) (w162_24 : Hp_), TY w162_24 → FRM [73, 77, 78, 79, 80, 81, 82, 83, 84, 85, 86, 87, 88, 93, 94, 95, 96, 97, 98, 99, 101, 102, 103, 104, 105, 106] [2, 26, 27, 28, 29, 32, 33, 34, 36, 38, 39, 42, 43, 44, 45, 50, 51, 52, 55] h w162_24 → (0 ≤ k ∧ k ≤ al) → (-1 ≤ f ∧ f ≤ n) → (PQ (w162_24 103) lq k) → ((0 ≤ f → PSQ (w162_24 103) (w162_24 102) f) ∧ PSQ (w162_24 103) (w162_24 102) n) → (PAQ (w162_24 103) (w162_24 101) (w162_24 102)) → (∀ j : Int, 0 ≤ j → j < 3 * lq + 1 → (w162_24 80) (10 + j) = BW wq lq j) → (∀ j : Int, 0 ≤ j → j < 3 * lq + 1 → (w162_24 81) (10 + j) = BH eq lq j) → (2 * (al - k) + min 1 (f + 1)).toNat < k24 → TT K ly 0 0 162 [(0, vR 73), (1, vI n), (2, vI wq), (3, vI eq), (4, vI lq), (5, vI k), (6, vI f), (7, vI al)] [] w162_24 := by
                      intro k24
                      induction k24 with
                      | zero => intro k f w162_24 hT162_24 hF162_24 hk hf hpq hps hpa hbw hbh hk24; exact absurd hk24 (Nat.not_lt_zero _)
                      | succ k24 ih24 =>
                        intro k f w162_24 hT162_24 hF162_24 hk hf hpq hps hpa hbw hbh hk24
                        have ha := pu2 hal (by omega) (by omega)
                        have ha3 := pu2b hal (by omega) (by omega)
                        have J209_25 : TT K ly 0 0 209 [(0, vR 73), (1, vI n), (2, vI wq), (3, vI eq), (4, vI lq), (5, vI k)] [] w162_24 := by
                          refine TT_aload_n hK rfl 0 rfl dX12_decode_209 ?_
                          refine gf_X12_375 hK (by decide) rfl (v := (w162_24 73) 50) rfl dX12_decode_210 ?_
                          have r26 := ty_73_50 (v := (w162_24 73) 50) hT162_24 rfl
                          refine TT_if_eq hK (tgt := 222) (irm (by omega) (by omega)) dX12_decode_213 (by decide) (fun hb213_27 => ?_) (fun hb213_27 => ?_)
                          · refine TT_aload_n hK rfl 0 rfl dX12_decode_222 ?_
                            refine TT_iload_n hK rfl 2 rfl dX12_decode_223 ?_
                            refine pf_X12_392 hK (by decide) rfl dX12_decode_224 ?_
                            refine TT_hp (h' := setO w162_24 73 (fup (w162_24 73) 51 wq)) (up_can rfl rfl rfl) ?_
                            have hT_28 : TY (setO w162_24 73 (fup (w162_24 73) 51 wq)) := tu_73_51 hT162_24 (show up w162_24 73 51 wq = (setO w162_24 73 (fup (w162_24 73) 51 wq)) from up_can rfl rfl rfl) (by omega)
                            have hF_28 : FRM [73, 77, 78, 79, 80, 81, 82, 83, 84, 85, 86, 87, 88, 93, 94, 95, 96, 97, 98, 99, 101, 102, 103, 104, 105, 106] [2, 26, 27, 28, 29, 32, 33, 34, 36, 38, 39, 42, 43, 44, 45, 50, 51, 52, 55] h (setO w162_24 73 (fup (w162_24 73) 51 wq)) := FRM_f (show up w162_24 73 51 wq = (setO w162_24 73 (fup (w162_24 73) 51 wq)) from up_can rfl rfl rfl) hF162_24 (by decide) (by decide)
                            refine TT_aload_n hK rfl 0 rfl dX12_decode_227 ?_
                            refine TT_iload_n hK rfl 3 rfl dX12_decode_228 ?_
                            refine pf_X12_395 hK (by decide) rfl dX12_decode_229 ?_
                            refine TT_hp (h' := setO w162_24 73 (fup (fup (w162_24 73) 51 wq) 52 eq)) (up_can (sOf_eq _ _ _) rfl (setO_same _ _ _ _)) ?_
                            have hT_29 : TY (setO w162_24 73 (fup (fup (w162_24 73) 51 wq) 52 eq)) := tu_73_52 hT_28 (show up (setO w162_24 73 (fup (w162_24 73) 51 wq)) 73 52 eq = (setO w162_24 73 (fup (fup (w162_24 73) 51 wq) 52 eq)) from up_can (sOf_eq _ _ _) rfl (setO_same _ _ _ _)) (by omega)
                            have hF_29 : FRM [73, 77, 78, 79, 80, 81, 82, 83, 84, 85, 86, 87, 88, 93, 94, 95, 96, 97, 98, 99, 101, 102, 103, 104, 105, 106] [2, 26, 27, 28, 29, 32, 33, 34, 36, 38, 39, 42, 43, 44, 45, 50, 51, 52, 55] h (setO w162_24 73 (fup (fup (w162_24 73) 51 wq) 52 eq)) := FRM_f (show up (setO w162_24 73 (fup (w162_24 73) 51 wq)) 73 52 eq = (setO w162_24 73 (fup (fup (w162_24 73) 51 wq) 52 eq)) from up_can (sOf_eq _ _ _) rfl (setO_same _ _ _ _)) hF_28 (by decide) (by decide)
                            refine TT_aload_n hK rfl 0 rfl dX12_decode_232 ?_
                            refine TT_iconst hK dX12_decode_233 ?_
                            refine TT_iload hK 4 rfl dX12_decode_234 ?_
                            refine TT_imul hK dX12_decode_236 ?_
                            refine TT_iconst hK dX12_decode_237 ?_
                            refine TT_iadd hK dX12_decode_238 ?_
                            refine pf_X12_398 hK (by decide) rfl dX12_decode_239 ?_
                            refine TT_hp (h' := setO w162_24 73 (fup (fup (fup (w162_24 73) 51 wq) 52 eq) 55 ((3 * lq) + 1))) (up_can (sOf_eq _ _ _) rfl (setO_same _ _ _ _)) ?_
                            have hT_30 : TY (setO w162_24 73 (fup (fup (fup (w162_24 73) 51 wq) 52 eq) 55 ((3 * lq) + 1))) := tu_73_55 hT_29 (show up (setO w162_24 73 (fup (fup (w162_24 73) 51 wq) 52 eq)) 73 55 ((3 * lq) + 1) = (setO w162_24 73 (fup (fup (fup (w162_24 73) 51 wq) 52 eq) 55 ((3 * lq) + 1))) from up_can (sOf_eq _ _ _) rfl (setO_same _ _ _ _)) (by omega)
                            have hF_30 : FRM [73, 77, 78, 79, 80, 81, 82, 83, 84, 85, 86, 87, 88, 93, 94, 95, 96, 97, 98, 99, 101, 102, 103, 104, 105, 106] [2, 26, 27, 28, 29, 32, 33, 34, 36, 38, 39, 42, 43, 44, 45, 50, 51, 52, 55] h (setO w162_24 73 (fup (fup (fup (w162_24 73) 51 wq) 52 eq) 55 ((3 * lq) + 1))) := FRM_f (show up (setO w162_24 73 (fup (fup (w162_24 73) 51 wq) 52 eq)) 73 55 ((3 * lq) + 1) = (setO w162_24 73 (fup (fup (fup (w162_24 73) 51 wq) 52 eq) 55 ((3 * lq) + 1))) from up_can (sOf_eq _ _ _) rfl (setO_same _ _ _ _)) hF_29 (by decide) (by decide)
                            refine TT_iconst hK dX12_decode_242 ?_
                            refine TT_istore hK (lv' := [(8, vI 0), (0, vR 73), (1, vI n), (2, vI wq), (3, vI eq), (4, vI lq), (5, vI k)]) (by decide) rfl dX12_decode_243 ?_
                            have L245_31 : ∀ (k31 : Nat) (b : Int) (w245_31 : Hp_), TY w245_31 → FRM [73, 77, 78, 79, 80, 81, 82, 83, 84, 85, 86, 87, 88, 93, 94, 95, 96, 97, 98, 99, 101, 102, 103, 104, 105, 106] [2, 26, 27, 28, 29, 32, 33, 34, 36, 38, 39, 42, 43, 44, 45, 50, 51, 52, 55] h w245_31 → (0 ≤ b ∧ b ≤ 3 * lq + 1) → ((w245_31 73 55) = 3 * lq + 1) → (PSQ (w245_31 103) (w245_31 102) n) → (PAQ (w245_31 103) (w245_31 101) (w245_31 102)) → (∀ j : Int, 0 ≤ j → j < 3 * lq + 1 → (w245_31 80) (10 + j) = BW wq lq j) → (∀ j : Int, 0 ≤ j → j < 3 * lq + 1 → (w245_31 81) (10 + j) = BH eq lq j) → ((10 : Int) - b).toNat < k31 → TT K ly 0 0 245 [(0, vR 73), (1, vI n), (2, vI wq), (3, vI eq), (4, vI lq), (5, vI k), (8, vI b)] [] w245_31 := by
                              intro k31
                              induction k31 with
                              | zero => intro b w245_31 hT245_31 hF245_31 hb k55 hps2 hpa hbw hbh hk31; exact absurd hk31 (Nat.not_lt_zero _)
                              | succ k31 ih31 =>
                                intro b w245_31 hT245_31 hF245_31 hb k55 hps2 hpa hbw hbh hk31
                                refine TT_iload hK 6 rfl dX12_decode_245 ?_
                                refine TT_aload_n hK rfl 0 rfl dX12_decode_247 ?_
                                refine gf_X12_398 hK (by decide) rfl (v := (w245_31 73) 55) rfl dX12_decode_248 ?_
                                have r32 := ty_73_55 (v := (w245_31 73) 55) hT245_31 rfl
                                refine TT_icmp_ge hK (tgt := 298) (irm (by omega) (by omega)) (irm (by omega) (by omega)) dX12_decode_251 (by decide) (fun hb251_33 => ?_) (fun hb251_33 => ?_)
                                · refine TT_iload hK 4 rfl dX12_decode_298 ?_
                                  refine TT_iconst hK dX12_decode_300 ?_
                                  refine TT_isub hK dX12_decode_301 ?_
                                  refine TT_istore hK (lv' := [(8, vI (lq - 1)), (0, vR 73), (1, vI n), (2, vI wq), (3, vI eq), (4, vI lq), (5, vI k)]) (by decide) rfl dX12_decode_302 ?_
                                  have L304_34 : ∀ (k34 : Nat) (l2 : Int) (w304_34 : Hp_), TY w304_34 → FRM [73, 77, 78, 79, 80, 81, 82, 83, 84, 85, 86, 87, 88, 93, 94, 95, 96, 97, 98, 99, 101, 102, 103, 104, 105, 106] [2, 26, 27, 28, 29, 32, 33, 34, 36, 38, 39, 42, 43, 44, 45, 50, 51, 52, 55] h w304_34 → (-1 ≤ l2 ∧ l2 ≤ lq - 1) → (l2 + 1).toNat < k34 → TT K ly 0 0 304 [(0, vR 73), (1, vI n), (2, vI wq), (3, vI eq), (4, vI lq), (5, vI k), (8, vI l2)] [] w304_34 := by
                                    intro k34
                                    induction k34 with
                                    | zero => intro l2 w304_34 hT304_34 hF304_34 hl2 hk34; exact absurd hk34 (Nat.not_lt_zero _)
                                    | succ k34 ih34 =>
                                      intro l2 w304_34 hT304_34 hF304_34 hl2 hk34
                                      refine TT_iload hK 6 rfl dX12_decode_304 ?_
                                      refine TT_if_lt hK (tgt := 349) (irm (by omega) (by omega)) dX12_decode_306 (by decide) (fun hb306_35 => ?_) (fun hb306_35 => ?_)
                                      · refine TT_iconst hK dX12_decode_349 ?_
                                        refine TT_istore hK (lv' := [(8, vI 0), (0, vR 73), (1, vI n), (2, vI wq), (3, vI eq), (4, vI lq), (5, vI k)]) (by decide) rfl dX12_decode_350 ?_
                                        have L352_36 : ∀ (k36 : Nat) (k2 : Int) (w352_36 : Hp_), TY w352_36 → FRM [73, 77, 78, 79, 80, 81, 82, 83, 84, 85, 86, 87, 88, 93, 94, 95, 96, 97, 98, 99, 101, 102, 103, 104, 105, 106] [2, 26, 27, 28, 29, 32, 33, 34, 36, 38, 39, 42, 43, 44, 45, 50, 51, 52, 55] h w352_36 → (0 ≤ k2 ∧ k2 ≤ 64) → ((64 : Int) - k2).toNat < k36 → TT K ly 0 0 352 [(0, vR 73), (1, vI n), (2, vI wq), (3, vI eq), (4, vI lq), (5, vI k), (8, vI k2)] [] w352_36 := by
                                          intro k36
                                          induction k36 with
                                          | zero => intro k2 w352_36 hT352_36 hF352_36 hk2 hk36; exact absurd hk36 (Nat.not_lt_zero _)
                                          | succ k36 ih36 =>
                                            intro k2 w352_36 hT352_36 hF352_36 hk2 hk36
                                            refine TT_iload hK 6 rfl dX12_decode_352 ?_
                                            refine TT_bipush hK (by decide) dX12_decode_354 ?_
                                            refine TT_icmp_ge hK (tgt := 410) (irm (by omega) (by omega)) (by decide) dX12_decode_356 (by decide) (fun hb356_37 => ?_) (fun hb356_37 => ?_)
                                            · refine TT_iload hK 5 rfl dX12_decode_410 ?_
                                              refine TT_iret hK hQ ?_ dX12_decode_412
                                              exact ⟨⟨hT352_36, hF352_36⟩, k, rfl, (by omega)⟩
                                            · refine TT_aload_n hK rfl 0 rfl dX12_decode_359 ?_
                                              refine gf_X12_26 hK (by decide) rfl (q := 77) rfl rfl dX12_decode_360 ?_
                                              refine TT_iload hK 6 rfl dX12_decode_363 ?_
                                              refine TT_iald hK (o := 77) (n := 64) (by decide) rfl (by first | omega | (simp [up, setR] <;> omega)) (by first | omega | (simp [up, setR] <;> omega)) (v := (w352_36 77) k2) rfl dX12_decode_365 ?_
                                              have r38 := ty_77 (i := k2) (v := (w352_36 77) k2) hT352_36 rfl (by omega) (by omega)
                                              refine TT_sipush hK (by decide) dX12_decode_366 ?_
                                              refine TT_iadd hK dX12_decode_369 ?_
                                              refine TT_w32 (fun x370_39 hx39 => ?_)
                                              refine TT_istore hK (lv' := [(9, vI x370_39), (0, vR 73), (1, vI n), (2, vI wq), (3, vI eq), (4, vI lq), (5, vI k), (8, vI k2)]) (by decide) rfl dX12_decode_370 ?_
                                              refine TT_aload_n hK rfl 1 rfl dX12_decode_372 ?_
                                              refine gf_X12_111 hK (by decide) rfl (q := 105) rfl rfl dX12_decode_373 ?_
                                              refine TT_iload hK 7 rfl dX12_decode_376 ?_
                                              refine TT_iload hK 0 rfl dX12_decode_378 ?_
                                              refine TT_if_ge hK (tgt := 387) (irm (by omega) (by omega)) dX12_decode_380 (by decide) (fun hb380_40 => ?_) (fun hb380_40 => ?_)
                                              · refine TT_iload hK 0 rfl dX12_decode_387 ?_
                                                refine TT_sipush hK (by decide) dX12_decode_389 ?_
                                                refine TT_icmp_le hK (tgt := 401) (irm (by omega) (by omega)) (by decide) dX12_decode_392 (by decide) (fun hb392_41 => ?_) (fun hb392_41 => ?_)
                                                · refine TT_iload hK 0 rfl dX12_decode_401 ?_
                                                  refine TT_iast hK (o := 105) (n := 64) (by decide) rfl (by omega) (by omega) dX12_decode_403 ?_
                                                  refine TT_hp (h' := setO w352_36 105 (fup (w352_36 105) k2 x370_39)) (up_can rfl rfl rfl) ?_
                                                  have hT_42 : TY (setO w352_36 105 (fup (w352_36 105) k2 x370_39)) := tu_105 hT352_36 (show up w352_36 105 k2 x370_39 = (setO w352_36 105 (fup (w352_36 105) k2 x370_39)) from up_can rfl rfl rfl) (by omega)
                                                  have hF_42 : FRM [73, 77, 78, 79, 80, 81, 82, 83, 84, 85, 86, 87, 88, 93, 94, 95, 96, 97, 98, 99, 101, 102, 103, 104, 105, 106] [2, 26, 27, 28, 29, 32, 33, 34, 36, 38, 39, 42, 43, 44, 45, 50, 51, 52, 55] h (setO w352_36 105 (fup (w352_36 105) k2 x370_39)) := FRM_up (show up w352_36 105 k2 x370_39 = (setO w352_36 105 (fup (w352_36 105) k2 x370_39)) from up_can rfl rfl rfl) hF352_36 (by decide) (by decide)
                                                  refine TT_iinc hK (v := k2 + 1) (lv' := [(8, vI (k2 + 1)), (9, vI x370_39), (0, vR 73), (1, vI n), (2, vI wq), (3, vI eq), (4, vI lq), (5, vI k)]) 7 rfl rfl (by decide) rfl dX12_decode_404 ?_
                                                  refine TT_goto hK (tgt := 352) dX12_decode_407 (by decide) ?_
                                                  refine TT_sub [2, 3, 4, 5, 6, 7, 0] rfl ?_
                                                  exact ih36 (k2 + 1) (setO w352_36 105 (fup (w352_36 105) k2 x370_39)) hT_42 hF_42 (by first | omega | (simp [up, setR] <;> omega)) (by first | omega | (simp [up, setR] <;> omega))
                                                · refine TT_sipush hK (by decide) dX12_decode_395 ?_
                                                  refine TT_goto hK (tgt := 403) dX12_decode_398 (by decide) ?_
                                                  refine TT_iast hK (o := 105) (n := 64) (by decide) rfl (by omega) (by omega) dX12_decode_403 ?_
                                                  refine TT_hp (h' := setO w352_36 105 (fup (w352_36 105) k2 255)) (up_can rfl rfl rfl) ?_
                                                  have hT_43 : TY (setO w352_36 105 (fup (w352_36 105) k2 255)) := tu_105 hT352_36 (show up w352_36 105 k2 255 = (setO w352_36 105 (fup (w352_36 105) k2 255)) from up_can rfl rfl rfl) (by omega)
                                                  have hF_43 : FRM [73, 77, 78, 79, 80, 81, 82, 83, 84, 85, 86, 87, 88, 93, 94, 95, 96, 97, 98, 99, 101, 102, 103, 104, 105, 106] [2, 26, 27, 28, 29, 32, 33, 34, 36, 38, 39, 42, 43, 44, 45, 50, 51, 52, 55] h (setO w352_36 105 (fup (w352_36 105) k2 255)) := FRM_up (show up w352_36 105 k2 255 = (setO w352_36 105 (fup (w352_36 105) k2 255)) from up_can rfl rfl rfl) hF352_36 (by decide) (by decide)
                                                  refine TT_iinc hK (v := k2 + 1) (lv' := [(8, vI (k2 + 1)), (9, vI x370_39), (0, vR 73), (1, vI n), (2, vI wq), (3, vI eq), (4, vI lq), (5, vI k)]) 7 rfl rfl (by decide) rfl dX12_decode_404 ?_
                                                  refine TT_goto hK (tgt := 352) dX12_decode_407 (by decide) ?_
                                                  refine TT_sub [2, 3, 4, 5, 6, 7, 0] rfl ?_
                                                  exact ih36 (k2 + 1) (setO w352_36 105 (fup (w352_36 105) k2 255)) hT_43 hF_43 (by first | omega | (simp [up, setR] <;> omega)) (by first | omega | (simp [up, setR] <;> omega))
                                              · refine TT_iconst hK dX12_decode_383 ?_
                                                refine TT_goto hK (tgt := 403) dX12_decode_384 (by decide) ?_
                                                refine TT_iast hK (o := 105) (n := 64) (by decide) rfl (by omega) (by omega) dX12_decode_403 ?_
                                                refine TT_hp (h' := setO w352_36 105 (fup (w352_36 105) k2 0)) (up_can rfl rfl rfl) ?_
                                                have hT_44 : TY (setO w352_36 105 (fup (w352_36 105) k2 0)) := tu_105 hT352_36 (show up w352_36 105 k2 0 = (setO w352_36 105 (fup (w352_36 105) k2 0)) from up_can rfl rfl rfl) (by omega)
                                                have hF_44 : FRM [73, 77, 78, 79, 80, 81, 82, 83, 84, 85, 86, 87, 88, 93, 94, 95, 96, 97, 98, 99, 101, 102, 103, 104, 105, 106] [2, 26, 27, 28, 29, 32, 33, 34, 36, 38, 39, 42, 43, 44, 45, 50, 51, 52, 55] h (setO w352_36 105 (fup (w352_36 105) k2 0)) := FRM_up (show up w352_36 105 k2 0 = (setO w352_36 105 (fup (w352_36 105) k2 0)) from up_can rfl rfl rfl) hF352_36 (by decide) (by decide)
                                                refine TT_iinc hK (v := k2 + 1) (lv' := [(8, vI (k2 + 1)), (9, vI x370_39), (0, vR 73), (1, vI n), (2, vI wq), (3, vI eq), (4, vI lq), (5, vI k)]) 7 rfl rfl (by decide) rfl dX12_decode_404 ?_
                                                refine TT_goto hK (tgt := 352) dX12_decode_407 (by decide) ?_
                                                refine TT_sub [2, 3, 4, 5, 6, 7, 0] rfl ?_
                                                exact ih36 (k2 + 1) (setO w352_36 105 (fup (w352_36 105) k2 0)) hT_44 hF_44 (by first | omega | (simp [up, setR] <;> omega)) (by first | omega | (simp [up, setR] <;> omega))
                                        refine TT_sub [1, 2, 3, 4, 5, 6, 0] rfl ?_
                                        exact L352_36 ((((64 : Int) - 0).toNat) + 1) 0 w304_34 hT304_34 hF304_34 (by first | omega | (simp [up, setR] <;> omega)) (Nat.lt_succ_self _)
                                      · refine TT_aload_n hK rfl 0 rfl dX12_decode_309 ?_
                                        refine TT_iload_n hK rfl 2 rfl dX12_decode_310 ?_
                                        refine TT_iload hK 6 rfl dX12_decode_311 ?_
                                        refine iv_X12_153 hK (s_X12_left wq l2 w304_34 hT304_34 (by first | omega | (simp [up, setR] <;> omega)) (by first | omega | (simp [up, setR] <;> omega))) ⟨by decide, by decide⟩ (by decide) rfl rfl (Nat.le_of_ble_eq_true rfl) ⟨by decide, by decide⟩ dX12_decode_313 ?_
                                        intro r9 g313_45 hp9
                                        obtain ⟨⟨hT_45, hG_45⟩, z313_45, hr9, hz_45, p1_45⟩ := hp9
                                        rw [hr9]
                                        have hF_45 : FRM [73, 77, 78, 79, 80, 81, 82, 83, 84, 85, 86, 87, 88, 93, 94, 95, 96, 97, 98, 99, 101, 102, 103, 104, 105, 106] [2, 26, 27, 28, 29, 32, 33, 34, 36, 38, 39, 42, 43, 44, 45, 50, 51, 52, 55] h g313_45 := FRM_tr hF304_34 hG_45 (by decide) (by decide)
                                        show TT K ly 0 0 316 [(0, vR 73), (1, vI n), (2, vI wq), (3, vI eq), (4, vI lq), (5, vI k), (8, vI l2)] [vI z313_45, vR 73] g313_45
                                        refine TT_iload_n hK rfl 3 rfl dX12_decode_316 ?_
                                        refine TT_iload hK 6 rfl dX12_decode_317 ?_
                                        refine iv_X12_153 hK (s_X12_left eq l2 g313_45 hT_45 (by first | omega | (simp [up, setR] <;> omega)) (by first | omega | (simp [up, setR] <;> omega))) ⟨by decide, by decide⟩ (by decide) rfl rfl (Nat.le_of_ble_eq_true rfl) ⟨by decide, by decide⟩ dX12_decode_319 ?_
                                        intro r9 g319_46 hp9
                                        obtain ⟨⟨hT_46, hG_46⟩, z319_46, hr9, hz_46, p1_46⟩ := hp9
                                        rw [hr9]
                                        have hF_46 : FRM [73, 77, 78, 79, 80, 81, 82, 83, 84, 85, 86, 87, 88, 93, 94, 95, 96, 97, 98, 99, 101, 102, 103, 104, 105, 106] [2, 26, 27, 28, 29, 32, 33, 34, 36, 38, 39, 42, 43, 44, 45, 50, 51, 52, 55] h g319_46 := FRM_tr hF_45 hG_46 (by decide) (by decide)
                                        show TT K ly 0 0 322 [(0, vR 73), (1, vI n), (2, vI wq), (3, vI eq), (4, vI lq), (5, vI k), (8, vI l2)] [vI z319_46, vI z313_45, vR 73] g319_46
                                        refine TT_iconst hK dX12_decode_322 ?_
                                        refine iv_X12_339 hK (s_rows_1 z313_45 z319_46 g319_46 hT_46 (by first | omega | (simp [up, setR] <;> omega)) (by first | omega | (simp [up, setR] <;> omega))) (by decide) rfl ⟨by decide, by decide⟩ (by decide) rfl rfl (Nat.le_of_ble_eq_true rfl) ⟨by decide, by decide⟩ dX12_decode_323 ?_
                                        intro r9 g323_47 hp9
                                        obtain ⟨⟨hT_47, hG_47⟩, hr9⟩ := hp9
                                        rw [hr9]
                                        have hF_47 : FRM [73, 77, 78, 79, 80, 81, 82, 83, 84, 85, 86, 87, 88, 93, 94, 95, 96, 97, 98, 99, 101, 102, 103, 104, 105, 106] [2, 26, 27, 28, 29, 32, 33, 34, 36, 38, 39, 42, 43, 44, 45, 50, 51, 52, 55] h g323_47 := FRM_tr hF_46 hG_47 (by decide) (by decide)
                                        show TT K ly 0 0 326 [(0, vR 73), (1, vI n), (2, vI wq), (3, vI eq), (4, vI lq), (5, vI k), (8, vI l2)] [] g323_47
                                        refine TT_aload_n hK rfl 0 rfl dX12_decode_326 ?_
                                        refine TT_iload_n hK rfl 2 rfl dX12_decode_327 ?_
                                        refine TT_iload hK 6 rfl dX12_decode_328 ?_
                                        refine iv_X12_153 hK (s_X12_left wq l2 g323_47 hT_47 (by first | omega | (simp [up, setR] <;> omega)) (by first | omega | (simp [up, setR] <;> omega))) ⟨by decide, by decide⟩ (by decide) rfl rfl (Nat.le_of_ble_eq_true rfl) ⟨by decide, by decide⟩ dX12_decode_330 ?_
                                        intro r9 g330_48 hp9
                                        obtain ⟨⟨hT_48, hG_48⟩, z330_48, hr9, hz_48, p1_48⟩ := hp9
                                        rw [hr9]
                                        have hF_48 : FRM [73, 77, 78, 79, 80, 81, 82, 83, 84, 85, 86, 87, 88, 93, 94, 95, 96, 97, 98, 99, 101, 102, 103, 104, 105, 106] [2, 26, 27, 28, 29, 32, 33, 34, 36, 38, 39, 42, 43, 44, 45, 50, 51, 52, 55] h g330_48 := FRM_tr hF_47 hG_48 (by decide) (by decide)
                                        show TT K ly 0 0 333 [(0, vR 73), (1, vI n), (2, vI wq), (3, vI eq), (4, vI lq), (5, vI k), (8, vI l2)] [vI z330_48, vR 73] g330_48
                                        refine TT_iload_n hK rfl 3 rfl dX12_decode_333 ?_
                                        refine TT_iload hK 6 rfl dX12_decode_334 ?_
                                        refine iv_X12_153 hK (s_X12_left eq l2 g330_48 hT_48 (by first | omega | (simp [up, setR] <;> omega)) (by first | omega | (simp [up, setR] <;> omega))) ⟨by decide, by decide⟩ (by decide) rfl rfl (Nat.le_of_ble_eq_true rfl) ⟨by decide, by decide⟩ dX12_decode_336 ?_
                                        intro r9 g336_49 hp9
                                        obtain ⟨⟨hT_49, hG_49⟩, z336_49, hr9, hz_49, p1_49⟩ := hp9
                                        rw [hr9]
                                        have hF_49 : FRM [73, 77, 78, 79, 80, 81, 82, 83, 84, 85, 86, 87, 88, 93, 94, 95, 96, 97, 98, 99, 101, 102, 103, 104, 105, 106] [2, 26, 27, 28, 29, 32, 33, 34, 36, 38, 39, 42, 43, 44, 45, 50, 51, 52, 55] h g336_49 := FRM_tr hF_48 hG_49 (by decide) (by decide)
                                        show TT K ly 0 0 339 [(0, vR 73), (1, vI n), (2, vI wq), (3, vI eq), (4, vI lq), (5, vI k), (8, vI l2)] [vI z336_49, vI z330_48, vR 73] g336_49
                                        refine TT_iconst hK dX12_decode_339 ?_
                                        refine iv_X12_335 hK (s_columns_1 z330_48 z336_49 g336_49 hT_49 (by first | omega | (simp [up, setR] <;> omega)) (by first | omega | (simp [up, setR] <;> omega))) (by decide) rfl ⟨by decide, by decide⟩ (by decide) rfl rfl (Nat.le_of_ble_eq_true rfl) ⟨by decide, by decide⟩ dX12_decode_340 ?_
                                        intro r9 g340_50 hp9
                                        obtain ⟨⟨hT_50, hG_50⟩, hr9⟩ := hp9
                                        rw [hr9]
                                        have hF_50 : FRM [73, 77, 78, 79, 80, 81, 82, 83, 84, 85, 86, 87, 88, 93, 94, 95, 96, 97, 98, 99, 101, 102, 103, 104, 105, 106] [2, 26, 27, 28, 29, 32, 33, 34, 36, 38, 39, 42, 43, 44, 45, 50, 51, 52, 55] h g340_50 := FRM_tr hF_49 hG_50 (by decide) (by decide)
                                        show TT K ly 0 0 343 [(0, vR 73), (1, vI n), (2, vI wq), (3, vI eq), (4, vI lq), (5, vI k), (8, vI l2)] [] g340_50
                                        refine TT_iinc hK (v := l2 - 1) (lv' := [(8, vI (l2 - 1)), (0, vR 73), (1, vI n), (2, vI wq), (3, vI eq), (4, vI lq), (5, vI k)]) 6 rfl (by omega) (by decide) rfl dX12_decode_343 ?_
                                        refine TT_goto hK (tgt := 304) dX12_decode_346 (by decide) ?_
                                        refine TT_sub [1, 2, 3, 4, 5, 6, 0] rfl ?_
                                        exact ih34 (l2 - 1) g340_50 hT_50 hF_50 (by first | omega | (simp [up, setR] <;> omega)) (by first | omega | (simp [up, setR] <;> omega))
                                  refine TT_sub [1, 2, 3, 4, 5, 6, 0] rfl ?_
                                  exact L304_34 ((((lq - 1) + 1).toNat) + 1) (lq - 1) w245_31 hT245_31 hF245_31 (by first | omega | (simp [up, setR] <;> omega)) (Nat.lt_succ_self _)
                                · have k103 := ty_103 (i := b) (v := (w245_31 103) b) hT245_31 rfl (by omega) (by omega)
                                  have p103 := hps2 b (by omega) (by omega) k103.2
                                  refine TT_aload_n hK rfl 0 rfl dX12_decode_254 ?_
                                  refine gf_X12_114 hK (by decide) rfl (q := 106) rfl rfl dX12_decode_255 ?_
                                  refine TT_iload hK 6 rfl dX12_decode_258 ?_
                                  refine TT_aload_n hK rfl 0 rfl dX12_decode_260 ?_
                                  refine gf_X12_57 hK (by decide) rfl (q := 87) rfl rfl dX12_decode_261 ?_
                                  refine TT_bipush hK (by decide) dX12_decode_264 ?_
                                  refine TT_iload hK 6 rfl dX12_decode_266 ?_
                                  refine TT_iadd hK dX12_decode_268 ?_
                                  refine TT_iald hK (o := 87) (n := 20) (by decide) rfl (by first | omega | (simp [up, setR] <;> omega)) (by first | omega | (simp [up, setR] <;> omega)) (v := (w245_31 87) (10 + b)) rfl dX12_decode_269 ?_
                                  have r51 := ty_87 (i := 10 + b) (v := (w245_31 87) (10 + b)) hT245_31 rfl (by omega) (by omega)
                                  refine TT_iast hK (o := 106) (n := 10) (by decide) rfl (by omega) (by omega) dX12_decode_270 ?_
                                  refine TT_hp (h' := setO w245_31 106 (fup (w245_31 106) b ((w245_31 87) (10 + b)))) (up_can rfl rfl rfl) ?_
                                  have hT_52 : TY (setO w245_31 106 (fup (w245_31 106) b ((w245_31 87) (10 + b)))) := tu_106 hT245_31 (show up w245_31 106 b ((w245_31 87) (10 + b)) = (setO w245_31 106 (fup (w245_31 106) b ((w245_31 87) (10 + b)))) from up_can rfl rfl rfl) (by omega)
                                  have hF_52 : FRM [73, 77, 78, 79, 80, 81, 82, 83, 84, 85, 86, 87, 88, 93, 94, 95, 96, 97, 98, 99, 101, 102, 103, 104, 105, 106] [2, 26, 27, 28, 29, 32, 33, 34, 36, 38, 39, 42, 43, 44, 45, 50, 51, 52, 55] h (setO w245_31 106 (fup (w245_31 106) b ((w245_31 87) (10 + b)))) := FRM_up (show up w245_31 106 b ((w245_31 87) (10 + b)) = (setO w245_31 106 (fup (w245_31 106) b ((w245_31 87) (10 + b)))) from up_can rfl rfl rfl) hF245_31 (by decide) (by decide)
                                  refine TT_aload_n hK rfl 0 rfl dX12_decode_271 ?_
                                  refine TT_iload hK 6 rfl dX12_decode_272 ?_
                                  have e53_74 : (setO w245_31 106 (fup (w245_31 106) b ((w245_31 87) (10 + b)))) 74 = h 74 := (sOf_ne _ _ (by decide)).trans (hF245_31.1 74 (by decide))
                                  have e54_75 : (setO w245_31 106 (fup (w245_31 106) b ((w245_31 87) (10 + b)))) 75 = h 75 := (sOf_ne _ _ (by decide)).trans (hF245_31.1 75 (by decide))
                                  have e55_102 : (setO w245_31 106 (fup (w245_31 106) b ((w245_31 87) (10 + b)))) 102 = w245_31 102 := sOf_ne _ _ (by decide)
                                  have e56_103 : (setO w245_31 106 (fup (w245_31 106) b ((w245_31 87) (10 + b)))) 103 = w245_31 103 := sOf_ne _ _ (by decide)
                                  have e57_101 : (setO w245_31 106 (fup (w245_31 106) b ((w245_31 87) (10 + b)))) 101 = w245_31 101 := sOf_ne _ _ (by decide)
                                  have e58_102 : (setO w245_31 106 (fup (w245_31 106) b ((w245_31 87) (10 + b)))) 102 = w245_31 102 := sOf_ne _ _ (by decide)
                                  have e59_103 : (setO w245_31 106 (fup (w245_31 106) b ((w245_31 87) (10 + b)))) 103 = w245_31 103 := sOf_ne _ _ (by decide)
                                  refine iv_X12_401 hK (s_X12_readBand_73 b (setO w245_31 106 (fup (w245_31 106) b ((w245_31 87) (10 + b)))) hT_52 (by first | omega | (simp [up, setR] <;> omega)) (by rewrite [e53_74, e54_75]; first | assumption | exact htb) (by rewrite [e55_102, e56_103]; omega) (by rewrite [e57_101, e58_102, e59_103]; intro k h1 h2; exact hpa b k (by omega) (by omega) h1 h2 (by omega))) (by decide) rfl ⟨by decide, by decide⟩ (by decide) rfl rfl (Nat.le_of_ble_eq_true rfl) ⟨by decide, by decide⟩ dX12_decode_274 ?_
                                  intro r9 g274_60 hp9
                                  obtain ⟨⟨hT_60, hG_60⟩, hr9⟩ := hp9
                                  rw [hr9]
                                  have hF_60 : FRM [73, 77, 78, 79, 80, 81, 82, 83, 84, 85, 86, 87, 88, 93, 94, 95, 96, 97, 98, 99, 101, 102, 103, 104, 105, 106] [2, 26, 27, 28, 29, 32, 33, 34, 36, 38, 39, 42, 43, 44, 45, 50, 51, 52, 55] h g274_60 := FRM_tr hF_52 hG_60 (by decide) (by decide)
                                  show TT K ly 0 0 277 [(0, vR 73), (1, vI n), (2, vI wq), (3, vI eq), (4, vI lq), (5, vI k), (8, vI b)] [] g274_60
                                  refine TT_aload_n hK rfl 0 rfl dX12_decode_277 ?_
                                  refine TT_iload hK 6 rfl dX12_decode_278 ?_
                                  refine TT_iload hK 6 rfl dX12_decode_280 ?_
                                  refine TT_iload_n hK rfl 2 rfl dX12_decode_282 ?_
                                  refine TT_iload_n hK rfl 3 rfl dX12_decode_283 ?_
                                  refine TT_iload hK 4 rfl dX12_decode_284 ?_
                                  refine iv_X12_348 hK (s_corner_x b wq eq lq g274_60 hT_60 (by first | omega | (simp [up, setR] <;> omega)) (by first | omega | (simp [up, setR] <;> omega)) (by first | omega | (simp [up, setR] <;> omega)) (by first | omega | (simp [up, setR] <;> omega))) ⟨by decide, by decide⟩ (by decide) rfl rfl (Nat.le_of_ble_eq_true rfl) ⟨by decide, by decide⟩ dX12_decode_286 ?_
                                  intro r9 g286_61 hp9
                                  obtain ⟨⟨hT_61, hG_61⟩, z286_61, hr9, hz_61, p1_61⟩ := hp9
                                  rw [hr9]
                                  have hF_61 : FRM [73, 77, 78, 79, 80, 81, 82, 83, 84, 85, 86, 87, 88, 93, 94, 95, 96, 97, 98, 99, 101, 102, 103, 104, 105, 106] [2, 26, 27, 28, 29, 32, 33, 34, 36, 38, 39, 42, 43, 44, 45, 50, 51, 52, 55] h g286_61 := FRM_tr hF_60 hG_61 (by decide) (by decide)
                                  have p1_at286 := p1_61
                                  show TT K ly 0 0 289 [(0, vR 73), (1, vI n), (2, vI wq), (3, vI eq), (4, vI lq), (5, vI k), (8, vI b)] [vI z286_61, vI b, vR 73] g286_61
                                  have e62_80 : g286_61 80 = w245_31 80 := ((hG_61.1 80 (by decide))).trans (((hG_60.1 80 (by decide))).trans (sOf_ne _ _ (by decide)))
                                  have e63_81 : g286_61 81 = w245_31 81 := ((hG_61.1 81 (by decide))).trans (((hG_60.1 81 (by decide))).trans (sOf_ne _ _ (by decide)))
                                  refine iv_X12_404 hK (s_X12_unloadBand_73 b z286_61 g286_61 hT_61 (by first | omega | (simp [up, setR] <;> omega)) (by rewrite [e62_80, e63_81]; rw [hbw b (by omega) (by omega), hbh b (by omega) (by omega)]; exact p1_at286)) (by decide) rfl ⟨by decide, by decide⟩ (by decide) rfl rfl (Nat.le_of_ble_eq_true rfl) ⟨by decide, by decide⟩ dX12_decode_289 ?_
                                  intro r9 g289_64 hp9
                                  obtain ⟨⟨hT_64, hG_64⟩, hr9⟩ := hp9
                                  rw [hr9]
                                  have hF_64 : FRM [73, 77, 78, 79, 80, 81, 82, 83, 84, 85, 86, 87, 88, 93, 94, 95, 96, 97, 98, 99, 101, 102, 103, 104, 105, 106] [2, 26, 27, 28, 29, 32, 33, 34, 36, 38, 39, 42, 43, 44, 45, 50, 51, 52, 55] h g289_64 := FRM_tr hF_61 hG_64 (by decide) (by decide)
                                  show TT K ly 0 0 292 [(0, vR 73), (1, vI n), (2, vI wq), (3, vI eq), (4, vI lq), (5, vI k), (8, vI b)] [] g289_64
                                  refine TT_iinc hK (v := b + 1) (lv' := [(8, vI (b + 1)), (0, vR 73), (1, vI n), (2, vI wq), (3, vI eq), (4, vI lq), (5, vI k)]) 6 rfl rfl (by decide) rfl dX12_decode_292 ?_
                                  refine TT_goto hK (tgt := 245) dX12_decode_295 (by decide) ?_
                                  refine TT_sub [1, 2, 3, 4, 5, 6, 0] rfl ?_
                                  have e65_73_55 : g289_64 73 55 = (w245_31 73) 55 := (congrFun (hG_64.1 73 (by decide)) 55).trans ((congrFun (hG_61.1 73 (by decide)) 55).trans (((hG_60.2 55 (by decide))).trans (rd_ (sOf_ne _ _ (by decide)) rfl)))
                                  have e66_102 : g289_64 102 = w245_31 102 := ((hG_64.1 102 (by decide))).trans (((hG_61.1 102 (by decide))).trans (((hG_60.1 102 (by decide))).trans (sOf_ne _ _ (by decide))))
                                  have e67_103 : g289_64 103 = w245_31 103 := ((hG_64.1 103 (by decide))).trans (((hG_61.1 103 (by decide))).trans (((hG_60.1 103 (by decide))).trans (sOf_ne _ _ (by decide))))
                                  have e68_101 : g289_64 101 = w245_31 101 := ((hG_64.1 101 (by decide))).trans (((hG_61.1 101 (by decide))).trans (((hG_60.1 101 (by decide))).trans (sOf_ne _ _ (by decide))))
                                  have e69_102 : g289_64 102 = w245_31 102 := ((hG_64.1 102 (by decide))).trans (((hG_61.1 102 (by decide))).trans (((hG_60.1 102 (by decide))).trans (sOf_ne _ _ (by decide))))
                                  have e70_103 : g289_64 103 = w245_31 103 := ((hG_64.1 103 (by decide))).trans (((hG_61.1 103 (by decide))).trans (((hG_60.1 103 (by decide))).trans (sOf_ne _ _ (by decide))))
                                  have e71_80 : g289_64 80 = w245_31 80 := ((hG_64.1 80 (by decide))).trans (((hG_61.1 80 (by decide))).trans (((hG_60.1 80 (by decide))).trans (sOf_ne _ _ (by decide))))
                                  have e72_81 : g289_64 81 = w245_31 81 := ((hG_64.1 81 (by decide))).trans (((hG_61.1 81 (by decide))).trans (((hG_60.1 81 (by decide))).trans (sOf_ne _ _ (by decide))))
                                  exact ih31 (b + 1) g289_64 hT_64 hF_64 (by first | omega | (simp [up, setR] <;> omega)) (by rewrite [e65_73_55]; first | omega | (simp [up, setR] <;> omega)) (by rewrite [e66_102, e67_103]; exact hps2) (by rewrite [e68_101, e69_102, e70_103]; exact hpa) (by rewrite [e71_80]; exact hbw) (by rewrite [e72_81]; exact hbh) (by first | omega | (simp [up, setR] <;> omega))
                            refine TT_sub [1, 2, 3, 4, 5, 6, 0] rfl ?_
                            have e73_73_55 : (setO w162_24 73 (fup (fup (fup (w162_24 73) 51 wq) 52 eq) 55 ((3 * lq) + 1))) 73 55 = (3 * lq) + 1 := rd_ (sOf_eq _ _ _) (fup_eq _ _ _)
                            have e74_102 : (setO w162_24 73 (fup (fup (fup (w162_24 73) 51 wq) 52 eq) 55 ((3 * lq) + 1))) 102 = w162_24 102 := sOf_ne _ _ (by decide)
                            have e75_103 : (setO w162_24 73 (fup (fup (fup (w162_24 73) 51 wq) 52 eq) 55 ((3 * lq) + 1))) 103 = w162_24 103 := sOf_ne _ _ (by decide)
                            have e76_101 : (setO w162_24 73 (fup (fup (fup (w162_24 73) 51 wq) 52 eq) 55 ((3 * lq) + 1))) 101 = w162_24 101 := sOf_ne _ _ (by decide)
                            have e77_102 : (setO w162_24 73 (fup (fup (fup (w162_24 73) 51 wq) 52 eq) 55 ((3 * lq) + 1))) 102 = w162_24 102 := sOf_ne _ _ (by decide)
                            have e78_103 : (setO w162_24 73 (fup (fup (fup (w162_24 73) 51 wq) 52 eq) 55 ((3 * lq) + 1))) 103 = w162_24 103 := sOf_ne _ _ (by decide)
                            have e79_80 : (setO w162_24 73 (fup (fup (fup (w162_24 73) 51 wq) 52 eq) 55 ((3 * lq) + 1))) 80 = w162_24 80 := sOf_ne _ _ (by decide)
                            have e80_81 : (setO w162_24 73 (fup (fup (fup (w162_24 73) 51 wq) 52 eq) 55 ((3 * lq) + 1))) 81 = w162_24 81 := sOf_ne _ _ (by decide)
                            exact L245_31 ((((10 : Int) - 0).toNat) + 1) 0 (setO w162_24 73 (fup (fup (fup (w162_24 73) 51 wq) 52 eq) 55 ((3 * lq) + 1))) hT_30 hF_30 (by first | omega | (simp [up, setR] <;> omega)) (by rewrite [e73_73_55]; first | omega | (simp [up, setR] <;> omega)) (by rewrite [e74_102, e75_103]; exact hps.2) (by rewrite [e76_101, e77_102, e78_103]; exact hpa) (by rewrite [e79_80]; exact hbw) (by rewrite [e80_81]; exact hbh) (Nat.lt_succ_self _)
                          · refine TT_aload_n hK rfl 0 rfl dX12_decode_216 ?_
                            refine TT_iconst hK dX12_decode_217 ?_
                            refine iv_X12_385 hK (s_X12_refuse_73 1 w162_24 hT162_24 (by first | omega | (simp [up, setR] <;> omega))) (by decide) rfl ⟨by decide, by decide⟩ (by decide) rfl rfl (Nat.le_of_ble_eq_true rfl) ⟨by decide, by decide⟩ dX12_decode_218 ?_
                            intro r9 g218_81 hp9
                            obtain ⟨⟨hT_81, hG_81⟩, z218_81, hr9, hz_81⟩ := hp9
                            rw [hr9]
                            have hF_81 : FRM [73, 77, 78, 79, 80, 81, 82, 83, 84, 85, 86, 87, 88, 93, 94, 95, 96, 97, 98, 99, 101, 102, 103, 104, 105, 106] [2, 26, 27, 28, 29, 32, 33, 34, 36, 38, 39, 42, 43, 44, 45, 50, 51, 52, 55] h g218_81 := FRM_tr hF162_24 hG_81 (by decide) (by decide)
                            show TT K ly 0 0 221 [(0, vR 73), (1, vI n), (2, vI wq), (3, vI eq), (4, vI lq), (5, vI k)] [vI z218_81] g218_81
                            refine TT_iret hK hQ ?_ dX12_decode_221
                            exact ⟨⟨hT_81, hF_81⟩, z218_81, rfl, (by omega)⟩
                        refine TT_iload hK 6 rfl dX12_decode_162 ?_
                        refine TT_if_lt hK (tgt := 209) (irm (by omega) (by omega)) dX12_decode_164 (by decide) (fun hb164_82 => ?_) (fun hb164_82 => ?_)
                        · refine TT_sub [0, 1, 2, 3, 4, 5] rfl ?_
                          exact J209_25  
                        · refine TT_iload hK 5 rfl dX12_decode_167 ?_
                          refine TT_iload hK 7 rfl dX12_decode_169 ?_
                          refine TT_icmp_ge hK (tgt := 209) (irm (by omega) (by omega)) (irm (by omega) (by omega)) dX12_decode_171 (by decide) (fun hb171_83 => ?_) (fun hb171_83 => ?_)
                          · refine TT_sub [0, 1, 2, 3, 4, 5] rfl ?_
                            exact J209_25  
                          · refine TT_aload_n hK rfl 0 rfl dX12_decode_174 ?_
                            refine TT_iload hK 5 rfl dX12_decode_175 ?_
                            refine TT_iload hK 4 rfl dX12_decode_177 ?_
                            refine TT_iconst hK dX12_decode_179 ?_
                            refine TT_iadd hK dX12_decode_180 ?_
                            refine TT_iremn hK (irm (by omega) (by omega)) (irm (by omega) (by omega)) (by first | omega | (simp [up, setR] <;> omega)) (by first | omega | (simp [up, setR] <;> omega)) dX12_decode_181 ?_
                            refine TT_nmI (fun u9 hu9 => ?_)
                            refine TT_iload hK 6 rfl dX12_decode_182 ?_
                            have hu := pu3 k (l := lq) (by omega)
                            rw [← hu9] at hu
                            refine TT_iload_n hK rfl 1 rfl dX12_decode_184 ?_
                            refine iv_X12_388 hK (s_X12_getPacket_73 u9 f n w162_24 hT162_24 (by first | omega | (simp [up, setR] <;> omega)) (by first | omega | (simp [up, setR] <;> omega)) (by first | omega | (simp [up, setR] <;> omega)) (by exact PQ_2 hpq (by omega) (by omega) (by omega) hu9) (by exact hps.1 (by omega)) (by exact hpa)) (by decide) rfl ⟨by decide, by decide⟩ (by decide) rfl rfl (Nat.le_of_ble_eq_true rfl) ⟨by decide, by decide⟩ dX12_decode_185 ?_
                            intro r9 g185_84 hp9
                            obtain ⟨⟨hT_84, hG_84⟩, z185_84, hr9, hz_84, q0_84, q1_84, q2_84⟩ := hp9
                            rw [hr9]
                            have hF_84 : FRM [73, 77, 78, 79, 80, 81, 82, 83, 84, 85, 86, 87, 88, 93, 94, 95, 96, 97, 98, 99, 101, 102, 103, 104, 105, 106] [2, 26, 27, 28, 29, 32, 33, 34, 36, 38, 39, 42, 43, 44, 45, 50, 51, 52, 55] h g185_84 := FRM_tr hF162_24 hG_84 (by decide) (by decide)
                            have q0_at185 := q0_84
                            have q1_at185 := q1_84
                            have q2_at185 := q2_84
                            show TT K ly 0 0 188 [(0, vR 73), (1, vI n), (2, vI wq), (3, vI eq), (4, vI lq), (5, vI k), (6, vI f), (7, vI al)] [vI z185_84] g185_84
                            refine TT_istore hK (lv' := [(6, vI z185_84), (0, vR 73), (1, vI n), (2, vI wq), (3, vI eq), (4, vI lq), (5, vI k), (7, vI al)]) (by decide) rfl dX12_decode_188 ?_
                            refine TT_iload hK 0 rfl dX12_decode_190 ?_
                            refine TT_if_ge hK (tgt := 200) (irm (by omega) (by omega)) dX12_decode_192 (by decide) (fun hb192_85 => ?_) (fun hb192_85 => ?_)
                            · refine TT_iload hK 6 rfl dX12_decode_200 ?_
                              refine TT_iconst hK dX12_decode_202 ?_
                              refine TT_iadd hK dX12_decode_203 ?_
                              refine TT_istore hK (lv' := [(5, vI (k + 1)), (6, vI z185_84), (0, vR 73), (1, vI n), (2, vI wq), (3, vI eq), (4, vI lq), (7, vI al)]) (by decide) rfl dX12_decode_204 ?_
                              refine TT_goto hK (tgt := 162) dX12_decode_206 (by decide) ?_
                              refine TT_sub [2, 3, 4, 5, 6, 0, 1, 7] rfl ?_
                              have e86_80 : g185_84 80 = w162_24 80 := (hG_84.1 80 (by decide))
                              have e87_81 : g185_84 81 = w162_24 81 := (hG_84.1 81 (by decide))
                              exact ih24 (k + 1) z185_84 g185_84 hT_84 hF_84 (by first | omega | (simp [up, setR] <;> omega)) (by first | omega | (simp [up, setR] <;> omega)) (by first | exact PQ_s hpq (by omega) hu9 (q2_at185 (by omega)).1 | (rw [(q1_at185 (by omega)).1]; exact hpq)) (by first | exact ⟨fun _ => (q2_at185 (by omega)).2.1, PSQ_m (q2_at185 (by omega)).2.1 q0_at185⟩ | (rw [(q1_at185 (by omega)).1, (q1_at185 (by omega)).2.1]; exact ⟨fun h1 => by exfalso; omega, hps.2⟩)) (by first | exact (q2_at185 (by omega)).2.2 | (rw [(q1_at185 (by omega)).1, (q1_at185 (by omega)).2.1, (q1_at185 (by omega)).2.2]; exact hpa)) (by rewrite [e86_80]; exact hbw) (by rewrite [e87_81]; exact hbh) (by first | omega | (simp [up, setR] <;> omega))
                            · refine TT_iload hK 6 rfl dX12_decode_195 ?_
                              refine TT_goto hK (tgt := 204) dX12_decode_197 (by decide) ?_
                              refine TT_istore hK (lv' := [(5, vI k), (6, vI z185_84), (0, vR 73), (1, vI n), (2, vI wq), (3, vI eq), (4, vI lq), (7, vI al)]) (by decide) rfl dX12_decode_204 ?_
                              refine TT_goto hK (tgt := 162) dX12_decode_206 (by decide) ?_
                              refine TT_sub [2, 3, 4, 5, 6, 0, 1, 7] rfl ?_
                              have e88_80 : g185_84 80 = w162_24 80 := (hG_84.1 80 (by decide))
                              have e89_81 : g185_84 81 = w162_24 81 := (hG_84.1 81 (by decide))
                              exact ih24 k z185_84 g185_84 hT_84 hF_84 (by first | omega | (simp [up, setR] <;> omega)) (by first | omega | (simp [up, setR] <;> omega)) (by first | exact PQ_s hpq (by omega) hu9 (q2_at185 (by omega)).1 | (rw [(q1_at185 (by omega)).1]; exact hpq)) (by first | exact ⟨fun _ => (q2_at185 (by omega)).2.1, PSQ_m (q2_at185 (by omega)).2.1 q0_at185⟩ | (rw [(q1_at185 (by omega)).1, (q1_at185 (by omega)).2.1]; exact ⟨fun h1 => by exfalso; omega, hps.2⟩)) (by first | exact (q2_at185 (by omega)).2.2 | (rw [(q1_at185 (by omega)).1, (q1_at185 (by omega)).2.1, (q1_at185 (by omega)).2.2]; exact hpa)) (by rewrite [e88_80]; exact hbw) (by rewrite [e89_81]; exact hbh) (by first | omega | (simp [up, setR] <;> omega))
                    refine TT_sub [3, 4, 5, 6, 7, 2, 1, 0] rfl ?_
                    have e90_103 : (setO w117_20 73 (fup (w117_20 73) 50 0)) 103 = w117_20 103 := sOf_ne _ _ (by decide)
                    have e91_102 : (setO w117_20 73 (fup (w117_20 73) 50 0)) 102 = w117_20 102 := sOf_ne _ _ (by decide)
                    have e92_103 : (setO w117_20 73 (fup (w117_20 73) 50 0)) 103 = w117_20 103 := sOf_ne _ _ (by decide)
                    have e93_101 : (setO w117_20 73 (fup (w117_20 73) 50 0)) 101 = w117_20 101 := sOf_ne _ _ (by decide)
                    have e94_102 : (setO w117_20 73 (fup (w117_20 73) 50 0)) 102 = w117_20 102 := sOf_ne _ _ (by decide)
                    have e95_103 : (setO w117_20 73 (fup (w117_20 73) 50 0)) 103 = w117_20 103 := sOf_ne _ _ (by decide)
                    have e96_80 : (setO w117_20 73 (fup (w117_20 73) 50 0)) 80 = w117_20 80 := sOf_ne _ _ (by decide)
                    have e97_81 : (setO w117_20 73 (fup (w117_20 73) 50 0)) 81 = w117_20 81 := sOf_ne _ _ (by decide)
                    have ha := pu2 hal (by omega) (by omega)
                    exact L162_24 (((2 * (al - 0) + min 1 (4 + 1)).toNat) + 1) 0 4 (setO w117_20 73 (fup (w117_20 73) 50 0)) hT_22 hF_22 (by first | omega | (simp [up, setR] <;> omega)) (by first | omega | (simp [up, setR] <;> omega)) (by rewrite [e90_103]; exact PQ_0 (fun t h1 h2 => hpz t h1 (by omega)) (by omega)) (by rewrite [e91_102, e92_103]; exact ⟨fun _ => PSQ_0 (fun t h1 h2 => hpz t h1 (by omega)) (by omega), PSQ_0 (fun t h1 h2 => hpz t h1 (by omega)) (by omega)⟩) (by rewrite [e93_101, e94_102, e95_103]; intro j k h0 h1 h2 h3 h4; rw [hpz j h0 (by omega)] at h3; exfalso; omega) (by rewrite [e96_80]; exact hbw) (by rewrite [e97_81]; exact hbh) (Nat.lt_succ_self _)
                  · refine TT_aload_n hK rfl 0 rfl dX12_decode_124 ?_
                    refine gf_X12_105 hK (by decide) rfl (q := 103) rfl rfl dX12_decode_125 ?_
                    refine TT_iload hK 5 rfl dX12_decode_128 ?_
                    refine TT_iconst hK dX12_decode_130 ?_
                    refine TT_iast hK (o := 103) (n := 10) (by decide) rfl (by omega) (by omega) dX12_decode_131 ?_
                    refine TT_hp (h' := setO w117_20 103 (fup (w117_20 103) j9 0)) (up_can rfl rfl rfl) ?_
                    have hT_98 : TY (setO w117_20 103 (fup (w117_20 103) j9 0)) := tu_103 hT117_20 (show up w117_20 103 j9 0 = (setO w117_20 103 (fup (w117_20 103) j9 0)) from up_can rfl rfl rfl) (by omega)
                    have hF_98 : FRM [73, 77, 78, 79, 80, 81, 82, 83, 84, 85, 86, 87, 88, 93, 94, 95, 96, 97, 98, 99, 101, 102, 103, 104, 105, 106] [2, 26, 27, 28, 29, 32, 33, 34, 36, 38, 39, 42, 43, 44, 45, 50, 51, 52, 55] h (setO w117_20 103 (fup (w117_20 103) j9 0)) := FRM_up (show up w117_20 103 j9 0 = (setO w117_20 103 (fup (w117_20 103) j9 0)) from up_can rfl rfl rfl) hF117_20 (by decide) (by decide)
                    refine TT_iinc hK (v := j9 + 1) (lv' := [(5, vI (j9 + 1)), (0, vR 73), (1, vI n), (2, vI wq), (3, vI eq), (4, vI lq)]) 5 rfl rfl (by decide) rfl dX12_decode_132 ?_
                    refine TT_goto hK (tgt := 117) dX12_decode_135 (by decide) ?_
                    refine TT_sub [1, 2, 3, 4, 5, 0] rfl ?_
                    have e99_103 : (setO w117_20 103 (fup (w117_20 103) j9 0)) 103 = fup (w117_20 103) j9 0 := sOf_eq _ _ _
                    have e100_80 : (setO w117_20 103 (fup (w117_20 103) j9 0)) 80 = w117_20 80 := sOf_ne _ _ (by decide)
                    have e101_81 : (setO w117_20 103 (fup (w117_20 103) j9 0)) 81 = w117_20 81 := sOf_ne _ _ (by decide)
                    exact ih20 (j9 + 1) (setO w117_20 103 (fup (w117_20 103) j9 0)) hT_98 hF_98 (by first | omega | (simp [up, setR] <;> omega)) (by rewrite [e99_103]; intro t h1 h2; by_cases e : t = j9; (rw [e, fup_eq]); (rw [fup_ne _ _ e]; exact hpz t h1 (by omega))) (by rewrite [e100_80]; exact hbw) (by rewrite [e101_81]; exact hbh) (by first | omega | (simp [up, setR] <;> omega))
              refine TT_sub [4, 5, 3, 2, 1, 0] rfl ?_
              have e102_103 : g111_19 103 = h 103 := ((hG_19.1 103 (by decide))).trans (((hG_17.1 103 (by decide))).trans (((hG_14.1 103 (by decide))).trans (((hG_11.1 103 (by decide))).trans (((hG_8.1 103 (by decide))).trans (sOf_ne _ _ (by decide))))))
              exact L117_20 ((((10 : Int) - 0).toNat) + 1) 0 g111_19 hT_19 hF_19 (by first | omega | (simp [up, setR] <;> omega)) (by rewrite [e102_103]; intro t h1 h2; exfalso; omega) (by exact q1_at111) (by exact q2_at111) (Nat.lt_succ_self _)
            · exact J76_2 g70_17 hT_17 hF_17 

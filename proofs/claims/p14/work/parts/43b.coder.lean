theorem NDC {a q p s ot : Int} (tq : (1 ≤ q ∧ q ≤ 22017) ∧ (0 ≤ p % 100 ∧ p % 100 ≤ 46) ∧ (0 ≤ p / 100 ∧ p / 100 ≤ 46) ∧ ndb q + phS (p % 100) ≤ 9 + phS s ∧ phS (p / 100) ≤ 7 + phS s ∧ phS (p % 100) ≤ 7 + phS s) (ho : ot = 0 ∨ ot = 1) (hc : 8192 ≤ a ∨ (ot = 1 ∧ a = q)) : ndb a + phS (if ot = 0 then p / 100 else p % 100) ≤ 9 + phS s := by
  rcases hc with h | ⟨rfl, rfl⟩
  · have := ndb_s h
    rcases ho with rfl | rfl
    · rw [if_pos rfl]; omega
    · rw [if_neg (by decide)]; omega
  · rw [if_neg (by decide)]; omega
set_option maxRecDepth 20000 in
theorem s_X12_putOut_73 (h : Hp_) (hT : TY h) (hn : 1 ≤ (h 73 36) ∧ (h 73 36) ≤ 3199) : Ctr yX12_putOut cX12_putOut 4 none (rmd 0) ly ly 0 0 [vR 73] h (fun r h' => (TY h' ∧ FRM [73, 98] [33, 34, 36] h h') ∧ r = none ∧ ((h' 73 36) = (h 73 36) + 1) ∧ (7 ≤ (h' 73 34))) := by
  refine Ctr_of (by decide) (Nat.le_of_ble_eq_true rfl) ⟨Nat.le_refl _, Nat.le_refl _⟩ (fun K hK hQ _ => ?_)
  show TT K ly 0 0 0 [(0, vR 73)] [] h
  have hF : FRM [73, 98] [33, 34, 36] h h := FRM_rf _ _ _
  have J79_1 : ∀ (w79_1 : Hp_), TY w79_1 → FRM [73, 98] [33, 34, 36] h w79_1 → ((w79_1 73 36) = h 73 36) → TT K ly 0 0 79 [(0, vR 73)] [] w79_1 := by
    intro w79_1 hT79_1 hF79_1 hn1
    refine TT_aload_n hK rfl 0 rfl dX12_putOut_79 ?_
    refine gf_X12_90 hK (by decide) rfl (q := 98) rfl rfl dX12_putOut_80 ?_
    refine TT_aload_n hK rfl 0 rfl dX12_putOut_83 ?_
    refine gf_X12_166 hK (by decide) rfl (v := (w79_1 73) 36) rfl dX12_putOut_84 ?_
    have r2 := ty_73_36 (v := (w79_1 73) 36) hT79_1 rfl
    refine TT_iconst hK dX12_putOut_87 ?_
    refine TT_isub hK dX12_putOut_88 ?_
    refine TT_iald hK (o := 98) (n := 3200) (by decide) rfl (by first | omega | (simp [up, setR] <;> omega)) (by first | omega | (simp [up, setR] <;> omega)) (v := (w79_1 98) (((w79_1 73) 36) - 1)) rfl dX12_putOut_89 ?_
    have r3 := ty_98 (i := ((w79_1 73) 36) - 1) (v := (w79_1 98) (((w79_1 73) 36) - 1)) hT79_1 rfl (by omega) (by omega)
    refine TT_sipush hK (by decide) dX12_putOut_90 ?_
    refine TT_icmp_ne hK (tgt := 100) (irm (by omega) (by omega)) (by decide) dX12_putOut_93 (by decide) (fun hb93_4 => ?_) (fun hb93_4 => ?_)
    · refine TT_iconst hK dX12_putOut_100 ?_
      refine TT_istore_n hK rfl (lv' := [(1, vI 0), (0, vR 73)]) (by decide) rfl dX12_putOut_101 ?_
      refine TT_iload_n hK rfl 0 rfl dX12_putOut_102 ?_
      refine TT_if_eq hK (tgt := 112) (by decide) dX12_putOut_103 (by decide) (fun hb103_5 => ?_) (fun hb103_5 => ?_)
      · refine TT_ldc2 hK lc_X12_185 dX12_putOut_112 ?_
        refine TT_lstore_n hK rfl (lv' := [(2, vJ 524288), (1, vI 0), (0, vR 73)]) (by decide) rfl dX12_putOut_115 ?_
        refine TT_aload_n hK rfl 2 rfl dX12_putOut_116 ?_
        refine gf_X12_90 hK (by decide) rfl (q := 98) rfl rfl dX12_putOut_117 ?_
        refine TT_aload_n hK rfl 2 rfl dX12_putOut_120 ?_
        refine gf_X12_166 hK (by decide) rfl (v := (w79_1 73) 36) rfl dX12_putOut_121 ?_
        refine TT_aload_n hK rfl 2 rfl dX12_putOut_124 ?_
        refine gf_X12_175 hK (by decide) rfl (v := (w79_1 73) 33) rfl dX12_putOut_125 ?_
        have r6 := ty_73_33 (v := (w79_1 73) 33) hT79_1 rfl
        refine TT_lload_n hK rfl 0 rfl dX12_putOut_128 ?_
        refine TT_ldiv hK (lrm (by omega) (by omega)) (by decide) (by omega) dX12_putOut_129 ?_
        refine TT_w64f (fun x130_7 hx7 => ?_)
        refine TT_ldc2 hK lc_X12_187 dX12_putOut_130 ?_
        refine TT_lrem hK (lrm (by omega) (by omega)) (by decide) (by omega) dX12_putOut_133 ?_
        refine TT_w64f (fun x134_8 hx8 => ?_)
        refine TT_l2i hK dX12_putOut_134 ?_
        refine TT_w32 (fun x135_9 hx9 => ?_)
        refine TT_iast hK (o := 98) (n := 3200) (by decide) rfl (by omega) (by omega) dX12_putOut_135 ?_
        refine TT_hp (h' := setO w79_1 98 (fup (w79_1 98) ((w79_1 73) 36) x135_9)) (up_can rfl rfl rfl) ?_
        have hT_10 : TY (setO w79_1 98 (fup (w79_1 98) ((w79_1 73) 36) x135_9)) := tu_98 hT79_1 (show up w79_1 98 ((w79_1 73) 36) x135_9 = (setO w79_1 98 (fup (w79_1 98) ((w79_1 73) 36) x135_9)) from up_can rfl rfl rfl) (by omega)
        have hF_10 : FRM [73, 98] [33, 34, 36] h (setO w79_1 98 (fup (w79_1 98) ((w79_1 73) 36) x135_9)) := FRM_up (show up w79_1 98 ((w79_1 73) 36) x135_9 = (setO w79_1 98 (fup (w79_1 98) ((w79_1 73) 36) x135_9)) from up_can rfl rfl rfl) hF79_1 (by decide) (by decide)
        refine TT_aload_n hK rfl 2 rfl dX12_putOut_136 ?_
        refine TT_dup hK rfl dX12_putOut_137 ?_
        refine gf_X12_166 hK (by decide) rfl (v := (w79_1 73) 36) (rd_ (sOf_ne _ _ (by decide)) rfl) dX12_putOut_138 ?_
        refine TT_iconst hK dX12_putOut_141 ?_
        refine TT_iadd hK dX12_putOut_142 ?_
        refine pf_X12_166 hK (by decide) rfl dX12_putOut_143 ?_
        refine TT_hp (h' := setO (setO w79_1 73 (fup (w79_1 73) 36 (((w79_1 73) 36) + 1))) 98 (fup (w79_1 98) ((w79_1 73) 36) x135_9)) (up_can (sOf_ne _ _ (by decide)) rfl ((setO_comm _ _ _ (by decide)).trans (setO_cg rfl rfl))) ?_
        have hT_11 : TY (setO (setO w79_1 73 (fup (w79_1 73) 36 (((w79_1 73) 36) + 1))) 98 (fup (w79_1 98) ((w79_1 73) 36) x135_9)) := tu_73_36 hT_10 (show up (setO w79_1 98 (fup (w79_1 98) ((w79_1 73) 36) x135_9)) 73 36 (((w79_1 73) 36) + 1) = (setO (setO w79_1 73 (fup (w79_1 73) 36 (((w79_1 73) 36) + 1))) 98 (fup (w79_1 98) ((w79_1 73) 36) x135_9)) from up_can (sOf_ne _ _ (by decide)) rfl ((setO_comm _ _ _ (by decide)).trans (setO_cg rfl rfl))) (by omega)
        have hF_11 : FRM [73, 98] [33, 34, 36] h (setO (setO w79_1 73 (fup (w79_1 73) 36 (((w79_1 73) 36) + 1))) 98 (fup (w79_1 98) ((w79_1 73) 36) x135_9)) := FRM_f (show up (setO w79_1 98 (fup (w79_1 98) ((w79_1 73) 36) x135_9)) 73 36 (((w79_1 73) 36) + 1) = (setO (setO w79_1 73 (fup (w79_1 73) 36 (((w79_1 73) 36) + 1))) 98 (fup (w79_1 98) ((w79_1 73) 36) x135_9)) from up_can (sOf_ne _ _ (by decide)) rfl ((setO_comm _ _ _ (by decide)).trans (setO_cg rfl rfl))) hF_10 (by decide) (by decide)
        refine TT_aload_n hK rfl 2 rfl dX12_putOut_146 ?_
        refine TT_aload_n hK rfl 2 rfl dX12_putOut_147 ?_
        refine gf_X12_175 hK (by decide) rfl (v := (w79_1 73) 33) (rd_ ((sOf_ne _ _ (by decide)).trans (sOf_eq _ _ _)) (fup_ne _ _ (by decide))) dX12_putOut_148 ?_
        refine TT_lload_n hK rfl 0 rfl dX12_putOut_151 ?_
        refine TT_lrem hK (lrm (by omega) (by omega)) (by decide) (by omega) dX12_putOut_152 ?_
        refine TT_w64f (fun x153_12 hx12 => ?_)
        refine pf_X12_175 hK (by decide) rfl dX12_putOut_153 ?_
        refine TT_hp (h' := setO (setO w79_1 73 (fup (fup (w79_1 73) 33 x153_12) 36 (((w79_1 73) 36) + 1))) 98 (fup (w79_1 98) ((w79_1 73) 36) x135_9)) (up_can ((sOf_ne _ _ (by decide)).trans (sOf_eq _ _ _)) (fup_comm _ _ _ (by decide)) ((setO_comm _ _ _ (by decide)).trans (setO_cg (setO_same _ _ _ _) rfl))) ?_
        have hT_13 : TY (setO (setO w79_1 73 (fup (fup (w79_1 73) 33 x153_12) 36 (((w79_1 73) 36) + 1))) 98 (fup (w79_1 98) ((w79_1 73) 36) x135_9)) := tu_73_33 hT_11 (show up (setO (setO w79_1 73 (fup (w79_1 73) 36 (((w79_1 73) 36) + 1))) 98 (fup (w79_1 98) ((w79_1 73) 36) x135_9)) 73 33 x153_12 = (setO (setO w79_1 73 (fup (fup (w79_1 73) 33 x153_12) 36 (((w79_1 73) 36) + 1))) 98 (fup (w79_1 98) ((w79_1 73) 36) x135_9)) from up_can ((sOf_ne _ _ (by decide)).trans (sOf_eq _ _ _)) (fup_comm _ _ _ (by decide)) ((setO_comm _ _ _ (by decide)).trans (setO_cg (setO_same _ _ _ _) rfl))) (by omega)
        have hF_13 : FRM [73, 98] [33, 34, 36] h (setO (setO w79_1 73 (fup (fup (w79_1 73) 33 x153_12) 36 (((w79_1 73) 36) + 1))) 98 (fup (w79_1 98) ((w79_1 73) 36) x135_9)) := FRM_f (show up (setO (setO w79_1 73 (fup (w79_1 73) 36 (((w79_1 73) 36) + 1))) 98 (fup (w79_1 98) ((w79_1 73) 36) x135_9)) 73 33 x153_12 = (setO (setO w79_1 73 (fup (fup (w79_1 73) 33 x153_12) 36 (((w79_1 73) 36) + 1))) 98 (fup (w79_1 98) ((w79_1 73) 36) x135_9)) from up_can ((sOf_ne _ _ (by decide)).trans (sOf_eq _ _ _)) (fup_comm _ _ _ (by decide)) ((setO_comm _ _ _ (by decide)).trans (setO_cg (setO_same _ _ _ _) rfl))) hF_11 (by decide) (by decide)
        refine TT_aload_n hK rfl 2 rfl dX12_putOut_156 ?_
        refine TT_iload_n hK rfl 1 rfl dX12_putOut_157 ?_
        refine TT_if_eq hK (tgt := 166) (by decide) dX12_putOut_158 (by decide) (fun hb158_14 => ?_) (fun hb158_14 => ?_)
        · refine TT_bipush hK (by decide) dX12_putOut_166 ?_
          refine pf_X12_178 hK (by decide) rfl dX12_putOut_168 ?_
          refine TT_hp (h' := setO (setO w79_1 73 (fup (fup (fup (w79_1 73) 33 x153_12) 34 8) 36 (((w79_1 73) 36) + 1))) 98 (fup (w79_1 98) ((w79_1 73) 36) x135_9)) (up_can ((sOf_ne _ _ (by decide)).trans (sOf_eq _ _ _)) (fup_comm _ _ _ (by decide)) ((setO_comm _ _ _ (by decide)).trans (setO_cg (setO_same _ _ _ _) rfl))) ?_
          have hT_15 : TY (setO (setO w79_1 73 (fup (fup (fup (w79_1 73) 33 x153_12) 34 8) 36 (((w79_1 73) 36) + 1))) 98 (fup (w79_1 98) ((w79_1 73) 36) x135_9)) := tu_73_34 hT_13 (show up (setO (setO w79_1 73 (fup (fup (w79_1 73) 33 x153_12) 36 (((w79_1 73) 36) + 1))) 98 (fup (w79_1 98) ((w79_1 73) 36) x135_9)) 73 34 8 = (setO (setO w79_1 73 (fup (fup (fup (w79_1 73) 33 x153_12) 34 8) 36 (((w79_1 73) 36) + 1))) 98 (fup (w79_1 98) ((w79_1 73) 36) x135_9)) from up_can ((sOf_ne _ _ (by decide)).trans (sOf_eq _ _ _)) (fup_comm _ _ _ (by decide)) ((setO_comm _ _ _ (by decide)).trans (setO_cg (setO_same _ _ _ _) rfl))) (by omega)
          have hF_15 : FRM [73, 98] [33, 34, 36] h (setO (setO w79_1 73 (fup (fup (fup (w79_1 73) 33 x153_12) 34 8) 36 (((w79_1 73) 36) + 1))) 98 (fup (w79_1 98) ((w79_1 73) 36) x135_9)) := FRM_f (show up (setO (setO w79_1 73 (fup (fup (w79_1 73) 33 x153_12) 36 (((w79_1 73) 36) + 1))) 98 (fup (w79_1 98) ((w79_1 73) 36) x135_9)) 73 34 8 = (setO (setO w79_1 73 (fup (fup (fup (w79_1 73) 33 x153_12) 34 8) 36 (((w79_1 73) 36) + 1))) 98 (fup (w79_1 98) ((w79_1 73) 36) x135_9)) from up_can ((sOf_ne _ _ (by decide)).trans (sOf_eq _ _ _)) (fup_comm _ _ _ (by decide)) ((setO_comm _ _ _ (by decide)).trans (setO_cg (setO_same _ _ _ _) rfl))) hF_13 (by decide) (by decide)
          refine TT_vret hK hQ ?_ dX12_putOut_171
          have e16_73_36 : (setO (setO w79_1 73 (fup (fup (fup (w79_1 73) 33 x153_12) 34 8) 36 (((w79_1 73) 36) + 1))) 98 (fup (w79_1 98) ((w79_1 73) 36) x135_9)) 73 36 = ((w79_1 73) 36) + 1 := rd_ ((sOf_ne _ _ (by decide)).trans (sOf_eq _ _ _)) (fup_eq _ _ _)
          have e17_73_34 : (setO (setO w79_1 73 (fup (fup (fup (w79_1 73) 33 x153_12) 34 8) 36 (((w79_1 73) 36) + 1))) 98 (fup (w79_1 98) ((w79_1 73) 36) x135_9)) 73 34 = 8 := rd_ ((sOf_ne _ _ (by decide)).trans (sOf_eq _ _ _)) ((fup_ne _ _ (by decide)).trans (fup_eq _ _ _))
          exact ⟨⟨hT_15, hF_15⟩, rfl, (by rewrite [e16_73_36]; omega), (by rewrite [e17_73_34]; omega)⟩
        · exact absurd hb158_14 (by decide)
      · exact absurd hb103_5 (by decide)
    · refine TT_iconst hK dX12_putOut_96 ?_
      refine TT_goto hK (tgt := 101) dX12_putOut_97 (by decide) ?_
      refine TT_istore_n hK rfl (lv' := [(1, vI 1), (0, vR 73)]) (by decide) rfl dX12_putOut_101 ?_
      refine TT_iload_n hK rfl 0 rfl dX12_putOut_102 ?_
      refine TT_if_eq hK (tgt := 112) (by decide) dX12_putOut_103 (by decide) (fun hb103_18 => ?_) (fun hb103_18 => ?_)
      · exact absurd hb103_18 (by decide)
      · refine TT_ldc2 hK lc_X12_183 dX12_putOut_106 ?_
        refine TT_goto hK (tgt := 115) dX12_putOut_109 (by decide) ?_
        refine TT_lstore_n hK rfl (lv' := [(2, vJ 1048576), (1, vI 1), (0, vR 73)]) (by decide) rfl dX12_putOut_115 ?_
        refine TT_aload_n hK rfl 2 rfl dX12_putOut_116 ?_
        refine gf_X12_90 hK (by decide) rfl (q := 98) rfl rfl dX12_putOut_117 ?_
        refine TT_aload_n hK rfl 2 rfl dX12_putOut_120 ?_
        refine gf_X12_166 hK (by decide) rfl (v := (w79_1 73) 36) rfl dX12_putOut_121 ?_
        refine TT_aload_n hK rfl 2 rfl dX12_putOut_124 ?_
        refine gf_X12_175 hK (by decide) rfl (v := (w79_1 73) 33) rfl dX12_putOut_125 ?_
        have r19 := ty_73_33 (v := (w79_1 73) 33) hT79_1 rfl
        refine TT_lload_n hK rfl 0 rfl dX12_putOut_128 ?_
        refine TT_ldiv hK (lrm (by omega) (by omega)) (by decide) (by omega) dX12_putOut_129 ?_
        refine TT_w64f (fun x130_20 hx20 => ?_)
        refine TT_ldc2 hK lc_X12_187 dX12_putOut_130 ?_
        refine TT_lrem hK (lrm (by omega) (by omega)) (by decide) (by omega) dX12_putOut_133 ?_
        refine TT_w64f (fun x134_21 hx21 => ?_)
        refine TT_l2i hK dX12_putOut_134 ?_
        refine TT_w32 (fun x135_22 hx22 => ?_)
        refine TT_iast hK (o := 98) (n := 3200) (by decide) rfl (by omega) (by omega) dX12_putOut_135 ?_
        refine TT_hp (h' := setO w79_1 98 (fup (w79_1 98) ((w79_1 73) 36) x135_22)) (up_can rfl rfl rfl) ?_
        have hT_23 : TY (setO w79_1 98 (fup (w79_1 98) ((w79_1 73) 36) x135_22)) := tu_98 hT79_1 (show up w79_1 98 ((w79_1 73) 36) x135_22 = (setO w79_1 98 (fup (w79_1 98) ((w79_1 73) 36) x135_22)) from up_can rfl rfl rfl) (by omega)
        have hF_23 : FRM [73, 98] [33, 34, 36] h (setO w79_1 98 (fup (w79_1 98) ((w79_1 73) 36) x135_22)) := FRM_up (show up w79_1 98 ((w79_1 73) 36) x135_22 = (setO w79_1 98 (fup (w79_1 98) ((w79_1 73) 36) x135_22)) from up_can rfl rfl rfl) hF79_1 (by decide) (by decide)
        refine TT_aload_n hK rfl 2 rfl dX12_putOut_136 ?_
        refine TT_dup hK rfl dX12_putOut_137 ?_
        refine gf_X12_166 hK (by decide) rfl (v := (w79_1 73) 36) (rd_ (sOf_ne _ _ (by decide)) rfl) dX12_putOut_138 ?_
        refine TT_iconst hK dX12_putOut_141 ?_
        refine TT_iadd hK dX12_putOut_142 ?_
        refine pf_X12_166 hK (by decide) rfl dX12_putOut_143 ?_
        refine TT_hp (h' := setO (setO w79_1 73 (fup (w79_1 73) 36 (((w79_1 73) 36) + 1))) 98 (fup (w79_1 98) ((w79_1 73) 36) x135_22)) (up_can (sOf_ne _ _ (by decide)) rfl ((setO_comm _ _ _ (by decide)).trans (setO_cg rfl rfl))) ?_
        have hT_24 : TY (setO (setO w79_1 73 (fup (w79_1 73) 36 (((w79_1 73) 36) + 1))) 98 (fup (w79_1 98) ((w79_1 73) 36) x135_22)) := tu_73_36 hT_23 (show up (setO w79_1 98 (fup (w79_1 98) ((w79_1 73) 36) x135_22)) 73 36 (((w79_1 73) 36) + 1) = (setO (setO w79_1 73 (fup (w79_1 73) 36 (((w79_1 73) 36) + 1))) 98 (fup (w79_1 98) ((w79_1 73) 36) x135_22)) from up_can (sOf_ne _ _ (by decide)) rfl ((setO_comm _ _ _ (by decide)).trans (setO_cg rfl rfl))) (by omega)
        have hF_24 : FRM [73, 98] [33, 34, 36] h (setO (setO w79_1 73 (fup (w79_1 73) 36 (((w79_1 73) 36) + 1))) 98 (fup (w79_1 98) ((w79_1 73) 36) x135_22)) := FRM_f (show up (setO w79_1 98 (fup (w79_1 98) ((w79_1 73) 36) x135_22)) 73 36 (((w79_1 73) 36) + 1) = (setO (setO w79_1 73 (fup (w79_1 73) 36 (((w79_1 73) 36) + 1))) 98 (fup (w79_1 98) ((w79_1 73) 36) x135_22)) from up_can (sOf_ne _ _ (by decide)) rfl ((setO_comm _ _ _ (by decide)).trans (setO_cg rfl rfl))) hF_23 (by decide) (by decide)
        refine TT_aload_n hK rfl 2 rfl dX12_putOut_146 ?_
        refine TT_aload_n hK rfl 2 rfl dX12_putOut_147 ?_
        refine gf_X12_175 hK (by decide) rfl (v := (w79_1 73) 33) (rd_ ((sOf_ne _ _ (by decide)).trans (sOf_eq _ _ _)) (fup_ne _ _ (by decide))) dX12_putOut_148 ?_
        refine TT_lload_n hK rfl 0 rfl dX12_putOut_151 ?_
        refine TT_lrem hK (lrm (by omega) (by omega)) (by decide) (by omega) dX12_putOut_152 ?_
        refine TT_w64f (fun x153_25 hx25 => ?_)
        refine pf_X12_175 hK (by decide) rfl dX12_putOut_153 ?_
        refine TT_hp (h' := setO (setO w79_1 73 (fup (fup (w79_1 73) 33 x153_25) 36 (((w79_1 73) 36) + 1))) 98 (fup (w79_1 98) ((w79_1 73) 36) x135_22)) (up_can ((sOf_ne _ _ (by decide)).trans (sOf_eq _ _ _)) (fup_comm _ _ _ (by decide)) ((setO_comm _ _ _ (by decide)).trans (setO_cg (setO_same _ _ _ _) rfl))) ?_
        have hT_26 : TY (setO (setO w79_1 73 (fup (fup (w79_1 73) 33 x153_25) 36 (((w79_1 73) 36) + 1))) 98 (fup (w79_1 98) ((w79_1 73) 36) x135_22)) := tu_73_33 hT_24 (show up (setO (setO w79_1 73 (fup (w79_1 73) 36 (((w79_1 73) 36) + 1))) 98 (fup (w79_1 98) ((w79_1 73) 36) x135_22)) 73 33 x153_25 = (setO (setO w79_1 73 (fup (fup (w79_1 73) 33 x153_25) 36 (((w79_1 73) 36) + 1))) 98 (fup (w79_1 98) ((w79_1 73) 36) x135_22)) from up_can ((sOf_ne _ _ (by decide)).trans (sOf_eq _ _ _)) (fup_comm _ _ _ (by decide)) ((setO_comm _ _ _ (by decide)).trans (setO_cg (setO_same _ _ _ _) rfl))) (by omega)
        have hF_26 : FRM [73, 98] [33, 34, 36] h (setO (setO w79_1 73 (fup (fup (w79_1 73) 33 x153_25) 36 (((w79_1 73) 36) + 1))) 98 (fup (w79_1 98) ((w79_1 73) 36) x135_22)) := FRM_f (show up (setO (setO w79_1 73 (fup (w79_1 73) 36 (((w79_1 73) 36) + 1))) 98 (fup (w79_1 98) ((w79_1 73) 36) x135_22)) 73 33 x153_25 = (setO (setO w79_1 73 (fup (fup (w79_1 73) 33 x153_25) 36 (((w79_1 73) 36) + 1))) 98 (fup (w79_1 98) ((w79_1 73) 36) x135_22)) from up_can ((sOf_ne _ _ (by decide)).trans (sOf_eq _ _ _)) (fup_comm _ _ _ (by decide)) ((setO_comm _ _ _ (by decide)).trans (setO_cg (setO_same _ _ _ _) rfl))) hF_24 (by decide) (by decide)
        refine TT_aload_n hK rfl 2 rfl dX12_putOut_156 ?_
        refine TT_iload_n hK rfl 1 rfl dX12_putOut_157 ?_
        refine TT_if_eq hK (tgt := 166) (by decide) dX12_putOut_158 (by decide) (fun hb158_27 => ?_) (fun hb158_27 => ?_)
        · exact absurd hb158_27 (by decide)
        · refine TT_bipush hK (by decide) dX12_putOut_161 ?_
          refine TT_goto hK (tgt := 168) dX12_putOut_163 (by decide) ?_
          refine pf_X12_178 hK (by decide) rfl dX12_putOut_168 ?_
          refine TT_hp (h' := setO (setO w79_1 73 (fup (fup (fup (w79_1 73) 33 x153_25) 34 7) 36 (((w79_1 73) 36) + 1))) 98 (fup (w79_1 98) ((w79_1 73) 36) x135_22)) (up_can ((sOf_ne _ _ (by decide)).trans (sOf_eq _ _ _)) (fup_comm _ _ _ (by decide)) ((setO_comm _ _ _ (by decide)).trans (setO_cg (setO_same _ _ _ _) rfl))) ?_
          have hT_28 : TY (setO (setO w79_1 73 (fup (fup (fup (w79_1 73) 33 x153_25) 34 7) 36 (((w79_1 73) 36) + 1))) 98 (fup (w79_1 98) ((w79_1 73) 36) x135_22)) := tu_73_34 hT_26 (show up (setO (setO w79_1 73 (fup (fup (w79_1 73) 33 x153_25) 36 (((w79_1 73) 36) + 1))) 98 (fup (w79_1 98) ((w79_1 73) 36) x135_22)) 73 34 7 = (setO (setO w79_1 73 (fup (fup (fup (w79_1 73) 33 x153_25) 34 7) 36 (((w79_1 73) 36) + 1))) 98 (fup (w79_1 98) ((w79_1 73) 36) x135_22)) from up_can ((sOf_ne _ _ (by decide)).trans (sOf_eq _ _ _)) (fup_comm _ _ _ (by decide)) ((setO_comm _ _ _ (by decide)).trans (setO_cg (setO_same _ _ _ _) rfl))) (by omega)
          have hF_28 : FRM [73, 98] [33, 34, 36] h (setO (setO w79_1 73 (fup (fup (fup (w79_1 73) 33 x153_25) 34 7) 36 (((w79_1 73) 36) + 1))) 98 (fup (w79_1 98) ((w79_1 73) 36) x135_22)) := FRM_f (show up (setO (setO w79_1 73 (fup (fup (w79_1 73) 33 x153_25) 36 (((w79_1 73) 36) + 1))) 98 (fup (w79_1 98) ((w79_1 73) 36) x135_22)) 73 34 7 = (setO (setO w79_1 73 (fup (fup (fup (w79_1 73) 33 x153_25) 34 7) 36 (((w79_1 73) 36) + 1))) 98 (fup (w79_1 98) ((w79_1 73) 36) x135_22)) from up_can ((sOf_ne _ _ (by decide)).trans (sOf_eq _ _ _)) (fup_comm _ _ _ (by decide)) ((setO_comm _ _ _ (by decide)).trans (setO_cg (setO_same _ _ _ _) rfl))) hF_26 (by decide) (by decide)
          refine TT_vret hK hQ ?_ dX12_putOut_171
          have e29_73_36 : (setO (setO w79_1 73 (fup (fup (fup (w79_1 73) 33 x153_25) 34 7) 36 (((w79_1 73) 36) + 1))) 98 (fup (w79_1 98) ((w79_1 73) 36) x135_22)) 73 36 = ((w79_1 73) 36) + 1 := rd_ ((sOf_ne _ _ (by decide)).trans (sOf_eq _ _ _)) (fup_eq _ _ _)
          have e30_73_34 : (setO (setO w79_1 73 (fup (fup (fup (w79_1 73) 33 x153_25) 34 7) 36 (((w79_1 73) 36) + 1))) 98 (fup (w79_1 98) ((w79_1 73) 36) x135_22)) 73 34 = 7 := rd_ ((sOf_ne _ _ (by decide)).trans (sOf_eq _ _ _)) ((fup_ne _ _ (by decide)).trans (fup_eq _ _ _))
          exact ⟨⟨hT_28, hF_28⟩, rfl, (by rewrite [e29_73_36]; omega), (by rewrite [e30_73_34]; omega)⟩
  refine TT_aload_n hK rfl 0 rfl dX12_putOut_0 ?_
  refine gf_X12_90 hK (by decide) rfl (q := 98) rfl rfl dX12_putOut_1 ?_
  refine TT_aload_n hK rfl 0 rfl dX12_putOut_4 ?_
  refine gf_X12_166 hK (by decide) rfl (v := (h 73) 36) rfl dX12_putOut_5 ?_
  have r31 := ty_73_36 (v := (h 73) 36) hT rfl
  refine TT_iconst hK dX12_putOut_8 ?_
  refine TT_isub hK dX12_putOut_9 ?_
  refine TT_iald hK (o := 98) (n := 3200) (by decide) rfl (by first | omega | (simp [up, setR] <;> omega)) (by first | omega | (simp [up, setR] <;> omega)) (v := (h 98) (((h 73) 36) - 1)) rfl dX12_putOut_10 ?_
  have r32 := ty_98 (i := ((h 73) 36) - 1) (v := (h 98) (((h 73) 36) - 1)) hT rfl (by omega) (by omega)
  refine TT_sipush hK (by decide) dX12_putOut_11 ?_
  refine TT_icmp_eq hK (tgt := 79) (irm (by omega) (by omega)) (by decide) dX12_putOut_14 (by decide) (fun hb14_33 => ?_) (fun hb14_33 => ?_)
  · have e34_73_36 : h 73 36 = (h 73) 36 := rfl
    exact J79_1 h hT hF (by rewrite [e34_73_36]; first | omega | (simp [up, setR] <;> omega))
  · refine TT_aload_n hK rfl 0 rfl dX12_putOut_17 ?_
    refine gf_X12_175 hK (by decide) rfl (v := (h 73) 33) rfl dX12_putOut_18 ?_
    have r35 := ty_73_33 (v := (h 73) 33) hT rfl
    refine TT_ldc2 hK lc_X12_181 dX12_putOut_21 ?_
    refine TT_lcmp hK (lrm (by omega) (by omega)) (by decide) dX12_putOut_24 ?_
    refine TT_if_lt hK (tgt := 79) (lcmp_ir _ _) dX12_putOut_25 (by decide) (fun hb25_36 => ?_) (fun hb25_36 => ?_)
    · have hb25_36 := lcmp_lt hb25_36
      have e37_73_36 : h 73 36 = (h 73) 36 := rfl
      exact J79_1 h hT hF (by rewrite [e37_73_36]; first | omega | (simp [up, setR] <;> omega))
    · have hb25_36 := lcmp_ge hb25_36
      refine TT_aload_n hK rfl 0 rfl dX12_putOut_28 ?_
      refine gf_X12_90 hK (by decide) rfl (q := 98) rfl rfl dX12_putOut_29 ?_
      refine TT_aload_n hK rfl 0 rfl dX12_putOut_32 ?_
      refine gf_X12_166 hK (by decide) rfl (v := (h 73) 36) rfl dX12_putOut_33 ?_
      refine TT_iconst hK dX12_putOut_36 ?_
      refine TT_isub hK dX12_putOut_37 ?_
      refine TT_dup2 hK rfl rfl dX12_putOut_38 ?_
      refine TT_iald hK (o := 98) (n := 3200) (by decide) rfl (by first | omega | (simp [up, setR] <;> omega)) (by first | omega | (simp [up, setR] <;> omega)) (v := (h 98) (((h 73) 36) - 1)) rfl dX12_putOut_39 ?_
      refine TT_iconst hK dX12_putOut_40 ?_
      refine TT_iadd hK dX12_putOut_41 ?_
      refine TT_w32 (fun x42_38 hx38 => ?_)
      refine TT_iast hK (o := 98) (n := 3200) (by decide) rfl (by omega) (by omega) dX12_putOut_42 ?_
      refine TT_hp (h' := setO h 98 (fup (h 98) (((h 73) 36) - 1) x42_38)) (up_can rfl rfl rfl) ?_
      have hT_39 : TY (setO h 98 (fup (h 98) (((h 73) 36) - 1) x42_38)) := tu_98 hT (show up h 98 (((h 73) 36) - 1) x42_38 = (setO h 98 (fup (h 98) (((h 73) 36) - 1) x42_38)) from up_can rfl rfl rfl) (by omega)
      have hF_39 : FRM [73, 98] [33, 34, 36] h (setO h 98 (fup (h 98) (((h 73) 36) - 1) x42_38)) := FRM_up (show up h 98 (((h 73) 36) - 1) x42_38 = (setO h 98 (fup (h 98) (((h 73) 36) - 1) x42_38)) from up_can rfl rfl rfl) hF (by decide) (by decide)
      refine TT_aload_n hK rfl 0 rfl dX12_putOut_43 ?_
      refine TT_aload_n hK rfl 0 rfl dX12_putOut_44 ?_
      refine gf_X12_90 hK (by decide) rfl (q := 98) rfl rfl dX12_putOut_45 ?_
      refine TT_aload_n hK rfl 0 rfl dX12_putOut_48 ?_
      refine gf_X12_166 hK (by decide) rfl (v := (h 73) 36) (rd_ (sOf_ne _ _ (by decide)) rfl) dX12_putOut_49 ?_
      refine TT_iconst hK dX12_putOut_52 ?_
      refine TT_isub hK dX12_putOut_53 ?_
      refine TT_iald hK (o := 98) (n := 3200) (by decide) rfl (by first | omega | (simp [up, setR] <;> omega)) (by first | omega | (simp [up, setR] <;> omega)) (v := x42_38) (rd_ (sOf_eq _ _ _) (fup_eq _ _ _)) dX12_putOut_54 ?_
      have r40 := ty_98 (i := ((h 73) 36) - 1) (v := x42_38) hT_39 (rd_ (sOf_eq _ _ _) (fup_eq _ _ _)) (by omega) (by omega)
      refine TT_sipush hK (by decide) dX12_putOut_55 ?_
      refine TT_icmp_ne hK (tgt := 72) (irm (by omega) (by omega)) (by decide) dX12_putOut_58 (by decide) (fun hb58_41 => ?_) (fun hb58_41 => ?_)
      · refine TT_aload_n hK rfl 0 rfl dX12_putOut_72 ?_
        refine gf_X12_175 hK (by decide) rfl (v := (h 73) 33) (rd_ (sOf_ne _ _ (by decide)) rfl) dX12_putOut_73 ?_
        refine TT_w64f (fun x76_42 hx42 => ?_)
        refine pf_X12_175 hK (by decide) rfl dX12_putOut_76 ?_
        refine TT_hp (h' := setO (setO h 73 (fup (h 73) 33 x76_42)) 98 (fup (h 98) (((h 73) 36) - 1) x42_38)) (up_can (sOf_ne _ _ (by decide)) rfl ((setO_comm _ _ _ (by decide)).trans (setO_cg rfl rfl))) ?_
        have hT_43 : TY (setO (setO h 73 (fup (h 73) 33 x76_42)) 98 (fup (h 98) (((h 73) 36) - 1) x42_38)) := tu_73_33 hT_39 (show up (setO h 98 (fup (h 98) (((h 73) 36) - 1) x42_38)) 73 33 x76_42 = (setO (setO h 73 (fup (h 73) 33 x76_42)) 98 (fup (h 98) (((h 73) 36) - 1) x42_38)) from up_can (sOf_ne _ _ (by decide)) rfl ((setO_comm _ _ _ (by decide)).trans (setO_cg rfl rfl))) (by omega)
        have hF_43 : FRM [73, 98] [33, 34, 36] h (setO (setO h 73 (fup (h 73) 33 x76_42)) 98 (fup (h 98) (((h 73) 36) - 1) x42_38)) := FRM_f (show up (setO h 98 (fup (h 98) (((h 73) 36) - 1) x42_38)) 73 33 x76_42 = (setO (setO h 73 (fup (h 73) 33 x76_42)) 98 (fup (h 98) (((h 73) 36) - 1) x42_38)) from up_can (sOf_ne _ _ (by decide)) rfl ((setO_comm _ _ _ (by decide)).trans (setO_cg rfl rfl))) hF_39 (by decide) (by decide)
        have e44_73_36 : (setO (setO h 73 (fup (h 73) 33 x76_42)) 98 (fup (h 98) (((h 73) 36) - 1) x42_38)) 73 36 = (h 73) 36 := rd_ ((sOf_ne _ _ (by decide)).trans (sOf_eq _ _ _)) (fup_ne _ _ (by decide))
        exact J79_1 (setO (setO h 73 (fup (h 73) 33 x76_42)) 98 (fup (h 98) (((h 73) 36) - 1) x42_38)) hT_43 hF_43 (by rewrite [e44_73_36]; first | omega | (simp [up, setR] <;> omega))
      · refine TT_aload_n hK rfl 0 rfl dX12_putOut_61 ?_
        refine gf_X12_175 hK (by decide) rfl (v := (h 73) 33) (rd_ (sOf_ne _ _ (by decide)) rfl) dX12_putOut_62 ?_
        refine TT_ldc2 hK lc_X12_181 dX12_putOut_65 ?_
        refine TT_lsub hK dX12_putOut_68 ?_
        refine TT_goto hK (tgt := 76) dX12_putOut_69 (by decide) ?_
        refine TT_w64f (fun x76_45 hx45 => ?_)
        refine pf_X12_175 hK (by decide) rfl dX12_putOut_76 ?_
        refine TT_hp (h' := setO (setO h 73 (fup (h 73) 33 x76_45)) 98 (fup (h 98) (((h 73) 36) - 1) x42_38)) (up_can (sOf_ne _ _ (by decide)) rfl ((setO_comm _ _ _ (by decide)).trans (setO_cg rfl rfl))) ?_
        have hT_46 : TY (setO (setO h 73 (fup (h 73) 33 x76_45)) 98 (fup (h 98) (((h 73) 36) - 1) x42_38)) := tu_73_33 hT_39 (show up (setO h 98 (fup (h 98) (((h 73) 36) - 1) x42_38)) 73 33 x76_45 = (setO (setO h 73 (fup (h 73) 33 x76_45)) 98 (fup (h 98) (((h 73) 36) - 1) x42_38)) from up_can (sOf_ne _ _ (by decide)) rfl ((setO_comm _ _ _ (by decide)).trans (setO_cg rfl rfl))) (by omega)
        have hF_46 : FRM [73, 98] [33, 34, 36] h (setO (setO h 73 (fup (h 73) 33 x76_45)) 98 (fup (h 98) (((h 73) 36) - 1) x42_38)) := FRM_f (show up (setO h 98 (fup (h 98) (((h 73) 36) - 1) x42_38)) 73 33 x76_45 = (setO (setO h 73 (fup (h 73) 33 x76_45)) 98 (fup (h 98) (((h 73) 36) - 1) x42_38)) from up_can (sOf_ne _ _ (by decide)) rfl ((setO_comm _ _ _ (by decide)).trans (setO_cg rfl rfl))) hF_39 (by decide) (by decide)
        have e47_73_36 : (setO (setO h 73 (fup (h 73) 33 x76_45)) 98 (fup (h 98) (((h 73) 36) - 1) x42_38)) 73 36 = (h 73) 36 := rd_ ((sOf_ne _ _ (by decide)).trans (sOf_eq _ _ _)) (fup_ne _ _ (by decide))
        exact J79_1 (setO (setO h 73 (fup (h 73) 33 x76_45)) 98 (fup (h 98) (((h 73) 36) - 1) x42_38)) hT_46 hF_46 (by rewrite [e47_73_36]; first | omega | (simp [up, setR] <;> omega))
set_option maxRecDepth 20000 in
theorem s_X12_tellBit_73 (x b : Int) (h : Hp_) (hT : TY h) (hx : 0 ≤ x ∧ x ≤ 18) (hb : 0 ≤ b ∧ b ≤ 1) (htb : TBL (h 74) (h 75)) (ha : 32768 ≤ (h 73 32) ∧ (h 73 32) < 65536) (ht : 1 ≤ (h 73 34)) (hn : 1 ≤ (h 73 36)) (hp : 7 * (h 73 36) - (h 73 34) + PhS (h 96) + 9 ≤ 22300) : Ctr yX12_tellBit cX12_tellBit 7 (some .int) (rmd 1) ly ly 0 0 [vR 73, vI x, vI b] h (fun r h' => (TY h' ∧ FRM [73, 96, 97, 98] [32, 33, 34, 36] h h') ∧ ∃ z : Int, r = some (vI z) ∧ (0 ≤ z ∧ z ≤ 1) ∧ (z = b) ∧ (32768 ≤ (h' 73 32) ∧ (h' 73 32) < 65536) ∧ (1 ≤ (h' 73 34)) ∧ (1 ≤ (h' 73 36)) ∧ (7 * (h' 73 36) - (h' 73 34) + PhS (h' 96) ≤ 7 * (h 73 36) - (h 73 34) + PhS (h 96) + 9)) := by
  refine Ctr_of (by decide) (Nat.le_of_ble_eq_true rfl) ⟨Nat.le_refl _, Nat.le_refl _⟩ (fun K hK hQ _ => ?_)
  show TT K ly 0 0 0 [(0, vR 73), (1, vI x), (2, vI b)] [] h
  have hF : FRM [73, 96, 97, 98] [32, 33, 34, 36] h h := FRM_rf _ _ _
  refine TT_aload_n hK rfl 0 rfl dX12_tellBit_0 ?_
  refine gf_X12_7 hK (by decide) rfl (q := 74) rfl rfl dX12_tellBit_1 ?_
  refine TT_aload_n hK rfl 0 rfl dX12_tellBit_4 ?_
  refine gf_X12_84 hK (by decide) rfl (q := 96) rfl rfl dX12_tellBit_5 ?_
  refine TT_iload_n hK rfl 1 rfl dX12_tellBit_8 ?_
  refine TT_iald hK (o := 96) (n := 19) (by decide) rfl (by first | omega | (simp [up, setR] <;> omega)) (by first | omega | (simp [up, setR] <;> omega)) (v := (h 96) x) rfl dX12_tellBit_9 ?_
  have r1 := ty_96 (i := x) (v := (h 96) x) hT rfl (by omega) (by omega)
  refine TT_iald hK (o := 74) (n := 47) (by decide) rfl (by first | omega | (simp [up, setR] <;> omega)) (by first | omega | (simp [up, setR] <;> omega)) (v := (h 74) ((h 96) x)) rfl dX12_tellBit_10 ?_
  have r2 := ty_74 (i := (h 96) x) (v := (h 74) ((h 96) x)) hT rfl (by omega) (by omega)
  have tq := TBL_r htb (s := h 96 x) (by omega) (by omega)
  refine TT_istore_n hK rfl (lv' := [(3, vI ((h 74) ((h 96) x))), (0, vR 73), (1, vI x), (2, vI b)]) (by decide) rfl dX12_tellBit_11 ?_
  refine TT_iload_n hK rfl 3 rfl dX12_tellBit_12 ?_
  refine TT_aload_n hK rfl 1 rfl dX12_tellBit_13 ?_
  refine gf_X12_87 hK (by decide) rfl (q := 97) rfl rfl dX12_tellBit_14 ?_
  refine TT_iload_n hK rfl 2 rfl dX12_tellBit_17 ?_
  refine TT_iald hK (o := 97) (n := 19) (by decide) rfl (by first | omega | (simp [up, setR] <;> omega)) (by first | omega | (simp [up, setR] <;> omega)) (v := (h 97) x) rfl dX12_tellBit_18 ?_
  have r3 := ty_97 (i := x) (v := (h 97) x) hT rfl (by omega) (by omega)
  refine TT_icmp_eq hK (tgt := 26) (irm (by omega) (by omega)) (irm (by omega) (by omega)) dX12_tellBit_19 (by decide) (fun hb19_4 => ?_) (fun hb19_4 => ?_)
  · refine TT_iconst hK dX12_tellBit_26 ?_
    refine TT_istore hK (lv' := [(4, vI 0), (3, vI ((h 74) ((h 96) x))), (0, vR 73), (1, vI x), (2, vI b)]) (by decide) rfl dX12_tellBit_27 ?_
    refine TT_aload_n hK rfl 2 rfl dX12_tellBit_29 ?_
    refine TT_aload_n hK rfl 2 rfl dX12_tellBit_30 ?_
    refine gf_X12_171 hK (by decide) rfl (v := (h 73) 32) rfl dX12_tellBit_31 ?_
    have r5 := ty_73_32 (v := (h 73) 32) hT rfl
    refine TT_iload_n hK rfl 1 rfl dX12_tellBit_34 ?_
    refine TT_i2l hK (irm (by omega) (by omega)) dX12_tellBit_35 ?_
    refine TT_lsub hK dX12_tellBit_36 ?_
    refine pf_X12_171 hK (by decide) rfl dX12_tellBit_37 ?_
    refine TT_hp (h' := setO h 73 (fup (h 73) 32 (((h 73) 32) - ((h 74) ((h 96) x))))) (up_can rfl rfl rfl) ?_
    have hT_6 : TY (setO h 73 (fup (h 73) 32 (((h 73) 32) - ((h 74) ((h 96) x))))) := tu_73_32 hT (show up h 73 32 (((h 73) 32) - ((h 74) ((h 96) x))) = (setO h 73 (fup (h 73) 32 (((h 73) 32) - ((h 74) ((h 96) x))))) from up_can rfl rfl rfl) (by omega)
    have hF_6 : FRM [73, 96, 97, 98] [32, 33, 34, 36] h (setO h 73 (fup (h 73) 32 (((h 73) 32) - ((h 74) ((h 96) x))))) := FRM_f (show up h 73 32 (((h 73) 32) - ((h 74) ((h 96) x))) = (setO h 73 (fup (h 73) 32 (((h 73) 32) - ((h 74) ((h 96) x))))) from up_can rfl rfl rfl) hF (by decide) (by decide)
    refine TT_iload hK 0 rfl dX12_tellBit_40 ?_
    refine TT_if_ne hK (tgt := 69) (by decide) dX12_tellBit_42 (by decide) (fun hb42_7 => ?_) (fun hb42_7 => ?_)
    · exact absurd hb42_7 (by decide)
    · refine TT_aload_n hK rfl 2 rfl dX12_tellBit_45 ?_
      refine gf_X12_171 hK (by decide) rfl (v := ((h 73) 32) - ((h 74) ((h 96) x))) (rd_ (sOf_eq _ _ _) (fup_eq _ _ _)) dX12_tellBit_46 ?_
      have r8 := ty_73_32 (v := ((h 73) 32) - ((h 74) ((h 96) x))) hT_6 (rd_ (sOf_eq _ _ _) (fup_eq _ _ _))
      refine TT_ldc2 hK lc_X12_169 dX12_tellBit_49 ?_
      refine TT_lcmp hK (lrm (by omega) (by omega)) (by decide) dX12_tellBit_52 ?_
      refine TT_if_lt hK (tgt := 69) (lcmp_ir _ _) dX12_tellBit_53 (by decide) (fun hb53_9 => ?_) (fun hb53_9 => ?_)
      · have hb53_9 := lcmp_lt hb53_9
        refine TT_aload_n hK rfl 2 rfl dX12_tellBit_69 ?_
        refine gf_X12_171 hK (by decide) rfl (v := ((h 73) 32) - ((h 74) ((h 96) x))) (rd_ (sOf_eq _ _ _) (fup_eq _ _ _)) dX12_tellBit_70 ?_
        refine TT_iload_n hK rfl 1 rfl dX12_tellBit_73 ?_
        refine TT_i2l hK (irm (by omega) (by omega)) dX12_tellBit_74 ?_
        refine TT_lcmp hK (lrm (by omega) (by omega)) (lrm (by omega) (by omega)) dX12_tellBit_75 ?_
        refine TT_if_ge hK (tgt := 83) (lcmp_ir _ _) dX12_tellBit_76 (by decide) (fun hb76_10 => ?_) (fun hb76_10 => ?_)
        · have hb76_10 := lcmp_ge hb76_10
          refine TT_iconst hK dX12_tellBit_83 ?_
          refine TT_istore hK (lv' := [(5, vI 0), (4, vI 0), (3, vI ((h 74) ((h 96) x))), (0, vR 73), (1, vI x), (2, vI b)]) (by decide) rfl dX12_tellBit_84 ?_
          refine TT_iload hK 1 rfl dX12_tellBit_86 ?_
          refine TT_iload hK 0 rfl dX12_tellBit_88 ?_
          refine TT_icmp_eq hK (tgt := 97) (by decide) (by decide) dX12_tellBit_90 (by decide) (fun hb90_11 => ?_) (fun hb90_11 => ?_)
          · refine TT_iconst hK dX12_tellBit_97 ?_
            refine TT_istore hK (lv' := [(6, vI 0), (5, vI 0), (4, vI 0), (3, vI ((h 74) ((h 96) x))), (0, vR 73), (1, vI x), (2, vI b)]) (by decide) rfl dX12_tellBit_98 ?_
            refine TT_aload_n hK rfl 4 rfl dX12_tellBit_100 ?_
            refine TT_iload hK 0 rfl dX12_tellBit_101 ?_
            refine TT_if_eq hK (tgt := 113) (by decide) dX12_tellBit_103 (by decide) (fun hb103_12 => ?_) (fun hb103_12 => ?_)
            · refine TT_aload_n hK rfl 4 rfl dX12_tellBit_113 ?_
              refine gf_X12_175 hK (by decide) rfl (v := (h 73) 33) (rd_ (sOf_eq _ _ _) (fup_ne _ _ (by decide))) dX12_tellBit_114 ?_
              have r13 := ty_73_33 (v := (h 73) 33) hT_6 (rd_ (sOf_eq _ _ _) (fup_ne _ _ (by decide)))
              refine TT_iload_n hK rfl 3 rfl dX12_tellBit_117 ?_
              refine TT_i2l hK (irm (by omega) (by omega)) dX12_tellBit_118 ?_
              refine TT_ladd hK dX12_tellBit_119 ?_
              refine TT_w64f (fun x120_14 hx14 => ?_)
              refine pf_X12_175 hK (by decide) rfl dX12_tellBit_120 ?_
              refine TT_hp (h' := setO h 73 (fup (fup (h 73) 32 (((h 73) 32) - ((h 74) ((h 96) x)))) 33 x120_14)) (up_can (sOf_eq _ _ _) rfl (setO_same _ _ _ _)) ?_
              have hT_15 : TY (setO h 73 (fup (fup (h 73) 32 (((h 73) 32) - ((h 74) ((h 96) x)))) 33 x120_14)) := tu_73_33 hT_6 (show up (setO h 73 (fup (h 73) 32 (((h 73) 32) - ((h 74) ((h 96) x))))) 73 33 x120_14 = (setO h 73 (fup (fup (h 73) 32 (((h 73) 32) - ((h 74) ((h 96) x)))) 33 x120_14)) from up_can (sOf_eq _ _ _) rfl (setO_same _ _ _ _)) (by omega)
              have hF_15 : FRM [73, 96, 97, 98] [32, 33, 34, 36] h (setO h 73 (fup (fup (h 73) 32 (((h 73) 32) - ((h 74) ((h 96) x)))) 33 x120_14)) := FRM_f (show up (setO h 73 (fup (h 73) 32 (((h 73) 32) - ((h 74) ((h 96) x))))) 73 33 x120_14 = (setO h 73 (fup (fup (h 73) 32 (((h 73) 32) - ((h 74) ((h 96) x)))) 33 x120_14)) from up_can (sOf_eq _ _ _) rfl (setO_same _ _ _ _)) hF_6 (by decide) (by decide)
              refine TT_aload_n hK rfl 4 rfl dX12_tellBit_123 ?_
              refine TT_iload hK 0 rfl dX12_tellBit_124 ?_
              refine TT_if_eq hK (tgt := 134) (by decide) dX12_tellBit_126 (by decide) (fun hb126_16 => ?_) (fun hb126_16 => ?_)
              · refine TT_aload_n hK rfl 4 rfl dX12_tellBit_134 ?_
                refine gf_X12_171 hK (by decide) rfl (v := ((h 73) 32) - ((h 74) ((h 96) x))) (rd_ (sOf_eq _ _ _) ((fup_ne _ _ (by decide)).trans (fup_eq _ _ _))) dX12_tellBit_135 ?_
                refine pf_X12_171 hK (by decide) rfl dX12_tellBit_138 ?_
                refine TT_hp (h' := setO h 73 (fup (fup (h 73) 32 (((h 73) 32) - ((h 74) ((h 96) x)))) 33 x120_14)) (up_can (sOf_eq _ _ _) ((fup_comm _ _ _ (by decide)).trans (fup_cg (fup_same _ _ _ _))) (setO_same _ _ _ _)) ?_
                have hT_17 : TY (setO h 73 (fup (fup (h 73) 32 (((h 73) 32) - ((h 74) ((h 96) x)))) 33 x120_14)) := tu_73_32 hT_15 (show up (setO h 73 (fup (fup (h 73) 32 (((h 73) 32) - ((h 74) ((h 96) x)))) 33 x120_14)) 73 32 (((h 73) 32) - ((h 74) ((h 96) x))) = (setO h 73 (fup (fup (h 73) 32 (((h 73) 32) - ((h 74) ((h 96) x)))) 33 x120_14)) from up_can (sOf_eq _ _ _) ((fup_comm _ _ _ (by decide)).trans (fup_cg (fup_same _ _ _ _))) (setO_same _ _ _ _)) (by omega)
                have hF_17 : FRM [73, 96, 97, 98] [32, 33, 34, 36] h (setO h 73 (fup (fup (h 73) 32 (((h 73) 32) - ((h 74) ((h 96) x)))) 33 x120_14)) := FRM_f (show up (setO h 73 (fup (fup (h 73) 32 (((h 73) 32) - ((h 74) ((h 96) x)))) 33 x120_14)) 73 32 (((h 73) 32) - ((h 74) ((h 96) x))) = (setO h 73 (fup (fup (h 73) 32 (((h 73) 32) - ((h 74) ((h 96) x)))) 33 x120_14)) from up_can (sOf_eq _ _ _) ((fup_comm _ _ _ (by decide)).trans (fup_cg (fup_same _ _ _ _))) (setO_same _ _ _ _)) hF_15 (by decide) (by decide)
                refine TT_aload_n hK rfl 4 rfl dX12_tellBit_141 ?_
                refine TT_iload_n hK rfl 5 rfl dX12_tellBit_142 ?_
                refine TT_iload hK 2 rfl dX12_tellBit_143 ?_
                have e18_74 : (setO h 73 (fup (fup (h 73) 32 (((h 73) 32) - ((h 74) ((h 96) x)))) 33 x120_14)) 74 = h 74 := sOf_ne _ _ (by decide)
                have e19_75 : (setO h 73 (fup (fup (h 73) 32 (((h 73) 32) - ((h 74) ((h 96) x)))) 33 x120_14)) 75 = h 75 := sOf_ne _ _ (by decide)
                refine iv_X12_189 hK (s_X12_learn_73 x 0 (setO h 73 (fup (fup (h 73) 32 (((h 73) 32) - ((h 74) ((h 96) x)))) 33 x120_14)) hT_17 (by first | omega | (simp [up, setR] <;> omega)) (by first | omega | (simp [up, setR] <;> omega)) (by rewrite [e18_74, e19_75]; first | assumption | exact htb)) (by decide) rfl ⟨by decide, by decide⟩ (by decide) rfl rfl (Nat.le_of_ble_eq_true rfl) ⟨by decide, by decide⟩ dX12_tellBit_145 ?_
                intro r9 g145_20 hp9
                obtain ⟨⟨hT_20, hG_20⟩, hr9, p1_20⟩ := hp9
                rw [hr9]
                have hF_20 : FRM [73, 96, 97, 98] [32, 33, 34, 36] h g145_20 := FRM_tr hF_17 hG_20 (by decide) (by decide)
                rw [show (setO h 73 (fup (fup (h 73) 32 (((h 73) 32) - ((h 74) ((h 96) x)))) 33 x120_14)) 75 = h 75 from sOf_ne _ _ (by decide)] at p1_20
                rw [show (setO h 73 (fup (fup (h 73) 32 (((h 73) 32) - ((h 74) ((h 96) x)))) 33 x120_14)) 96 = h 96 from sOf_ne _ _ (by decide)] at p1_20
                show TT K ly 0 0 148 [(6, vI 0), (5, vI 0), (4, vI 0), (3, vI ((h 74) ((h 96) x))), (0, vR 73), (1, vI x), (2, vI b)] [] g145_20
                have L148_21 : ∀ (k21 : Nat) (w148_21 : Hp_), TY w148_21 → FRM [73, 96, 97, 98] [32, 33, 34, 36] h w148_21 → (1 ≤ (w148_21 73 32) ∧ (w148_21 73 32) < 65536) → (1 ≤ (w148_21 73 34)) → (1 ≤ (w148_21 73 36)) → (7 * (w148_21 73 36) - (w148_21 73 34) + ndb (w148_21 73 32) + PhS (w148_21 96) ≤ 7 * (h 73 36) - (h 73 34) + PhS (h 96) + 9) → (0 ≤ PhS (w148_21 96)) → (0 ≤ ndb (w148_21 73 32)) → ((65536 : Int) - (w148_21 73 32)).toNat < k21 → TT K ly 0 0 148 [(0, vR 73), (1, vI x), (2, vI b)] [] w148_21 := by
                  intro k21
                  induction k21 with
                  | zero => intro w148_21 hT148_21 hF148_21 ha1 ht1 hn1 hp1 hz1 hz2 hk21; exact absurd hk21 (Nat.not_lt_zero _)
                  | succ k21 ih21 =>
                    intro w148_21 hT148_21 hF148_21 ha1 ht1 hn1 hp1 hz1 hz2 hk21
                    refine TT_aload_n hK rfl 0 rfl dX12_tellBit_148 ?_
                    refine gf_X12_171 hK (by decide) rfl (v := (w148_21 73) 32) rfl dX12_tellBit_149 ?_
                    have r22 := ty_73_32 (v := (w148_21 73) 32) hT148_21 rfl
                    refine TT_ldc2 hK lc_X12_169 dX12_tellBit_152 ?_
                    refine TT_lcmp hK (lrm (by omega) (by omega)) (by decide) dX12_tellBit_155 ?_
                    refine TT_if_ge hK (tgt := 207) (lcmp_ir _ _) dX12_tellBit_156 (by decide) (fun hb156_23 => ?_) (fun hb156_23 => ?_)
                    · have hb156_23 := lcmp_ge hb156_23
                      refine TT_iload_n hK rfl 2 rfl dX12_tellBit_207 ?_
                      refine TT_iret hK hQ ?_ dX12_tellBit_208
                      have e24_73_32 : w148_21 73 32 = (w148_21 73) 32 := rfl
                      have e25_73_34 : w148_21 73 34 = (w148_21 73) 34 := rfl
                      have e26_73_36 : w148_21 73 36 = (w148_21 73) 36 := rfl
                      have e27_73_34 : w148_21 73 34 = (w148_21 73) 34 := rfl
                      have e28_73_36 : w148_21 73 36 = (w148_21 73) 36 := rfl
                      exact ⟨⟨hT148_21, hF148_21⟩, b, rfl, (by omega), (by omega), (by rewrite [e24_73_32]; omega), (by rewrite [e25_73_34]; omega), (by rewrite [e26_73_36]; omega), (by rewrite [e27_73_34, e28_73_36]; omega)⟩
                    · have hb156_23 := lcmp_lt hb156_23
                      have hd9 := ndb_2 (a := (w148_21 73) 32) (by omega) (by omega)
                      refine TT_aload_n hK rfl 0 rfl dX12_tellBit_159 ?_
                      refine TT_ldc2 hK lc_X12_193 dX12_tellBit_160 ?_
                      refine TT_aload_n hK rfl 0 rfl dX12_tellBit_163 ?_
                      refine gf_X12_171 hK (by decide) rfl (v := (w148_21 73) 32) rfl dX12_tellBit_164 ?_
                      refine TT_lmul hK dX12_tellBit_167 ?_
                      refine pf_X12_171 hK (by decide) rfl dX12_tellBit_168 ?_
                      refine TT_hp (h' := setO w148_21 73 (fup (w148_21 73) 32 (2 * ((w148_21 73) 32)))) (up_can rfl rfl rfl) ?_
                      have hT_29 : TY (setO w148_21 73 (fup (w148_21 73) 32 (2 * ((w148_21 73) 32)))) := tu_73_32 hT148_21 (show up w148_21 73 32 (2 * ((w148_21 73) 32)) = (setO w148_21 73 (fup (w148_21 73) 32 (2 * ((w148_21 73) 32)))) from up_can rfl rfl rfl) (by omega)
                      have hF_29 : FRM [73, 96, 97, 98] [32, 33, 34, 36] h (setO w148_21 73 (fup (w148_21 73) 32 (2 * ((w148_21 73) 32)))) := FRM_f (show up w148_21 73 32 (2 * ((w148_21 73) 32)) = (setO w148_21 73 (fup (w148_21 73) 32 (2 * ((w148_21 73) 32)))) from up_can rfl rfl rfl) hF148_21 (by decide) (by decide)
                      refine TT_aload_n hK rfl 0 rfl dX12_tellBit_171 ?_
                      refine TT_ldc2 hK lc_X12_193 dX12_tellBit_172 ?_
                      refine TT_aload_n hK rfl 0 rfl dX12_tellBit_175 ?_
                      refine gf_X12_175 hK (by decide) rfl (v := (w148_21 73) 33) (rd_ (sOf_eq _ _ _) (fup_ne _ _ (by decide))) dX12_tellBit_176 ?_
                      have r30 := ty_73_33 (v := (w148_21 73) 33) hT_29 (rd_ (sOf_eq _ _ _) (fup_ne _ _ (by decide)))
                      refine TT_lmul hK dX12_tellBit_179 ?_
                      refine TT_w64f (fun x180_31 hx31 => ?_)
                      refine pf_X12_175 hK (by decide) rfl dX12_tellBit_180 ?_
                      refine TT_hp (h' := setO w148_21 73 (fup (fup (w148_21 73) 32 (2 * ((w148_21 73) 32))) 33 x180_31)) (up_can (sOf_eq _ _ _) rfl (setO_same _ _ _ _)) ?_
                      have hT_32 : TY (setO w148_21 73 (fup (fup (w148_21 73) 32 (2 * ((w148_21 73) 32))) 33 x180_31)) := tu_73_33 hT_29 (show up (setO w148_21 73 (fup (w148_21 73) 32 (2 * ((w148_21 73) 32)))) 73 33 x180_31 = (setO w148_21 73 (fup (fup (w148_21 73) 32 (2 * ((w148_21 73) 32))) 33 x180_31)) from up_can (sOf_eq _ _ _) rfl (setO_same _ _ _ _)) (by omega)
                      have hF_32 : FRM [73, 96, 97, 98] [32, 33, 34, 36] h (setO w148_21 73 (fup (fup (w148_21 73) 32 (2 * ((w148_21 73) 32))) 33 x180_31)) := FRM_f (show up (setO w148_21 73 (fup (w148_21 73) 32 (2 * ((w148_21 73) 32)))) 73 33 x180_31 = (setO w148_21 73 (fup (fup (w148_21 73) 32 (2 * ((w148_21 73) 32))) 33 x180_31)) from up_can (sOf_eq _ _ _) rfl (setO_same _ _ _ _)) hF_29 (by decide) (by decide)
                      refine TT_aload_n hK rfl 0 rfl dX12_tellBit_183 ?_
                      refine TT_dup hK rfl dX12_tellBit_184 ?_
                      refine gf_X12_178 hK (by decide) rfl (v := (w148_21 73) 34) (rd_ (sOf_eq _ _ _) ((fup_ne _ _ (by decide)).trans (fup_ne _ _ (by decide)))) dX12_tellBit_185 ?_
                      have r33 := ty_73_34 (v := (w148_21 73) 34) hT_32 (rd_ (sOf_eq _ _ _) ((fup_ne _ _ (by decide)).trans (fup_ne _ _ (by decide))))
                      refine TT_iconst hK dX12_tellBit_188 ?_
                      refine TT_isub hK dX12_tellBit_189 ?_
                      refine pf_X12_178 hK (by decide) rfl dX12_tellBit_190 ?_
                      refine TT_hp (h' := setO w148_21 73 (fup (fup (fup (w148_21 73) 32 (2 * ((w148_21 73) 32))) 33 x180_31) 34 (((w148_21 73) 34) - 1))) (up_can (sOf_eq _ _ _) rfl (setO_same _ _ _ _)) ?_
                      have hT_34 : TY (setO w148_21 73 (fup (fup (fup (w148_21 73) 32 (2 * ((w148_21 73) 32))) 33 x180_31) 34 (((w148_21 73) 34) - 1))) := tu_73_34 hT_32 (show up (setO w148_21 73 (fup (fup (w148_21 73) 32 (2 * ((w148_21 73) 32))) 33 x180_31)) 73 34 (((w148_21 73) 34) - 1) = (setO w148_21 73 (fup (fup (fup (w148_21 73) 32 (2 * ((w148_21 73) 32))) 33 x180_31) 34 (((w148_21 73) 34) - 1))) from up_can (sOf_eq _ _ _) rfl (setO_same _ _ _ _)) (by omega)
                      have hF_34 : FRM [73, 96, 97, 98] [32, 33, 34, 36] h (setO w148_21 73 (fup (fup (fup (w148_21 73) 32 (2 * ((w148_21 73) 32))) 33 x180_31) 34 (((w148_21 73) 34) - 1))) := FRM_f (show up (setO w148_21 73 (fup (fup (w148_21 73) 32 (2 * ((w148_21 73) 32))) 33 x180_31)) 73 34 (((w148_21 73) 34) - 1) = (setO w148_21 73 (fup (fup (fup (w148_21 73) 32 (2 * ((w148_21 73) 32))) 33 x180_31) 34 (((w148_21 73) 34) - 1))) from up_can (sOf_eq _ _ _) rfl (setO_same _ _ _ _)) hF_32 (by decide) (by decide)
                      refine TT_aload_n hK rfl 0 rfl dX12_tellBit_193 ?_
                      refine gf_X12_178 hK (by decide) rfl (v := ((w148_21 73) 34) - 1) (rd_ (sOf_eq _ _ _) (fup_eq _ _ _)) dX12_tellBit_194 ?_
                      have r35 := ty_73_34 (v := ((w148_21 73) 34) - 1) hT_34 (rd_ (sOf_eq _ _ _) (fup_eq _ _ _))
                      refine TT_if_ne hK (tgt := 148) (irm (by omega) (by omega)) dX12_tellBit_197 (by decide) (fun hb197_36 => ?_) (fun hb197_36 => ?_)
                      · have e37_73_32 : (setO w148_21 73 (fup (fup (fup (w148_21 73) 32 (2 * ((w148_21 73) 32))) 33 x180_31) 34 (((w148_21 73) 34) - 1))) 73 32 = 2 * ((w148_21 73) 32) := rd_ (sOf_eq _ _ _) ((fup_ne _ _ (by decide)).trans ((fup_ne _ _ (by decide)).trans (fup_eq _ _ _)))
                        have e38_73_34 : (setO w148_21 73 (fup (fup (fup (w148_21 73) 32 (2 * ((w148_21 73) 32))) 33 x180_31) 34 (((w148_21 73) 34) - 1))) 73 34 = ((w148_21 73) 34) - 1 := rd_ (sOf_eq _ _ _) (fup_eq _ _ _)
                        have e39_73_36 : (setO w148_21 73 (fup (fup (fup (w148_21 73) 32 (2 * ((w148_21 73) 32))) 33 x180_31) 34 (((w148_21 73) 34) - 1))) 73 36 = (w148_21 73) 36 := rd_ (sOf_eq _ _ _) ((fup_ne _ _ (by decide)).trans ((fup_ne _ _ (by decide)).trans (fup_ne _ _ (by decide))))
                        have e40_73_32 : (setO w148_21 73 (fup (fup (fup (w148_21 73) 32 (2 * ((w148_21 73) 32))) 33 x180_31) 34 (((w148_21 73) 34) - 1))) 73 32 = 2 * ((w148_21 73) 32) := rd_ (sOf_eq _ _ _) ((fup_ne _ _ (by decide)).trans ((fup_ne _ _ (by decide)).trans (fup_eq _ _ _)))
                        have e41_73_34 : (setO w148_21 73 (fup (fup (fup (w148_21 73) 32 (2 * ((w148_21 73) 32))) 33 x180_31) 34 (((w148_21 73) 34) - 1))) 73 34 = ((w148_21 73) 34) - 1 := rd_ (sOf_eq _ _ _) (fup_eq _ _ _)
                        have e42_73_36 : (setO w148_21 73 (fup (fup (fup (w148_21 73) 32 (2 * ((w148_21 73) 32))) 33 x180_31) 34 (((w148_21 73) 34) - 1))) 73 36 = (w148_21 73) 36 := rd_ (sOf_eq _ _ _) ((fup_ne _ _ (by decide)).trans ((fup_ne _ _ (by decide)).trans (fup_ne _ _ (by decide))))
                        have e43_96 : (setO w148_21 73 (fup (fup (fup (w148_21 73) 32 (2 * ((w148_21 73) 32))) 33 x180_31) 34 (((w148_21 73) 34) - 1))) 96 = w148_21 96 := sOf_ne _ _ (by decide)
                        have e44_96 : (setO w148_21 73 (fup (fup (fup (w148_21 73) 32 (2 * ((w148_21 73) 32))) 33 x180_31) 34 (((w148_21 73) 34) - 1))) 96 = w148_21 96 := sOf_ne _ _ (by decide)
                        have e45_73_32 : (setO w148_21 73 (fup (fup (fup (w148_21 73) 32 (2 * ((w148_21 73) 32))) 33 x180_31) 34 (((w148_21 73) 34) - 1))) 73 32 = 2 * ((w148_21 73) 32) := rd_ (sOf_eq _ _ _) ((fup_ne _ _ (by decide)).trans ((fup_ne _ _ (by decide)).trans (fup_eq _ _ _)))
                        have e46_73_32 : (setO w148_21 73 (fup (fup (fup (w148_21 73) 32 (2 * ((w148_21 73) 32))) 33 x180_31) 34 (((w148_21 73) 34) - 1))) 73 32 = 2 * ((w148_21 73) 32) := rd_ (sOf_eq _ _ _) ((fup_ne _ _ (by decide)).trans ((fup_ne _ _ (by decide)).trans (fup_eq _ _ _)))
                        exact ih21 (setO w148_21 73 (fup (fup (fup (w148_21 73) 32 (2 * ((w148_21 73) 32))) 33 x180_31) 34 (((w148_21 73) 34) - 1))) hT_34 hF_34 (by rewrite [e37_73_32]; first | omega | (simp [up, setR] <;> omega)) (by rewrite [e38_73_34]; first | omega | (simp [up, setR] <;> omega)) (by rewrite [e39_73_36]; first | omega | (simp [up, setR] <;> omega)) (by rewrite [e40_73_32, e41_73_34, e42_73_36, e43_96]; first | omega | (simp [up, setR] <;> omega)) (by rewrite [e44_96]; exact (PhS_r _).1) (by rewrite [e45_73_32]; exact (ndb_r _).1) (by rewrite [e46_73_32]; first | omega | (simp [up, setR] <;> omega))
                      · refine TT_aload_n hK rfl 0 rfl dX12_tellBit_200 ?_
                        have e47_73_36 : (setO w148_21 73 (fup (fup (fup (w148_21 73) 32 (2 * ((w148_21 73) 32))) 33 x180_31) 34 (((w148_21 73) 34) - 1))) 73 36 = (w148_21 73) 36 := rd_ (sOf_eq _ _ _) ((fup_ne _ _ (by decide)).trans ((fup_ne _ _ (by decide)).trans (fup_ne _ _ (by decide))))
                        refine iv_X12_195 hK (s_X12_putOut_73 (setO w148_21 73 (fup (fup (fup (w148_21 73) 32 (2 * ((w148_21 73) 32))) 33 x180_31) 34 (((w148_21 73) 34) - 1))) hT_34 (by rewrite [e47_73_36]; first | omega | (simp [up, setR] <;> omega))) (by decide) rfl ⟨by decide, by decide⟩ (by decide) rfl rfl (Nat.le_of_ble_eq_true rfl) ⟨by decide, by decide⟩ dX12_tellBit_201 ?_
                        intro r9 g201_48 hp9
                        obtain ⟨⟨hT_48, hG_48⟩, hr9, p1_48, p2_48⟩ := hp9
                        rw [hr9]
                        have hF_48 : FRM [73, 96, 97, 98] [32, 33, 34, 36] h g201_48 := FRM_tr hF_34 hG_48 (by decide) (by decide)
                        rw [show (setO w148_21 73 (fup (fup (fup (w148_21 73) 32 (2 * ((w148_21 73) 32))) 33 x180_31) 34 (((w148_21 73) 34) - 1))) 73 36 = (w148_21 73) 36 from rd_ (sOf_eq _ _ _) ((fup_ne _ _ (by decide)).trans ((fup_ne _ _ (by decide)).trans (fup_ne _ _ (by decide))))] at p1_48
                        show TT K ly 0 0 204 [(0, vR 73), (1, vI x), (2, vI b)] [] g201_48
                        refine TT_goto hK (tgt := 148) dX12_tellBit_204 (by decide) ?_
                        have e49_73_32 : g201_48 73 32 = 2 * ((w148_21 73) 32) := ((hG_48.2 32 (by decide))).trans (rd_ (sOf_eq _ _ _) ((fup_ne _ _ (by decide)).trans ((fup_ne _ _ (by decide)).trans (fup_eq _ _ _))))
                        have e50_73_34 : g201_48 73 34 = (g201_48 73) 34 := rfl
                        have e51_73_36 : g201_48 73 36 = (g201_48 73) 36 := rfl
                        have e52_73_32 : g201_48 73 32 = 2 * ((w148_21 73) 32) := ((hG_48.2 32 (by decide))).trans (rd_ (sOf_eq _ _ _) ((fup_ne _ _ (by decide)).trans ((fup_ne _ _ (by decide)).trans (fup_eq _ _ _))))
                        have e53_73_34 : g201_48 73 34 = (g201_48 73) 34 := rfl
                        have e54_73_36 : g201_48 73 36 = (g201_48 73) 36 := rfl
                        have e55_96 : g201_48 96 = w148_21 96 := ((hG_48.1 96 (by decide))).trans (sOf_ne _ _ (by decide))
                        have e56_96 : g201_48 96 = w148_21 96 := ((hG_48.1 96 (by decide))).trans (sOf_ne _ _ (by decide))
                        have e57_73_32 : g201_48 73 32 = 2 * ((w148_21 73) 32) := ((hG_48.2 32 (by decide))).trans (rd_ (sOf_eq _ _ _) ((fup_ne _ _ (by decide)).trans ((fup_ne _ _ (by decide)).trans (fup_eq _ _ _))))
                        have e58_73_32 : g201_48 73 32 = 2 * ((w148_21 73) 32) := ((hG_48.2 32 (by decide))).trans (rd_ (sOf_eq _ _ _) ((fup_ne _ _ (by decide)).trans ((fup_ne _ _ (by decide)).trans (fup_eq _ _ _))))
                        exact ih21 g201_48 hT_48 hF_48 (by rewrite [e49_73_32]; first | omega | (simp [up, setR] <;> omega)) (by rewrite [e50_73_34]; first | omega | (simp [up, setR] <;> omega)) (by rewrite [e51_73_36]; first | omega | (simp [up, setR] <;> omega)) (by rewrite [e52_73_32, e53_73_34, e54_73_36, e55_96]; first | omega | (simp [up, setR] <;> omega)) (by rewrite [e56_96]; exact (PhS_r _).1) (by rewrite [e57_73_32]; exact (ndb_r _).1) (by rewrite [e58_73_32]; first | omega | (simp [up, setR] <;> omega))
                refine TT_sub [4, 5, 6] rfl ?_
                have e59_73_32 : g145_20 73 32 = ((h 73) 32) - ((h 74) ((h 96) x)) := rd_ (((hG_20.1 73 (by decide))).trans (sOf_eq _ _ _)) ((fup_ne _ _ (by decide)).trans (fup_eq _ _ _))
                have e60_73_34 : g145_20 73 34 = (h 73) 34 := rd_ (((hG_20.1 73 (by decide))).trans (sOf_eq _ _ _)) ((fup_ne _ _ (by decide)).trans (fup_ne _ _ (by decide)))
                have e61_73_36 : g145_20 73 36 = (h 73) 36 := rd_ (((hG_20.1 73 (by decide))).trans (sOf_eq _ _ _)) ((fup_ne _ _ (by decide)).trans (fup_ne _ _ (by decide)))
                have e62_73_32 : g145_20 73 32 = ((h 73) 32) - ((h 74) ((h 96) x)) := rd_ (((hG_20.1 73 (by decide))).trans (sOf_eq _ _ _)) ((fup_ne _ _ (by decide)).trans (fup_eq _ _ _))
                have e63_73_34 : g145_20 73 34 = (h 73) 34 := rd_ (((hG_20.1 73 (by decide))).trans (sOf_eq _ _ _)) ((fup_ne _ _ (by decide)).trans (fup_ne _ _ (by decide)))
                have e64_73_36 : g145_20 73 36 = (h 73) 36 := rd_ (((hG_20.1 73 (by decide))).trans (sOf_eq _ _ _)) ((fup_ne _ _ (by decide)).trans (fup_ne _ _ (by decide)))
                have e65_73_32 : g145_20 73 32 = ((h 73) 32) - ((h 74) ((h 96) x)) := rd_ (((hG_20.1 73 (by decide))).trans (sOf_eq _ _ _)) ((fup_ne _ _ (by decide)).trans (fup_eq _ _ _))
                have k9 := NDC (a := ((h 73) 32) - ((h 74) ((h 96) x))) (ot := 0) tq (by omega) (by omega)
                exact L148_21 ((((65536 : Int) - (g145_20 73 32)).toNat) + 1) g145_20 hT_20 hF_20 (by rewrite [e59_73_32]; first | omega | (simp [up, setR] <;> omega)) (by rewrite [e60_73_34]; first | omega | (simp [up, setR] <;> omega)) (by rewrite [e61_73_36]; first | omega | (simp [up, setR] <;> omega)) (by rewrite [e62_73_32, e63_73_34, e64_73_36]; first | omega | (simp [up, setR] <;> omega)) (by exact (PhS_r _).1) (by rewrite [e65_73_32]; exact (ndb_r _).1) (Nat.lt_succ_self _)
              · exact absurd hb126_16 (by decide)
            · exact absurd hb103_12 (by decide)
          · exact absurd hb90_11 (by decide)
        · have hb76_10 := lcmp_lt hb76_10
          refine TT_iconst hK dX12_tellBit_79 ?_
          refine TT_goto hK (tgt := 84) dX12_tellBit_80 (by decide) ?_
          refine TT_istore hK (lv' := [(5, vI 1), (4, vI 0), (3, vI ((h 74) ((h 96) x))), (0, vR 73), (1, vI x), (2, vI b)]) (by decide) rfl dX12_tellBit_84 ?_
          refine TT_iload hK 1 rfl dX12_tellBit_86 ?_
          refine TT_iload hK 0 rfl dX12_tellBit_88 ?_
          refine TT_icmp_eq hK (tgt := 97) (by decide) (by decide) dX12_tellBit_90 (by decide) (fun hb90_66 => ?_) (fun hb90_66 => ?_)
          · exact absurd hb90_66 (by decide)
          · refine TT_iconst hK dX12_tellBit_93 ?_
            refine TT_goto hK (tgt := 98) dX12_tellBit_94 (by decide) ?_
            refine TT_istore hK (lv' := [(6, vI 1), (5, vI 1), (4, vI 0), (3, vI ((h 74) ((h 96) x))), (0, vR 73), (1, vI x), (2, vI b)]) (by decide) rfl dX12_tellBit_98 ?_
            refine TT_aload_n hK rfl 4 rfl dX12_tellBit_100 ?_
            refine TT_iload hK 0 rfl dX12_tellBit_101 ?_
            refine TT_if_eq hK (tgt := 113) (by decide) dX12_tellBit_103 (by decide) (fun hb103_67 => ?_) (fun hb103_67 => ?_)
            · exact absurd hb103_67 (by decide)
            · refine TT_aload_n hK rfl 4 rfl dX12_tellBit_106 ?_
              refine gf_X12_175 hK (by decide) rfl (v := (h 73) 33) (rd_ (sOf_eq _ _ _) (fup_ne _ _ (by decide))) dX12_tellBit_107 ?_
              have r68 := ty_73_33 (v := (h 73) 33) hT_6 (rd_ (sOf_eq _ _ _) (fup_ne _ _ (by decide)))
              refine TT_goto hK (tgt := 120) dX12_tellBit_110 (by decide) ?_
              refine TT_w64f (fun x120_69 hx69 => ?_)
              refine pf_X12_175 hK (by decide) rfl dX12_tellBit_120 ?_
              refine TT_hp (h' := setO h 73 (fup (fup (h 73) 32 (((h 73) 32) - ((h 74) ((h 96) x)))) 33 x120_69)) (up_can (sOf_eq _ _ _) rfl (setO_same _ _ _ _)) ?_
              have hT_70 : TY (setO h 73 (fup (fup (h 73) 32 (((h 73) 32) - ((h 74) ((h 96) x)))) 33 x120_69)) := tu_73_33 hT_6 (show up (setO h 73 (fup (h 73) 32 (((h 73) 32) - ((h 74) ((h 96) x))))) 73 33 x120_69 = (setO h 73 (fup (fup (h 73) 32 (((h 73) 32) - ((h 74) ((h 96) x)))) 33 x120_69)) from up_can (sOf_eq _ _ _) rfl (setO_same _ _ _ _)) (by omega)
              have hF_70 : FRM [73, 96, 97, 98] [32, 33, 34, 36] h (setO h 73 (fup (fup (h 73) 32 (((h 73) 32) - ((h 74) ((h 96) x)))) 33 x120_69)) := FRM_f (show up (setO h 73 (fup (h 73) 32 (((h 73) 32) - ((h 74) ((h 96) x))))) 73 33 x120_69 = (setO h 73 (fup (fup (h 73) 32 (((h 73) 32) - ((h 74) ((h 96) x)))) 33 x120_69)) from up_can (sOf_eq _ _ _) rfl (setO_same _ _ _ _)) hF_6 (by decide) (by decide)
              refine TT_aload_n hK rfl 4 rfl dX12_tellBit_123 ?_
              refine TT_iload hK 0 rfl dX12_tellBit_124 ?_
              refine TT_if_eq hK (tgt := 134) (by decide) dX12_tellBit_126 (by decide) (fun hb126_71 => ?_) (fun hb126_71 => ?_)
              · exact absurd hb126_71 (by decide)
              · refine TT_iload_n hK rfl 3 rfl dX12_tellBit_129 ?_
                refine TT_i2l hK (irm (by omega) (by omega)) dX12_tellBit_130 ?_
                refine TT_goto hK (tgt := 138) dX12_tellBit_131 (by decide) ?_
                refine pf_X12_171 hK (by decide) rfl dX12_tellBit_138 ?_
                refine TT_hp (h' := setO h 73 (fup (fup (h 73) 32 ((h 74) ((h 96) x))) 33 x120_69)) (up_can (sOf_eq _ _ _) ((fup_comm _ _ _ (by decide)).trans (fup_cg (fup_same _ _ _ _))) (setO_same _ _ _ _)) ?_
                have hT_72 : TY (setO h 73 (fup (fup (h 73) 32 ((h 74) ((h 96) x))) 33 x120_69)) := tu_73_32 hT_70 (show up (setO h 73 (fup (fup (h 73) 32 (((h 73) 32) - ((h 74) ((h 96) x)))) 33 x120_69)) 73 32 ((h 74) ((h 96) x)) = (setO h 73 (fup (fup (h 73) 32 ((h 74) ((h 96) x))) 33 x120_69)) from up_can (sOf_eq _ _ _) ((fup_comm _ _ _ (by decide)).trans (fup_cg (fup_same _ _ _ _))) (setO_same _ _ _ _)) (by omega)
                have hF_72 : FRM [73, 96, 97, 98] [32, 33, 34, 36] h (setO h 73 (fup (fup (h 73) 32 ((h 74) ((h 96) x))) 33 x120_69)) := FRM_f (show up (setO h 73 (fup (fup (h 73) 32 (((h 73) 32) - ((h 74) ((h 96) x)))) 33 x120_69)) 73 32 ((h 74) ((h 96) x)) = (setO h 73 (fup (fup (h 73) 32 ((h 74) ((h 96) x))) 33 x120_69)) from up_can (sOf_eq _ _ _) ((fup_comm _ _ _ (by decide)).trans (fup_cg (fup_same _ _ _ _))) (setO_same _ _ _ _)) hF_70 (by decide) (by decide)
                refine TT_aload_n hK rfl 4 rfl dX12_tellBit_141 ?_
                refine TT_iload_n hK rfl 5 rfl dX12_tellBit_142 ?_
                refine TT_iload hK 2 rfl dX12_tellBit_143 ?_
                have e73_74 : (setO h 73 (fup (fup (h 73) 32 ((h 74) ((h 96) x))) 33 x120_69)) 74 = h 74 := sOf_ne _ _ (by decide)
                have e74_75 : (setO h 73 (fup (fup (h 73) 32 ((h 74) ((h 96) x))) 33 x120_69)) 75 = h 75 := sOf_ne _ _ (by decide)
                refine iv_X12_189 hK (s_X12_learn_73 x 0 (setO h 73 (fup (fup (h 73) 32 ((h 74) ((h 96) x))) 33 x120_69)) hT_72 (by first | omega | (simp [up, setR] <;> omega)) (by first | omega | (simp [up, setR] <;> omega)) (by rewrite [e73_74, e74_75]; first | assumption | exact htb)) (by decide) rfl ⟨by decide, by decide⟩ (by decide) rfl rfl (Nat.le_of_ble_eq_true rfl) ⟨by decide, by decide⟩ dX12_tellBit_145 ?_
                intro r9 g145_75 hp9
                obtain ⟨⟨hT_75, hG_75⟩, hr9, p1_75⟩ := hp9
                rw [hr9]
                have hF_75 : FRM [73, 96, 97, 98] [32, 33, 34, 36] h g145_75 := FRM_tr hF_72 hG_75 (by decide) (by decide)
                rw [show (setO h 73 (fup (fup (h 73) 32 ((h 74) ((h 96) x))) 33 x120_69)) 75 = h 75 from sOf_ne _ _ (by decide)] at p1_75
                rw [show (setO h 73 (fup (fup (h 73) 32 ((h 74) ((h 96) x))) 33 x120_69)) 96 = h 96 from sOf_ne _ _ (by decide)] at p1_75
                show TT K ly 0 0 148 [(6, vI 1), (5, vI 1), (4, vI 0), (3, vI ((h 74) ((h 96) x))), (0, vR 73), (1, vI x), (2, vI b)] [] g145_75
                have L148_76 : ∀ (k76 : Nat) (w148_76 : Hp_), TY w148_76 → FRM [73, 96, 97, 98] [32, 33, 34, 36] h w148_76 → (1 ≤ (w148_76 73 32) ∧ (w148_76 73 32) < 65536) → (1 ≤ (w148_76 73 34)) → (1 ≤ (w148_76 73 36)) → (7 * (w148_76 73 36) - (w148_76 73 34) + ndb (w148_76 73 32) + PhS (w148_76 96) ≤ 7 * (h 73 36) - (h 73 34) + PhS (h 96) + 9) → (0 ≤ PhS (w148_76 96)) → (0 ≤ ndb (w148_76 73 32)) → ((65536 : Int) - (w148_76 73 32)).toNat < k76 → TT K ly 0 0 148 [(0, vR 73), (1, vI x), (2, vI b)] [] w148_76 := by
                  intro k76
                  induction k76 with
                  | zero => intro w148_76 hT148_76 hF148_76 ha1 ht1 hn1 hp1 hz1 hz2 hk76; exact absurd hk76 (Nat.not_lt_zero _)
                  | succ k76 ih76 =>
                    intro w148_76 hT148_76 hF148_76 ha1 ht1 hn1 hp1 hz1 hz2 hk76
                    refine TT_aload_n hK rfl 0 rfl dX12_tellBit_148 ?_
                    refine gf_X12_171 hK (by decide) rfl (v := (w148_76 73) 32) rfl dX12_tellBit_149 ?_
                    have r77 := ty_73_32 (v := (w148_76 73) 32) hT148_76 rfl
                    refine TT_ldc2 hK lc_X12_169 dX12_tellBit_152 ?_
                    refine TT_lcmp hK (lrm (by omega) (by omega)) (by decide) dX12_tellBit_155 ?_
                    refine TT_if_ge hK (tgt := 207) (lcmp_ir _ _) dX12_tellBit_156 (by decide) (fun hb156_78 => ?_) (fun hb156_78 => ?_)
                    · have hb156_78 := lcmp_ge hb156_78
                      refine TT_iload_n hK rfl 2 rfl dX12_tellBit_207 ?_
                      refine TT_iret hK hQ ?_ dX12_tellBit_208
                      have e79_73_32 : w148_76 73 32 = (w148_76 73) 32 := rfl
                      have e80_73_34 : w148_76 73 34 = (w148_76 73) 34 := rfl
                      have e81_73_36 : w148_76 73 36 = (w148_76 73) 36 := rfl
                      have e82_73_34 : w148_76 73 34 = (w148_76 73) 34 := rfl
                      have e83_73_36 : w148_76 73 36 = (w148_76 73) 36 := rfl
                      exact ⟨⟨hT148_76, hF148_76⟩, b, rfl, (by omega), (by omega), (by rewrite [e79_73_32]; omega), (by rewrite [e80_73_34]; omega), (by rewrite [e81_73_36]; omega), (by rewrite [e82_73_34, e83_73_36]; omega)⟩
                    · have hb156_78 := lcmp_lt hb156_78
                      have hd9 := ndb_2 (a := (w148_76 73) 32) (by omega) (by omega)
                      refine TT_aload_n hK rfl 0 rfl dX12_tellBit_159 ?_
                      refine TT_ldc2 hK lc_X12_193 dX12_tellBit_160 ?_
                      refine TT_aload_n hK rfl 0 rfl dX12_tellBit_163 ?_
                      refine gf_X12_171 hK (by decide) rfl (v := (w148_76 73) 32) rfl dX12_tellBit_164 ?_
                      refine TT_lmul hK dX12_tellBit_167 ?_
                      refine pf_X12_171 hK (by decide) rfl dX12_tellBit_168 ?_
                      refine TT_hp (h' := setO w148_76 73 (fup (w148_76 73) 32 (2 * ((w148_76 73) 32)))) (up_can rfl rfl rfl) ?_
                      have hT_84 : TY (setO w148_76 73 (fup (w148_76 73) 32 (2 * ((w148_76 73) 32)))) := tu_73_32 hT148_76 (show up w148_76 73 32 (2 * ((w148_76 73) 32)) = (setO w148_76 73 (fup (w148_76 73) 32 (2 * ((w148_76 73) 32)))) from up_can rfl rfl rfl) (by omega)
                      have hF_84 : FRM [73, 96, 97, 98] [32, 33, 34, 36] h (setO w148_76 73 (fup (w148_76 73) 32 (2 * ((w148_76 73) 32)))) := FRM_f (show up w148_76 73 32 (2 * ((w148_76 73) 32)) = (setO w148_76 73 (fup (w148_76 73) 32 (2 * ((w148_76 73) 32)))) from up_can rfl rfl rfl) hF148_76 (by decide) (by decide)
                      refine TT_aload_n hK rfl 0 rfl dX12_tellBit_171 ?_
                      refine TT_ldc2 hK lc_X12_193 dX12_tellBit_172 ?_
                      refine TT_aload_n hK rfl 0 rfl dX12_tellBit_175 ?_
                      refine gf_X12_175 hK (by decide) rfl (v := (w148_76 73) 33) (rd_ (sOf_eq _ _ _) (fup_ne _ _ (by decide))) dX12_tellBit_176 ?_
                      have r85 := ty_73_33 (v := (w148_76 73) 33) hT_84 (rd_ (sOf_eq _ _ _) (fup_ne _ _ (by decide)))
                      refine TT_lmul hK dX12_tellBit_179 ?_
                      refine TT_w64f (fun x180_86 hx86 => ?_)
                      refine pf_X12_175 hK (by decide) rfl dX12_tellBit_180 ?_
                      refine TT_hp (h' := setO w148_76 73 (fup (fup (w148_76 73) 32 (2 * ((w148_76 73) 32))) 33 x180_86)) (up_can (sOf_eq _ _ _) rfl (setO_same _ _ _ _)) ?_
                      have hT_87 : TY (setO w148_76 73 (fup (fup (w148_76 73) 32 (2 * ((w148_76 73) 32))) 33 x180_86)) := tu_73_33 hT_84 (show up (setO w148_76 73 (fup (w148_76 73) 32 (2 * ((w148_76 73) 32)))) 73 33 x180_86 = (setO w148_76 73 (fup (fup (w148_76 73) 32 (2 * ((w148_76 73) 32))) 33 x180_86)) from up_can (sOf_eq _ _ _) rfl (setO_same _ _ _ _)) (by omega)
                      have hF_87 : FRM [73, 96, 97, 98] [32, 33, 34, 36] h (setO w148_76 73 (fup (fup (w148_76 73) 32 (2 * ((w148_76 73) 32))) 33 x180_86)) := FRM_f (show up (setO w148_76 73 (fup (w148_76 73) 32 (2 * ((w148_76 73) 32)))) 73 33 x180_86 = (setO w148_76 73 (fup (fup (w148_76 73) 32 (2 * ((w148_76 73) 32))) 33 x180_86)) from up_can (sOf_eq _ _ _) rfl (setO_same _ _ _ _)) hF_84 (by decide) (by decide)
                      refine TT_aload_n hK rfl 0 rfl dX12_tellBit_183 ?_
                      refine TT_dup hK rfl dX12_tellBit_184 ?_
                      refine gf_X12_178 hK (by decide) rfl (v := (w148_76 73) 34) (rd_ (sOf_eq _ _ _) ((fup_ne _ _ (by decide)).trans (fup_ne _ _ (by decide)))) dX12_tellBit_185 ?_
                      have r88 := ty_73_34 (v := (w148_76 73) 34) hT_87 (rd_ (sOf_eq _ _ _) ((fup_ne _ _ (by decide)).trans (fup_ne _ _ (by decide))))
                      refine TT_iconst hK dX12_tellBit_188 ?_
                      refine TT_isub hK dX12_tellBit_189 ?_
                      refine pf_X12_178 hK (by decide) rfl dX12_tellBit_190 ?_
                      refine TT_hp (h' := setO w148_76 73 (fup (fup (fup (w148_76 73) 32 (2 * ((w148_76 73) 32))) 33 x180_86) 34 (((w148_76 73) 34) - 1))) (up_can (sOf_eq _ _ _) rfl (setO_same _ _ _ _)) ?_
                      have hT_89 : TY (setO w148_76 73 (fup (fup (fup (w148_76 73) 32 (2 * ((w148_76 73) 32))) 33 x180_86) 34 (((w148_76 73) 34) - 1))) := tu_73_34 hT_87 (show up (setO w148_76 73 (fup (fup (w148_76 73) 32 (2 * ((w148_76 73) 32))) 33 x180_86)) 73 34 (((w148_76 73) 34) - 1) = (setO w148_76 73 (fup (fup (fup (w148_76 73) 32 (2 * ((w148_76 73) 32))) 33 x180_86) 34 (((w148_76 73) 34) - 1))) from up_can (sOf_eq _ _ _) rfl (setO_same _ _ _ _)) (by omega)
                      have hF_89 : FRM [73, 96, 97, 98] [32, 33, 34, 36] h (setO w148_76 73 (fup (fup (fup (w148_76 73) 32 (2 * ((w148_76 73) 32))) 33 x180_86) 34 (((w148_76 73) 34) - 1))) := FRM_f (show up (setO w148_76 73 (fup (fup (w148_76 73) 32 (2 * ((w148_76 73) 32))) 33 x180_86)) 73 34 (((w148_76 73) 34) - 1) = (setO w148_76 73 (fup (fup (fup (w148_76 73) 32 (2 * ((w148_76 73) 32))) 33 x180_86) 34 (((w148_76 73) 34) - 1))) from up_can (sOf_eq _ _ _) rfl (setO_same _ _ _ _)) hF_87 (by decide) (by decide)
                      refine TT_aload_n hK rfl 0 rfl dX12_tellBit_193 ?_
                      refine gf_X12_178 hK (by decide) rfl (v := ((w148_76 73) 34) - 1) (rd_ (sOf_eq _ _ _) (fup_eq _ _ _)) dX12_tellBit_194 ?_
                      have r90 := ty_73_34 (v := ((w148_76 73) 34) - 1) hT_89 (rd_ (sOf_eq _ _ _) (fup_eq _ _ _))
                      refine TT_if_ne hK (tgt := 148) (irm (by omega) (by omega)) dX12_tellBit_197 (by decide) (fun hb197_91 => ?_) (fun hb197_91 => ?_)
                      · have e92_73_32 : (setO w148_76 73 (fup (fup (fup (w148_76 73) 32 (2 * ((w148_76 73) 32))) 33 x180_86) 34 (((w148_76 73) 34) - 1))) 73 32 = 2 * ((w148_76 73) 32) := rd_ (sOf_eq _ _ _) ((fup_ne _ _ (by decide)).trans ((fup_ne _ _ (by decide)).trans (fup_eq _ _ _)))
                        have e93_73_34 : (setO w148_76 73 (fup (fup (fup (w148_76 73) 32 (2 * ((w148_76 73) 32))) 33 x180_86) 34 (((w148_76 73) 34) - 1))) 73 34 = ((w148_76 73) 34) - 1 := rd_ (sOf_eq _ _ _) (fup_eq _ _ _)
                        have e94_73_36 : (setO w148_76 73 (fup (fup (fup (w148_76 73) 32 (2 * ((w148_76 73) 32))) 33 x180_86) 34 (((w148_76 73) 34) - 1))) 73 36 = (w148_76 73) 36 := rd_ (sOf_eq _ _ _) ((fup_ne _ _ (by decide)).trans ((fup_ne _ _ (by decide)).trans (fup_ne _ _ (by decide))))
                        have e95_73_32 : (setO w148_76 73 (fup (fup (fup (w148_76 73) 32 (2 * ((w148_76 73) 32))) 33 x180_86) 34 (((w148_76 73) 34) - 1))) 73 32 = 2 * ((w148_76 73) 32) := rd_ (sOf_eq _ _ _) ((fup_ne _ _ (by decide)).trans ((fup_ne _ _ (by decide)).trans (fup_eq _ _ _)))
                        have e96_73_34 : (setO w148_76 73 (fup (fup (fup (w148_76 73) 32 (2 * ((w148_76 73) 32))) 33 x180_86) 34 (((w148_76 73) 34) - 1))) 73 34 = ((w148_76 73) 34) - 1 := rd_ (sOf_eq _ _ _) (fup_eq _ _ _)
                        have e97_73_36 : (setO w148_76 73 (fup (fup (fup (w148_76 73) 32 (2 * ((w148_76 73) 32))) 33 x180_86) 34 (((w148_76 73) 34) - 1))) 73 36 = (w148_76 73) 36 := rd_ (sOf_eq _ _ _) ((fup_ne _ _ (by decide)).trans ((fup_ne _ _ (by decide)).trans (fup_ne _ _ (by decide))))
                        have e98_96 : (setO w148_76 73 (fup (fup (fup (w148_76 73) 32 (2 * ((w148_76 73) 32))) 33 x180_86) 34 (((w148_76 73) 34) - 1))) 96 = w148_76 96 := sOf_ne _ _ (by decide)
                        have e99_96 : (setO w148_76 73 (fup (fup (fup (w148_76 73) 32 (2 * ((w148_76 73) 32))) 33 x180_86) 34 (((w148_76 73) 34) - 1))) 96 = w148_76 96 := sOf_ne _ _ (by decide)
                        have e100_73_32 : (setO w148_76 73 (fup (fup (fup (w148_76 73) 32 (2 * ((w148_76 73) 32))) 33 x180_86) 34 (((w148_76 73) 34) - 1))) 73 32 = 2 * ((w148_76 73) 32) := rd_ (sOf_eq _ _ _) ((fup_ne _ _ (by decide)).trans ((fup_ne _ _ (by decide)).trans (fup_eq _ _ _)))
                        have e101_73_32 : (setO w148_76 73 (fup (fup (fup (w148_76 73) 32 (2 * ((w148_76 73) 32))) 33 x180_86) 34 (((w148_76 73) 34) - 1))) 73 32 = 2 * ((w148_76 73) 32) := rd_ (sOf_eq _ _ _) ((fup_ne _ _ (by decide)).trans ((fup_ne _ _ (by decide)).trans (fup_eq _ _ _)))
                        exact ih76 (setO w148_76 73 (fup (fup (fup (w148_76 73) 32 (2 * ((w148_76 73) 32))) 33 x180_86) 34 (((w148_76 73) 34) - 1))) hT_89 hF_89 (by rewrite [e92_73_32]; first | omega | (simp [up, setR] <;> omega)) (by rewrite [e93_73_34]; first | omega | (simp [up, setR] <;> omega)) (by rewrite [e94_73_36]; first | omega | (simp [up, setR] <;> omega)) (by rewrite [e95_73_32, e96_73_34, e97_73_36, e98_96]; first | omega | (simp [up, setR] <;> omega)) (by rewrite [e99_96]; exact (PhS_r _).1) (by rewrite [e100_73_32]; exact (ndb_r _).1) (by rewrite [e101_73_32]; first | omega | (simp [up, setR] <;> omega))
                      · refine TT_aload_n hK rfl 0 rfl dX12_tellBit_200 ?_
                        have e102_73_36 : (setO w148_76 73 (fup (fup (fup (w148_76 73) 32 (2 * ((w148_76 73) 32))) 33 x180_86) 34 (((w148_76 73) 34) - 1))) 73 36 = (w148_76 73) 36 := rd_ (sOf_eq _ _ _) ((fup_ne _ _ (by decide)).trans ((fup_ne _ _ (by decide)).trans (fup_ne _ _ (by decide))))
                        refine iv_X12_195 hK (s_X12_putOut_73 (setO w148_76 73 (fup (fup (fup (w148_76 73) 32 (2 * ((w148_76 73) 32))) 33 x180_86) 34 (((w148_76 73) 34) - 1))) hT_89 (by rewrite [e102_73_36]; first | omega | (simp [up, setR] <;> omega))) (by decide) rfl ⟨by decide, by decide⟩ (by decide) rfl rfl (Nat.le_of_ble_eq_true rfl) ⟨by decide, by decide⟩ dX12_tellBit_201 ?_
                        intro r9 g201_103 hp9
                        obtain ⟨⟨hT_103, hG_103⟩, hr9, p1_103, p2_103⟩ := hp9
                        rw [hr9]
                        have hF_103 : FRM [73, 96, 97, 98] [32, 33, 34, 36] h g201_103 := FRM_tr hF_89 hG_103 (by decide) (by decide)
                        rw [show (setO w148_76 73 (fup (fup (fup (w148_76 73) 32 (2 * ((w148_76 73) 32))) 33 x180_86) 34 (((w148_76 73) 34) - 1))) 73 36 = (w148_76 73) 36 from rd_ (sOf_eq _ _ _) ((fup_ne _ _ (by decide)).trans ((fup_ne _ _ (by decide)).trans (fup_ne _ _ (by decide))))] at p1_103
                        show TT K ly 0 0 204 [(0, vR 73), (1, vI x), (2, vI b)] [] g201_103
                        refine TT_goto hK (tgt := 148) dX12_tellBit_204 (by decide) ?_
                        have e104_73_32 : g201_103 73 32 = 2 * ((w148_76 73) 32) := ((hG_103.2 32 (by decide))).trans (rd_ (sOf_eq _ _ _) ((fup_ne _ _ (by decide)).trans ((fup_ne _ _ (by decide)).trans (fup_eq _ _ _))))
                        have e105_73_34 : g201_103 73 34 = (g201_103 73) 34 := rfl
                        have e106_73_36 : g201_103 73 36 = (g201_103 73) 36 := rfl
                        have e107_73_32 : g201_103 73 32 = 2 * ((w148_76 73) 32) := ((hG_103.2 32 (by decide))).trans (rd_ (sOf_eq _ _ _) ((fup_ne _ _ (by decide)).trans ((fup_ne _ _ (by decide)).trans (fup_eq _ _ _))))
                        have e108_73_34 : g201_103 73 34 = (g201_103 73) 34 := rfl
                        have e109_73_36 : g201_103 73 36 = (g201_103 73) 36 := rfl
                        have e110_96 : g201_103 96 = w148_76 96 := ((hG_103.1 96 (by decide))).trans (sOf_ne _ _ (by decide))
                        have e111_96 : g201_103 96 = w148_76 96 := ((hG_103.1 96 (by decide))).trans (sOf_ne _ _ (by decide))
                        have e112_73_32 : g201_103 73 32 = 2 * ((w148_76 73) 32) := ((hG_103.2 32 (by decide))).trans (rd_ (sOf_eq _ _ _) ((fup_ne _ _ (by decide)).trans ((fup_ne _ _ (by decide)).trans (fup_eq _ _ _))))
                        have e113_73_32 : g201_103 73 32 = 2 * ((w148_76 73) 32) := ((hG_103.2 32 (by decide))).trans (rd_ (sOf_eq _ _ _) ((fup_ne _ _ (by decide)).trans ((fup_ne _ _ (by decide)).trans (fup_eq _ _ _))))
                        exact ih76 g201_103 hT_103 hF_103 (by rewrite [e104_73_32]; first | omega | (simp [up, setR] <;> omega)) (by rewrite [e105_73_34]; first | omega | (simp [up, setR] <;> omega)) (by rewrite [e106_73_36]; first | omega | (simp [up, setR] <;> omega)) (by rewrite [e107_73_32, e108_73_34, e109_73_36, e110_96]; first | omega | (simp [up, setR] <;> omega)) (by rewrite [e111_96]; exact (PhS_r _).1) (by rewrite [e112_73_32]; exact (ndb_r _).1) (by rewrite [e113_73_32]; first | omega | (simp [up, setR] <;> omega))
                refine TT_sub [4, 5, 6] rfl ?_
                have e114_73_32 : g145_75 73 32 = (h 74) ((h 96) x) := rd_ (((hG_75.1 73 (by decide))).trans (sOf_eq _ _ _)) ((fup_ne _ _ (by decide)).trans (fup_eq _ _ _))
                have e115_73_34 : g145_75 73 34 = (h 73) 34 := rd_ (((hG_75.1 73 (by decide))).trans (sOf_eq _ _ _)) ((fup_ne _ _ (by decide)).trans (fup_ne _ _ (by decide)))
                have e116_73_36 : g145_75 73 36 = (h 73) 36 := rd_ (((hG_75.1 73 (by decide))).trans (sOf_eq _ _ _)) ((fup_ne _ _ (by decide)).trans (fup_ne _ _ (by decide)))
                have e117_73_32 : g145_75 73 32 = (h 74) ((h 96) x) := rd_ (((hG_75.1 73 (by decide))).trans (sOf_eq _ _ _)) ((fup_ne _ _ (by decide)).trans (fup_eq _ _ _))
                have e118_73_34 : g145_75 73 34 = (h 73) 34 := rd_ (((hG_75.1 73 (by decide))).trans (sOf_eq _ _ _)) ((fup_ne _ _ (by decide)).trans (fup_ne _ _ (by decide)))
                have e119_73_36 : g145_75 73 36 = (h 73) 36 := rd_ (((hG_75.1 73 (by decide))).trans (sOf_eq _ _ _)) ((fup_ne _ _ (by decide)).trans (fup_ne _ _ (by decide)))
                have e120_73_32 : g145_75 73 32 = (h 74) ((h 96) x) := rd_ (((hG_75.1 73 (by decide))).trans (sOf_eq _ _ _)) ((fup_ne _ _ (by decide)).trans (fup_eq _ _ _))
                have k9 := NDC (a := (h 74) ((h 96) x)) (ot := 0) tq (by omega) (by omega)
                exact L148_76 ((((65536 : Int) - (g145_75 73 32)).toNat) + 1) g145_75 hT_75 hF_75 (by rewrite [e114_73_32]; first | omega | (simp [up, setR] <;> omega)) (by rewrite [e115_73_34]; first | omega | (simp [up, setR] <;> omega)) (by rewrite [e116_73_36]; first | omega | (simp [up, setR] <;> omega)) (by rewrite [e117_73_32, e118_73_34, e119_73_36]; first | omega | (simp [up, setR] <;> omega)) (by exact (PhS_r _).1) (by rewrite [e120_73_32]; exact (ndb_r _).1) (Nat.lt_succ_self _)
      · have hb53_9 := lcmp_ge hb53_9
        refine TT_aload_n hK rfl 2 rfl dX12_tellBit_56 ?_
        refine TT_aload_n hK rfl 2 rfl dX12_tellBit_57 ?_
        refine gf_X12_175 hK (by decide) rfl (v := (h 73) 33) (rd_ (sOf_eq _ _ _) (fup_ne _ _ (by decide))) dX12_tellBit_58 ?_
        have r121 := ty_73_33 (v := (h 73) 33) hT_6 (rd_ (sOf_eq _ _ _) (fup_ne _ _ (by decide)))
        refine TT_iload_n hK rfl 1 rfl dX12_tellBit_61 ?_
        refine TT_i2l hK (irm (by omega) (by omega)) dX12_tellBit_62 ?_
        refine TT_ladd hK dX12_tellBit_63 ?_
        refine TT_w64f (fun x64_122 hx122 => ?_)
        refine pf_X12_175 hK (by decide) rfl dX12_tellBit_64 ?_
        refine TT_hp (h' := setO h 73 (fup (fup (h 73) 32 (((h 73) 32) - ((h 74) ((h 96) x)))) 33 x64_122)) (up_can (sOf_eq _ _ _) rfl (setO_same _ _ _ _)) ?_
        have hT_123 : TY (setO h 73 (fup (fup (h 73) 32 (((h 73) 32) - ((h 74) ((h 96) x)))) 33 x64_122)) := tu_73_33 hT_6 (show up (setO h 73 (fup (h 73) 32 (((h 73) 32) - ((h 74) ((h 96) x))))) 73 33 x64_122 = (setO h 73 (fup (fup (h 73) 32 (((h 73) 32) - ((h 74) ((h 96) x)))) 33 x64_122)) from up_can (sOf_eq _ _ _) rfl (setO_same _ _ _ _)) (by omega)
        have hF_123 : FRM [73, 96, 97, 98] [32, 33, 34, 36] h (setO h 73 (fup (fup (h 73) 32 (((h 73) 32) - ((h 74) ((h 96) x)))) 33 x64_122)) := FRM_f (show up (setO h 73 (fup (h 73) 32 (((h 73) 32) - ((h 74) ((h 96) x))))) 73 33 x64_122 = (setO h 73 (fup (fup (h 73) 32 (((h 73) 32) - ((h 74) ((h 96) x)))) 33 x64_122)) from up_can (sOf_eq _ _ _) rfl (setO_same _ _ _ _)) hF_6 (by decide) (by decide)
        refine TT_iload_n hK rfl 4 rfl dX12_tellBit_67 ?_
        refine TT_iret hK hQ ?_ dX12_tellBit_68
        have e124_73_32 : (setO h 73 (fup (fup (h 73) 32 (((h 73) 32) - ((h 74) ((h 96) x)))) 33 x64_122)) 73 32 = ((h 73) 32) - ((h 74) ((h 96) x)) := rd_ (sOf_eq _ _ _) ((fup_ne _ _ (by decide)).trans (fup_eq _ _ _))
        have e125_73_34 : (setO h 73 (fup (fup (h 73) 32 (((h 73) 32) - ((h 74) ((h 96) x)))) 33 x64_122)) 73 34 = (h 73) 34 := rd_ (sOf_eq _ _ _) ((fup_ne _ _ (by decide)).trans (fup_ne _ _ (by decide)))
        have e126_73_36 : (setO h 73 (fup (fup (h 73) 32 (((h 73) 32) - ((h 74) ((h 96) x)))) 33 x64_122)) 73 36 = (h 73) 36 := rd_ (sOf_eq _ _ _) ((fup_ne _ _ (by decide)).trans (fup_ne _ _ (by decide)))
        have e127_73_34 : (setO h 73 (fup (fup (h 73) 32 (((h 73) 32) - ((h 74) ((h 96) x)))) 33 x64_122)) 73 34 = (h 73) 34 := rd_ (sOf_eq _ _ _) ((fup_ne _ _ (by decide)).trans (fup_ne _ _ (by decide)))
        have e128_73_36 : (setO h 73 (fup (fup (h 73) 32 (((h 73) 32) - ((h 74) ((h 96) x)))) 33 x64_122)) 73 36 = (h 73) 36 := rd_ (sOf_eq _ _ _) ((fup_ne _ _ (by decide)).trans (fup_ne _ _ (by decide)))
        have e129_96 : (setO h 73 (fup (fup (h 73) 32 (((h 73) 32) - ((h 74) ((h 96) x)))) 33 x64_122)) 96 = h 96 := sOf_ne _ _ (by decide)
        exact ⟨⟨hT_123, hF_123⟩, b, rfl, (by omega), (by omega), (by rewrite [e124_73_32]; omega), (by rewrite [e125_73_34]; omega), (by rewrite [e126_73_36]; omega), (by rewrite [e127_73_34, e128_73_36, e129_96]; omega)⟩
  · refine TT_iconst hK dX12_tellBit_22 ?_
    refine TT_goto hK (tgt := 27) dX12_tellBit_23 (by decide) ?_
    refine TT_istore hK (lv' := [(4, vI 1), (3, vI ((h 74) ((h 96) x))), (0, vR 73), (1, vI x), (2, vI b)]) (by decide) rfl dX12_tellBit_27 ?_
    refine TT_aload_n hK rfl 2 rfl dX12_tellBit_29 ?_
    refine TT_aload_n hK rfl 2 rfl dX12_tellBit_30 ?_
    refine gf_X12_171 hK (by decide) rfl (v := (h 73) 32) rfl dX12_tellBit_31 ?_
    have r130 := ty_73_32 (v := (h 73) 32) hT rfl
    refine TT_iload_n hK rfl 1 rfl dX12_tellBit_34 ?_
    refine TT_i2l hK (irm (by omega) (by omega)) dX12_tellBit_35 ?_
    refine TT_lsub hK dX12_tellBit_36 ?_
    refine pf_X12_171 hK (by decide) rfl dX12_tellBit_37 ?_
    refine TT_hp (h' := setO h 73 (fup (h 73) 32 (((h 73) 32) - ((h 74) ((h 96) x))))) (up_can rfl rfl rfl) ?_
    have hT_131 : TY (setO h 73 (fup (h 73) 32 (((h 73) 32) - ((h 74) ((h 96) x))))) := tu_73_32 hT (show up h 73 32 (((h 73) 32) - ((h 74) ((h 96) x))) = (setO h 73 (fup (h 73) 32 (((h 73) 32) - ((h 74) ((h 96) x))))) from up_can rfl rfl rfl) (by omega)
    have hF_131 : FRM [73, 96, 97, 98] [32, 33, 34, 36] h (setO h 73 (fup (h 73) 32 (((h 73) 32) - ((h 74) ((h 96) x))))) := FRM_f (show up h 73 32 (((h 73) 32) - ((h 74) ((h 96) x))) = (setO h 73 (fup (h 73) 32 (((h 73) 32) - ((h 74) ((h 96) x))))) from up_can rfl rfl rfl) hF (by decide) (by decide)
    refine TT_iload hK 0 rfl dX12_tellBit_40 ?_
    refine TT_if_ne hK (tgt := 69) (by decide) dX12_tellBit_42 (by decide) (fun hb42_132 => ?_) (fun hb42_132 => ?_)
    · refine TT_aload_n hK rfl 2 rfl dX12_tellBit_69 ?_
      refine gf_X12_171 hK (by decide) rfl (v := ((h 73) 32) - ((h 74) ((h 96) x))) (rd_ (sOf_eq _ _ _) (fup_eq _ _ _)) dX12_tellBit_70 ?_
      have r133 := ty_73_32 (v := ((h 73) 32) - ((h 74) ((h 96) x))) hT_131 (rd_ (sOf_eq _ _ _) (fup_eq _ _ _))
      refine TT_iload_n hK rfl 1 rfl dX12_tellBit_73 ?_
      refine TT_i2l hK (irm (by omega) (by omega)) dX12_tellBit_74 ?_
      refine TT_lcmp hK (lrm (by omega) (by omega)) (lrm (by omega) (by omega)) dX12_tellBit_75 ?_
      refine TT_if_ge hK (tgt := 83) (lcmp_ir _ _) dX12_tellBit_76 (by decide) (fun hb76_134 => ?_) (fun hb76_134 => ?_)
      · have hb76_134 := lcmp_ge hb76_134
        refine TT_iconst hK dX12_tellBit_83 ?_
        refine TT_istore hK (lv' := [(5, vI 0), (4, vI 1), (3, vI ((h 74) ((h 96) x))), (0, vR 73), (1, vI x), (2, vI b)]) (by decide) rfl dX12_tellBit_84 ?_
        refine TT_iload hK 1 rfl dX12_tellBit_86 ?_
        refine TT_iload hK 0 rfl dX12_tellBit_88 ?_
        refine TT_icmp_eq hK (tgt := 97) (by decide) (by decide) dX12_tellBit_90 (by decide) (fun hb90_135 => ?_) (fun hb90_135 => ?_)
        · exact absurd hb90_135 (by decide)
        · refine TT_iconst hK dX12_tellBit_93 ?_
          refine TT_goto hK (tgt := 98) dX12_tellBit_94 (by decide) ?_
          refine TT_istore hK (lv' := [(6, vI 1), (5, vI 0), (4, vI 1), (3, vI ((h 74) ((h 96) x))), (0, vR 73), (1, vI x), (2, vI b)]) (by decide) rfl dX12_tellBit_98 ?_
          refine TT_aload_n hK rfl 4 rfl dX12_tellBit_100 ?_
          refine TT_iload hK 0 rfl dX12_tellBit_101 ?_
          refine TT_if_eq hK (tgt := 113) (by decide) dX12_tellBit_103 (by decide) (fun hb103_136 => ?_) (fun hb103_136 => ?_)
          · exact absurd hb103_136 (by decide)
          · refine TT_aload_n hK rfl 4 rfl dX12_tellBit_106 ?_
            refine gf_X12_175 hK (by decide) rfl (v := (h 73) 33) (rd_ (sOf_eq _ _ _) (fup_ne _ _ (by decide))) dX12_tellBit_107 ?_
            have r137 := ty_73_33 (v := (h 73) 33) hT_131 (rd_ (sOf_eq _ _ _) (fup_ne _ _ (by decide)))
            refine TT_goto hK (tgt := 120) dX12_tellBit_110 (by decide) ?_
            refine TT_w64f (fun x120_138 hx138 => ?_)
            refine pf_X12_175 hK (by decide) rfl dX12_tellBit_120 ?_
            refine TT_hp (h' := setO h 73 (fup (fup (h 73) 32 (((h 73) 32) - ((h 74) ((h 96) x)))) 33 x120_138)) (up_can (sOf_eq _ _ _) rfl (setO_same _ _ _ _)) ?_
            have hT_139 : TY (setO h 73 (fup (fup (h 73) 32 (((h 73) 32) - ((h 74) ((h 96) x)))) 33 x120_138)) := tu_73_33 hT_131 (show up (setO h 73 (fup (h 73) 32 (((h 73) 32) - ((h 74) ((h 96) x))))) 73 33 x120_138 = (setO h 73 (fup (fup (h 73) 32 (((h 73) 32) - ((h 74) ((h 96) x)))) 33 x120_138)) from up_can (sOf_eq _ _ _) rfl (setO_same _ _ _ _)) (by omega)
            have hF_139 : FRM [73, 96, 97, 98] [32, 33, 34, 36] h (setO h 73 (fup (fup (h 73) 32 (((h 73) 32) - ((h 74) ((h 96) x)))) 33 x120_138)) := FRM_f (show up (setO h 73 (fup (h 73) 32 (((h 73) 32) - ((h 74) ((h 96) x))))) 73 33 x120_138 = (setO h 73 (fup (fup (h 73) 32 (((h 73) 32) - ((h 74) ((h 96) x)))) 33 x120_138)) from up_can (sOf_eq _ _ _) rfl (setO_same _ _ _ _)) hF_131 (by decide) (by decide)
            refine TT_aload_n hK rfl 4 rfl dX12_tellBit_123 ?_
            refine TT_iload hK 0 rfl dX12_tellBit_124 ?_
            refine TT_if_eq hK (tgt := 134) (by decide) dX12_tellBit_126 (by decide) (fun hb126_140 => ?_) (fun hb126_140 => ?_)
            · exact absurd hb126_140 (by decide)
            · refine TT_iload_n hK rfl 3 rfl dX12_tellBit_129 ?_
              refine TT_i2l hK (irm (by omega) (by omega)) dX12_tellBit_130 ?_
              refine TT_goto hK (tgt := 138) dX12_tellBit_131 (by decide) ?_
              refine pf_X12_171 hK (by decide) rfl dX12_tellBit_138 ?_
              refine TT_hp (h' := setO h 73 (fup (fup (h 73) 32 ((h 74) ((h 96) x))) 33 x120_138)) (up_can (sOf_eq _ _ _) ((fup_comm _ _ _ (by decide)).trans (fup_cg (fup_same _ _ _ _))) (setO_same _ _ _ _)) ?_
              have hT_141 : TY (setO h 73 (fup (fup (h 73) 32 ((h 74) ((h 96) x))) 33 x120_138)) := tu_73_32 hT_139 (show up (setO h 73 (fup (fup (h 73) 32 (((h 73) 32) - ((h 74) ((h 96) x)))) 33 x120_138)) 73 32 ((h 74) ((h 96) x)) = (setO h 73 (fup (fup (h 73) 32 ((h 74) ((h 96) x))) 33 x120_138)) from up_can (sOf_eq _ _ _) ((fup_comm _ _ _ (by decide)).trans (fup_cg (fup_same _ _ _ _))) (setO_same _ _ _ _)) (by omega)
              have hF_141 : FRM [73, 96, 97, 98] [32, 33, 34, 36] h (setO h 73 (fup (fup (h 73) 32 ((h 74) ((h 96) x))) 33 x120_138)) := FRM_f (show up (setO h 73 (fup (fup (h 73) 32 (((h 73) 32) - ((h 74) ((h 96) x)))) 33 x120_138)) 73 32 ((h 74) ((h 96) x)) = (setO h 73 (fup (fup (h 73) 32 ((h 74) ((h 96) x))) 33 x120_138)) from up_can (sOf_eq _ _ _) ((fup_comm _ _ _ (by decide)).trans (fup_cg (fup_same _ _ _ _))) (setO_same _ _ _ _)) hF_139 (by decide) (by decide)
              refine TT_aload_n hK rfl 4 rfl dX12_tellBit_141 ?_
              refine TT_iload_n hK rfl 5 rfl dX12_tellBit_142 ?_
              refine TT_iload hK 2 rfl dX12_tellBit_143 ?_
              have e142_74 : (setO h 73 (fup (fup (h 73) 32 ((h 74) ((h 96) x))) 33 x120_138)) 74 = h 74 := sOf_ne _ _ (by decide)
              have e143_75 : (setO h 73 (fup (fup (h 73) 32 ((h 74) ((h 96) x))) 33 x120_138)) 75 = h 75 := sOf_ne _ _ (by decide)
              refine iv_X12_189 hK (s_X12_learn_73 x 1 (setO h 73 (fup (fup (h 73) 32 ((h 74) ((h 96) x))) 33 x120_138)) hT_141 (by first | omega | (simp [up, setR] <;> omega)) (by first | omega | (simp [up, setR] <;> omega)) (by rewrite [e142_74, e143_75]; first | assumption | exact htb)) (by decide) rfl ⟨by decide, by decide⟩ (by decide) rfl rfl (Nat.le_of_ble_eq_true rfl) ⟨by decide, by decide⟩ dX12_tellBit_145 ?_
              intro r9 g145_144 hp9
              obtain ⟨⟨hT_144, hG_144⟩, hr9, p1_144⟩ := hp9
              rw [hr9]
              have hF_144 : FRM [73, 96, 97, 98] [32, 33, 34, 36] h g145_144 := FRM_tr hF_141 hG_144 (by decide) (by decide)
              rw [show (setO h 73 (fup (fup (h 73) 32 ((h 74) ((h 96) x))) 33 x120_138)) 75 = h 75 from sOf_ne _ _ (by decide)] at p1_144
              rw [show (setO h 73 (fup (fup (h 73) 32 ((h 74) ((h 96) x))) 33 x120_138)) 96 = h 96 from sOf_ne _ _ (by decide)] at p1_144
              show TT K ly 0 0 148 [(6, vI 1), (5, vI 0), (4, vI 1), (3, vI ((h 74) ((h 96) x))), (0, vR 73), (1, vI x), (2, vI b)] [] g145_144
              have L148_145 : ∀ (k145 : Nat) (w148_145 : Hp_), TY w148_145 → FRM [73, 96, 97, 98] [32, 33, 34, 36] h w148_145 → (1 ≤ (w148_145 73 32) ∧ (w148_145 73 32) < 65536) → (1 ≤ (w148_145 73 34)) → (1 ≤ (w148_145 73 36)) → (7 * (w148_145 73 36) - (w148_145 73 34) + ndb (w148_145 73 32) + PhS (w148_145 96) ≤ 7 * (h 73 36) - (h 73 34) + PhS (h 96) + 9) → (0 ≤ PhS (w148_145 96)) → (0 ≤ ndb (w148_145 73 32)) → ((65536 : Int) - (w148_145 73 32)).toNat < k145 → TT K ly 0 0 148 [(0, vR 73), (1, vI x), (2, vI b)] [] w148_145 := by
                intro k145
                induction k145 with
                | zero => intro w148_145 hT148_145 hF148_145 ha1 ht1 hn1 hp1 hz1 hz2 hk145; exact absurd hk145 (Nat.not_lt_zero _)
                | succ k145 ih145 =>
                  intro w148_145 hT148_145 hF148_145 ha1 ht1 hn1 hp1 hz1 hz2 hk145
                  refine TT_aload_n hK rfl 0 rfl dX12_tellBit_148 ?_
                  refine gf_X12_171 hK (by decide) rfl (v := (w148_145 73) 32) rfl dX12_tellBit_149 ?_
                  have r146 := ty_73_32 (v := (w148_145 73) 32) hT148_145 rfl
                  refine TT_ldc2 hK lc_X12_169 dX12_tellBit_152 ?_
                  refine TT_lcmp hK (lrm (by omega) (by omega)) (by decide) dX12_tellBit_155 ?_
                  refine TT_if_ge hK (tgt := 207) (lcmp_ir _ _) dX12_tellBit_156 (by decide) (fun hb156_147 => ?_) (fun hb156_147 => ?_)
                  · have hb156_147 := lcmp_ge hb156_147
                    refine TT_iload_n hK rfl 2 rfl dX12_tellBit_207 ?_
                    refine TT_iret hK hQ ?_ dX12_tellBit_208
                    have e148_73_32 : w148_145 73 32 = (w148_145 73) 32 := rfl
                    have e149_73_34 : w148_145 73 34 = (w148_145 73) 34 := rfl
                    have e150_73_36 : w148_145 73 36 = (w148_145 73) 36 := rfl
                    have e151_73_34 : w148_145 73 34 = (w148_145 73) 34 := rfl
                    have e152_73_36 : w148_145 73 36 = (w148_145 73) 36 := rfl
                    exact ⟨⟨hT148_145, hF148_145⟩, b, rfl, (by omega), (by omega), (by rewrite [e148_73_32]; omega), (by rewrite [e149_73_34]; omega), (by rewrite [e150_73_36]; omega), (by rewrite [e151_73_34, e152_73_36]; omega)⟩
                  · have hb156_147 := lcmp_lt hb156_147
                    have hd9 := ndb_2 (a := (w148_145 73) 32) (by omega) (by omega)
                    refine TT_aload_n hK rfl 0 rfl dX12_tellBit_159 ?_
                    refine TT_ldc2 hK lc_X12_193 dX12_tellBit_160 ?_
                    refine TT_aload_n hK rfl 0 rfl dX12_tellBit_163 ?_
                    refine gf_X12_171 hK (by decide) rfl (v := (w148_145 73) 32) rfl dX12_tellBit_164 ?_
                    refine TT_lmul hK dX12_tellBit_167 ?_
                    refine pf_X12_171 hK (by decide) rfl dX12_tellBit_168 ?_
                    refine TT_hp (h' := setO w148_145 73 (fup (w148_145 73) 32 (2 * ((w148_145 73) 32)))) (up_can rfl rfl rfl) ?_
                    have hT_153 : TY (setO w148_145 73 (fup (w148_145 73) 32 (2 * ((w148_145 73) 32)))) := tu_73_32 hT148_145 (show up w148_145 73 32 (2 * ((w148_145 73) 32)) = (setO w148_145 73 (fup (w148_145 73) 32 (2 * ((w148_145 73) 32)))) from up_can rfl rfl rfl) (by omega)
                    have hF_153 : FRM [73, 96, 97, 98] [32, 33, 34, 36] h (setO w148_145 73 (fup (w148_145 73) 32 (2 * ((w148_145 73) 32)))) := FRM_f (show up w148_145 73 32 (2 * ((w148_145 73) 32)) = (setO w148_145 73 (fup (w148_145 73) 32 (2 * ((w148_145 73) 32)))) from up_can rfl rfl rfl) hF148_145 (by decide) (by decide)
                    refine TT_aload_n hK rfl 0 rfl dX12_tellBit_171 ?_
                    refine TT_ldc2 hK lc_X12_193 dX12_tellBit_172 ?_
                    refine TT_aload_n hK rfl 0 rfl dX12_tellBit_175 ?_
                    refine gf_X12_175 hK (by decide) rfl (v := (w148_145 73) 33) (rd_ (sOf_eq _ _ _) (fup_ne _ _ (by decide))) dX12_tellBit_176 ?_
                    have r154 := ty_73_33 (v := (w148_145 73) 33) hT_153 (rd_ (sOf_eq _ _ _) (fup_ne _ _ (by decide)))
                    refine TT_lmul hK dX12_tellBit_179 ?_
                    refine TT_w64f (fun x180_155 hx155 => ?_)
                    refine pf_X12_175 hK (by decide) rfl dX12_tellBit_180 ?_
                    refine TT_hp (h' := setO w148_145 73 (fup (fup (w148_145 73) 32 (2 * ((w148_145 73) 32))) 33 x180_155)) (up_can (sOf_eq _ _ _) rfl (setO_same _ _ _ _)) ?_
                    have hT_156 : TY (setO w148_145 73 (fup (fup (w148_145 73) 32 (2 * ((w148_145 73) 32))) 33 x180_155)) := tu_73_33 hT_153 (show up (setO w148_145 73 (fup (w148_145 73) 32 (2 * ((w148_145 73) 32)))) 73 33 x180_155 = (setO w148_145 73 (fup (fup (w148_145 73) 32 (2 * ((w148_145 73) 32))) 33 x180_155)) from up_can (sOf_eq _ _ _) rfl (setO_same _ _ _ _)) (by omega)
                    have hF_156 : FRM [73, 96, 97, 98] [32, 33, 34, 36] h (setO w148_145 73 (fup (fup (w148_145 73) 32 (2 * ((w148_145 73) 32))) 33 x180_155)) := FRM_f (show up (setO w148_145 73 (fup (w148_145 73) 32 (2 * ((w148_145 73) 32)))) 73 33 x180_155 = (setO w148_145 73 (fup (fup (w148_145 73) 32 (2 * ((w148_145 73) 32))) 33 x180_155)) from up_can (sOf_eq _ _ _) rfl (setO_same _ _ _ _)) hF_153 (by decide) (by decide)
                    refine TT_aload_n hK rfl 0 rfl dX12_tellBit_183 ?_
                    refine TT_dup hK rfl dX12_tellBit_184 ?_
                    refine gf_X12_178 hK (by decide) rfl (v := (w148_145 73) 34) (rd_ (sOf_eq _ _ _) ((fup_ne _ _ (by decide)).trans (fup_ne _ _ (by decide)))) dX12_tellBit_185 ?_
                    have r157 := ty_73_34 (v := (w148_145 73) 34) hT_156 (rd_ (sOf_eq _ _ _) ((fup_ne _ _ (by decide)).trans (fup_ne _ _ (by decide))))
                    refine TT_iconst hK dX12_tellBit_188 ?_
                    refine TT_isub hK dX12_tellBit_189 ?_
                    refine pf_X12_178 hK (by decide) rfl dX12_tellBit_190 ?_
                    refine TT_hp (h' := setO w148_145 73 (fup (fup (fup (w148_145 73) 32 (2 * ((w148_145 73) 32))) 33 x180_155) 34 (((w148_145 73) 34) - 1))) (up_can (sOf_eq _ _ _) rfl (setO_same _ _ _ _)) ?_
                    have hT_158 : TY (setO w148_145 73 (fup (fup (fup (w148_145 73) 32 (2 * ((w148_145 73) 32))) 33 x180_155) 34 (((w148_145 73) 34) - 1))) := tu_73_34 hT_156 (show up (setO w148_145 73 (fup (fup (w148_145 73) 32 (2 * ((w148_145 73) 32))) 33 x180_155)) 73 34 (((w148_145 73) 34) - 1) = (setO w148_145 73 (fup (fup (fup (w148_145 73) 32 (2 * ((w148_145 73) 32))) 33 x180_155) 34 (((w148_145 73) 34) - 1))) from up_can (sOf_eq _ _ _) rfl (setO_same _ _ _ _)) (by omega)
                    have hF_158 : FRM [73, 96, 97, 98] [32, 33, 34, 36] h (setO w148_145 73 (fup (fup (fup (w148_145 73) 32 (2 * ((w148_145 73) 32))) 33 x180_155) 34 (((w148_145 73) 34) - 1))) := FRM_f (show up (setO w148_145 73 (fup (fup (w148_145 73) 32 (2 * ((w148_145 73) 32))) 33 x180_155)) 73 34 (((w148_145 73) 34) - 1) = (setO w148_145 73 (fup (fup (fup (w148_145 73) 32 (2 * ((w148_145 73) 32))) 33 x180_155) 34 (((w148_145 73) 34) - 1))) from up_can (sOf_eq _ _ _) rfl (setO_same _ _ _ _)) hF_156 (by decide) (by decide)
                    refine TT_aload_n hK rfl 0 rfl dX12_tellBit_193 ?_
                    refine gf_X12_178 hK (by decide) rfl (v := ((w148_145 73) 34) - 1) (rd_ (sOf_eq _ _ _) (fup_eq _ _ _)) dX12_tellBit_194 ?_
                    have r159 := ty_73_34 (v := ((w148_145 73) 34) - 1) hT_158 (rd_ (sOf_eq _ _ _) (fup_eq _ _ _))
                    refine TT_if_ne hK (tgt := 148) (irm (by omega) (by omega)) dX12_tellBit_197 (by decide) (fun hb197_160 => ?_) (fun hb197_160 => ?_)
                    · have e161_73_32 : (setO w148_145 73 (fup (fup (fup (w148_145 73) 32 (2 * ((w148_145 73) 32))) 33 x180_155) 34 (((w148_145 73) 34) - 1))) 73 32 = 2 * ((w148_145 73) 32) := rd_ (sOf_eq _ _ _) ((fup_ne _ _ (by decide)).trans ((fup_ne _ _ (by decide)).trans (fup_eq _ _ _)))
                      have e162_73_34 : (setO w148_145 73 (fup (fup (fup (w148_145 73) 32 (2 * ((w148_145 73) 32))) 33 x180_155) 34 (((w148_145 73) 34) - 1))) 73 34 = ((w148_145 73) 34) - 1 := rd_ (sOf_eq _ _ _) (fup_eq _ _ _)
                      have e163_73_36 : (setO w148_145 73 (fup (fup (fup (w148_145 73) 32 (2 * ((w148_145 73) 32))) 33 x180_155) 34 (((w148_145 73) 34) - 1))) 73 36 = (w148_145 73) 36 := rd_ (sOf_eq _ _ _) ((fup_ne _ _ (by decide)).trans ((fup_ne _ _ (by decide)).trans (fup_ne _ _ (by decide))))
                      have e164_73_32 : (setO w148_145 73 (fup (fup (fup (w148_145 73) 32 (2 * ((w148_145 73) 32))) 33 x180_155) 34 (((w148_145 73) 34) - 1))) 73 32 = 2 * ((w148_145 73) 32) := rd_ (sOf_eq _ _ _) ((fup_ne _ _ (by decide)).trans ((fup_ne _ _ (by decide)).trans (fup_eq _ _ _)))
                      have e165_73_34 : (setO w148_145 73 (fup (fup (fup (w148_145 73) 32 (2 * ((w148_145 73) 32))) 33 x180_155) 34 (((w148_145 73) 34) - 1))) 73 34 = ((w148_145 73) 34) - 1 := rd_ (sOf_eq _ _ _) (fup_eq _ _ _)
                      have e166_73_36 : (setO w148_145 73 (fup (fup (fup (w148_145 73) 32 (2 * ((w148_145 73) 32))) 33 x180_155) 34 (((w148_145 73) 34) - 1))) 73 36 = (w148_145 73) 36 := rd_ (sOf_eq _ _ _) ((fup_ne _ _ (by decide)).trans ((fup_ne _ _ (by decide)).trans (fup_ne _ _ (by decide))))
                      have e167_96 : (setO w148_145 73 (fup (fup (fup (w148_145 73) 32 (2 * ((w148_145 73) 32))) 33 x180_155) 34 (((w148_145 73) 34) - 1))) 96 = w148_145 96 := sOf_ne _ _ (by decide)
                      have e168_96 : (setO w148_145 73 (fup (fup (fup (w148_145 73) 32 (2 * ((w148_145 73) 32))) 33 x180_155) 34 (((w148_145 73) 34) - 1))) 96 = w148_145 96 := sOf_ne _ _ (by decide)
                      have e169_73_32 : (setO w148_145 73 (fup (fup (fup (w148_145 73) 32 (2 * ((w148_145 73) 32))) 33 x180_155) 34 (((w148_145 73) 34) - 1))) 73 32 = 2 * ((w148_145 73) 32) := rd_ (sOf_eq _ _ _) ((fup_ne _ _ (by decide)).trans ((fup_ne _ _ (by decide)).trans (fup_eq _ _ _)))
                      have e170_73_32 : (setO w148_145 73 (fup (fup (fup (w148_145 73) 32 (2 * ((w148_145 73) 32))) 33 x180_155) 34 (((w148_145 73) 34) - 1))) 73 32 = 2 * ((w148_145 73) 32) := rd_ (sOf_eq _ _ _) ((fup_ne _ _ (by decide)).trans ((fup_ne _ _ (by decide)).trans (fup_eq _ _ _)))
                      exact ih145 (setO w148_145 73 (fup (fup (fup (w148_145 73) 32 (2 * ((w148_145 73) 32))) 33 x180_155) 34 (((w148_145 73) 34) - 1))) hT_158 hF_158 (by rewrite [e161_73_32]; first | omega | (simp [up, setR] <;> omega)) (by rewrite [e162_73_34]; first | omega | (simp [up, setR] <;> omega)) (by rewrite [e163_73_36]; first | omega | (simp [up, setR] <;> omega)) (by rewrite [e164_73_32, e165_73_34, e166_73_36, e167_96]; first | omega | (simp [up, setR] <;> omega)) (by rewrite [e168_96]; exact (PhS_r _).1) (by rewrite [e169_73_32]; exact (ndb_r _).1) (by rewrite [e170_73_32]; first | omega | (simp [up, setR] <;> omega))
                    · refine TT_aload_n hK rfl 0 rfl dX12_tellBit_200 ?_
                      have e171_73_36 : (setO w148_145 73 (fup (fup (fup (w148_145 73) 32 (2 * ((w148_145 73) 32))) 33 x180_155) 34 (((w148_145 73) 34) - 1))) 73 36 = (w148_145 73) 36 := rd_ (sOf_eq _ _ _) ((fup_ne _ _ (by decide)).trans ((fup_ne _ _ (by decide)).trans (fup_ne _ _ (by decide))))
                      refine iv_X12_195 hK (s_X12_putOut_73 (setO w148_145 73 (fup (fup (fup (w148_145 73) 32 (2 * ((w148_145 73) 32))) 33 x180_155) 34 (((w148_145 73) 34) - 1))) hT_158 (by rewrite [e171_73_36]; first | omega | (simp [up, setR] <;> omega))) (by decide) rfl ⟨by decide, by decide⟩ (by decide) rfl rfl (Nat.le_of_ble_eq_true rfl) ⟨by decide, by decide⟩ dX12_tellBit_201 ?_
                      intro r9 g201_172 hp9
                      obtain ⟨⟨hT_172, hG_172⟩, hr9, p1_172, p2_172⟩ := hp9
                      rw [hr9]
                      have hF_172 : FRM [73, 96, 97, 98] [32, 33, 34, 36] h g201_172 := FRM_tr hF_158 hG_172 (by decide) (by decide)
                      rw [show (setO w148_145 73 (fup (fup (fup (w148_145 73) 32 (2 * ((w148_145 73) 32))) 33 x180_155) 34 (((w148_145 73) 34) - 1))) 73 36 = (w148_145 73) 36 from rd_ (sOf_eq _ _ _) ((fup_ne _ _ (by decide)).trans ((fup_ne _ _ (by decide)).trans (fup_ne _ _ (by decide))))] at p1_172
                      show TT K ly 0 0 204 [(0, vR 73), (1, vI x), (2, vI b)] [] g201_172
                      refine TT_goto hK (tgt := 148) dX12_tellBit_204 (by decide) ?_
                      have e173_73_32 : g201_172 73 32 = 2 * ((w148_145 73) 32) := ((hG_172.2 32 (by decide))).trans (rd_ (sOf_eq _ _ _) ((fup_ne _ _ (by decide)).trans ((fup_ne _ _ (by decide)).trans (fup_eq _ _ _))))
                      have e174_73_34 : g201_172 73 34 = (g201_172 73) 34 := rfl
                      have e175_73_36 : g201_172 73 36 = (g201_172 73) 36 := rfl
                      have e176_73_32 : g201_172 73 32 = 2 * ((w148_145 73) 32) := ((hG_172.2 32 (by decide))).trans (rd_ (sOf_eq _ _ _) ((fup_ne _ _ (by decide)).trans ((fup_ne _ _ (by decide)).trans (fup_eq _ _ _))))
                      have e177_73_34 : g201_172 73 34 = (g201_172 73) 34 := rfl
                      have e178_73_36 : g201_172 73 36 = (g201_172 73) 36 := rfl
                      have e179_96 : g201_172 96 = w148_145 96 := ((hG_172.1 96 (by decide))).trans (sOf_ne _ _ (by decide))
                      have e180_96 : g201_172 96 = w148_145 96 := ((hG_172.1 96 (by decide))).trans (sOf_ne _ _ (by decide))
                      have e181_73_32 : g201_172 73 32 = 2 * ((w148_145 73) 32) := ((hG_172.2 32 (by decide))).trans (rd_ (sOf_eq _ _ _) ((fup_ne _ _ (by decide)).trans ((fup_ne _ _ (by decide)).trans (fup_eq _ _ _))))
                      have e182_73_32 : g201_172 73 32 = 2 * ((w148_145 73) 32) := ((hG_172.2 32 (by decide))).trans (rd_ (sOf_eq _ _ _) ((fup_ne _ _ (by decide)).trans ((fup_ne _ _ (by decide)).trans (fup_eq _ _ _))))
                      exact ih145 g201_172 hT_172 hF_172 (by rewrite [e173_73_32]; first | omega | (simp [up, setR] <;> omega)) (by rewrite [e174_73_34]; first | omega | (simp [up, setR] <;> omega)) (by rewrite [e175_73_36]; first | omega | (simp [up, setR] <;> omega)) (by rewrite [e176_73_32, e177_73_34, e178_73_36, e179_96]; first | omega | (simp [up, setR] <;> omega)) (by rewrite [e180_96]; exact (PhS_r _).1) (by rewrite [e181_73_32]; exact (ndb_r _).1) (by rewrite [e182_73_32]; first | omega | (simp [up, setR] <;> omega))
              refine TT_sub [4, 5, 6] rfl ?_
              have e183_73_32 : g145_144 73 32 = (h 74) ((h 96) x) := rd_ (((hG_144.1 73 (by decide))).trans (sOf_eq _ _ _)) ((fup_ne _ _ (by decide)).trans (fup_eq _ _ _))
              have e184_73_34 : g145_144 73 34 = (h 73) 34 := rd_ (((hG_144.1 73 (by decide))).trans (sOf_eq _ _ _)) ((fup_ne _ _ (by decide)).trans (fup_ne _ _ (by decide)))
              have e185_73_36 : g145_144 73 36 = (h 73) 36 := rd_ (((hG_144.1 73 (by decide))).trans (sOf_eq _ _ _)) ((fup_ne _ _ (by decide)).trans (fup_ne _ _ (by decide)))
              have e186_73_32 : g145_144 73 32 = (h 74) ((h 96) x) := rd_ (((hG_144.1 73 (by decide))).trans (sOf_eq _ _ _)) ((fup_ne _ _ (by decide)).trans (fup_eq _ _ _))
              have e187_73_34 : g145_144 73 34 = (h 73) 34 := rd_ (((hG_144.1 73 (by decide))).trans (sOf_eq _ _ _)) ((fup_ne _ _ (by decide)).trans (fup_ne _ _ (by decide)))
              have e188_73_36 : g145_144 73 36 = (h 73) 36 := rd_ (((hG_144.1 73 (by decide))).trans (sOf_eq _ _ _)) ((fup_ne _ _ (by decide)).trans (fup_ne _ _ (by decide)))
              have e189_73_32 : g145_144 73 32 = (h 74) ((h 96) x) := rd_ (((hG_144.1 73 (by decide))).trans (sOf_eq _ _ _)) ((fup_ne _ _ (by decide)).trans (fup_eq _ _ _))
              have k9 := NDC (a := (h 74) ((h 96) x)) (ot := 1) tq (by omega) (by omega)
              exact L148_145 ((((65536 : Int) - (g145_144 73 32)).toNat) + 1) g145_144 hT_144 hF_144 (by rewrite [e183_73_32]; first | omega | (simp [up, setR] <;> omega)) (by rewrite [e184_73_34]; first | omega | (simp [up, setR] <;> omega)) (by rewrite [e185_73_36]; first | omega | (simp [up, setR] <;> omega)) (by rewrite [e186_73_32, e187_73_34, e188_73_36]; first | omega | (simp [up, setR] <;> omega)) (by exact (PhS_r _).1) (by rewrite [e189_73_32]; exact (ndb_r _).1) (Nat.lt_succ_self _)
      · have hb76_134 := lcmp_lt hb76_134
        refine TT_iconst hK dX12_tellBit_79 ?_
        refine TT_goto hK (tgt := 84) dX12_tellBit_80 (by decide) ?_
        refine TT_istore hK (lv' := [(5, vI 1), (4, vI 1), (3, vI ((h 74) ((h 96) x))), (0, vR 73), (1, vI x), (2, vI b)]) (by decide) rfl dX12_tellBit_84 ?_
        refine TT_iload hK 1 rfl dX12_tellBit_86 ?_
        refine TT_iload hK 0 rfl dX12_tellBit_88 ?_
        refine TT_icmp_eq hK (tgt := 97) (by decide) (by decide) dX12_tellBit_90 (by decide) (fun hb90_190 => ?_) (fun hb90_190 => ?_)
        · refine TT_iconst hK dX12_tellBit_97 ?_
          refine TT_istore hK (lv' := [(6, vI 0), (5, vI 1), (4, vI 1), (3, vI ((h 74) ((h 96) x))), (0, vR 73), (1, vI x), (2, vI b)]) (by decide) rfl dX12_tellBit_98 ?_
          refine TT_aload_n hK rfl 4 rfl dX12_tellBit_100 ?_
          refine TT_iload hK 0 rfl dX12_tellBit_101 ?_
          refine TT_if_eq hK (tgt := 113) (by decide) dX12_tellBit_103 (by decide) (fun hb103_191 => ?_) (fun hb103_191 => ?_)
          · refine TT_aload_n hK rfl 4 rfl dX12_tellBit_113 ?_
            refine gf_X12_175 hK (by decide) rfl (v := (h 73) 33) (rd_ (sOf_eq _ _ _) (fup_ne _ _ (by decide))) dX12_tellBit_114 ?_
            have r192 := ty_73_33 (v := (h 73) 33) hT_131 (rd_ (sOf_eq _ _ _) (fup_ne _ _ (by decide)))
            refine TT_iload_n hK rfl 3 rfl dX12_tellBit_117 ?_
            refine TT_i2l hK (irm (by omega) (by omega)) dX12_tellBit_118 ?_
            refine TT_ladd hK dX12_tellBit_119 ?_
            refine TT_w64f (fun x120_193 hx193 => ?_)
            refine pf_X12_175 hK (by decide) rfl dX12_tellBit_120 ?_
            refine TT_hp (h' := setO h 73 (fup (fup (h 73) 32 (((h 73) 32) - ((h 74) ((h 96) x)))) 33 x120_193)) (up_can (sOf_eq _ _ _) rfl (setO_same _ _ _ _)) ?_
            have hT_194 : TY (setO h 73 (fup (fup (h 73) 32 (((h 73) 32) - ((h 74) ((h 96) x)))) 33 x120_193)) := tu_73_33 hT_131 (show up (setO h 73 (fup (h 73) 32 (((h 73) 32) - ((h 74) ((h 96) x))))) 73 33 x120_193 = (setO h 73 (fup (fup (h 73) 32 (((h 73) 32) - ((h 74) ((h 96) x)))) 33 x120_193)) from up_can (sOf_eq _ _ _) rfl (setO_same _ _ _ _)) (by omega)
            have hF_194 : FRM [73, 96, 97, 98] [32, 33, 34, 36] h (setO h 73 (fup (fup (h 73) 32 (((h 73) 32) - ((h 74) ((h 96) x)))) 33 x120_193)) := FRM_f (show up (setO h 73 (fup (h 73) 32 (((h 73) 32) - ((h 74) ((h 96) x))))) 73 33 x120_193 = (setO h 73 (fup (fup (h 73) 32 (((h 73) 32) - ((h 74) ((h 96) x)))) 33 x120_193)) from up_can (sOf_eq _ _ _) rfl (setO_same _ _ _ _)) hF_131 (by decide) (by decide)
            refine TT_aload_n hK rfl 4 rfl dX12_tellBit_123 ?_
            refine TT_iload hK 0 rfl dX12_tellBit_124 ?_
            refine TT_if_eq hK (tgt := 134) (by decide) dX12_tellBit_126 (by decide) (fun hb126_195 => ?_) (fun hb126_195 => ?_)
            · refine TT_aload_n hK rfl 4 rfl dX12_tellBit_134 ?_
              refine gf_X12_171 hK (by decide) rfl (v := ((h 73) 32) - ((h 74) ((h 96) x))) (rd_ (sOf_eq _ _ _) ((fup_ne _ _ (by decide)).trans (fup_eq _ _ _))) dX12_tellBit_135 ?_
              refine pf_X12_171 hK (by decide) rfl dX12_tellBit_138 ?_
              refine TT_hp (h' := setO h 73 (fup (fup (h 73) 32 (((h 73) 32) - ((h 74) ((h 96) x)))) 33 x120_193)) (up_can (sOf_eq _ _ _) ((fup_comm _ _ _ (by decide)).trans (fup_cg (fup_same _ _ _ _))) (setO_same _ _ _ _)) ?_
              have hT_196 : TY (setO h 73 (fup (fup (h 73) 32 (((h 73) 32) - ((h 74) ((h 96) x)))) 33 x120_193)) := tu_73_32 hT_194 (show up (setO h 73 (fup (fup (h 73) 32 (((h 73) 32) - ((h 74) ((h 96) x)))) 33 x120_193)) 73 32 (((h 73) 32) - ((h 74) ((h 96) x))) = (setO h 73 (fup (fup (h 73) 32 (((h 73) 32) - ((h 74) ((h 96) x)))) 33 x120_193)) from up_can (sOf_eq _ _ _) ((fup_comm _ _ _ (by decide)).trans (fup_cg (fup_same _ _ _ _))) (setO_same _ _ _ _)) (by omega)
              have hF_196 : FRM [73, 96, 97, 98] [32, 33, 34, 36] h (setO h 73 (fup (fup (h 73) 32 (((h 73) 32) - ((h 74) ((h 96) x)))) 33 x120_193)) := FRM_f (show up (setO h 73 (fup (fup (h 73) 32 (((h 73) 32) - ((h 74) ((h 96) x)))) 33 x120_193)) 73 32 (((h 73) 32) - ((h 74) ((h 96) x))) = (setO h 73 (fup (fup (h 73) 32 (((h 73) 32) - ((h 74) ((h 96) x)))) 33 x120_193)) from up_can (sOf_eq _ _ _) ((fup_comm _ _ _ (by decide)).trans (fup_cg (fup_same _ _ _ _))) (setO_same _ _ _ _)) hF_194 (by decide) (by decide)
              refine TT_aload_n hK rfl 4 rfl dX12_tellBit_141 ?_
              refine TT_iload_n hK rfl 5 rfl dX12_tellBit_142 ?_
              refine TT_iload hK 2 rfl dX12_tellBit_143 ?_
              have e197_74 : (setO h 73 (fup (fup (h 73) 32 (((h 73) 32) - ((h 74) ((h 96) x)))) 33 x120_193)) 74 = h 74 := sOf_ne _ _ (by decide)
              have e198_75 : (setO h 73 (fup (fup (h 73) 32 (((h 73) 32) - ((h 74) ((h 96) x)))) 33 x120_193)) 75 = h 75 := sOf_ne _ _ (by decide)
              refine iv_X12_189 hK (s_X12_learn_73 x 1 (setO h 73 (fup (fup (h 73) 32 (((h 73) 32) - ((h 74) ((h 96) x)))) 33 x120_193)) hT_196 (by first | omega | (simp [up, setR] <;> omega)) (by first | omega | (simp [up, setR] <;> omega)) (by rewrite [e197_74, e198_75]; first | assumption | exact htb)) (by decide) rfl ⟨by decide, by decide⟩ (by decide) rfl rfl (Nat.le_of_ble_eq_true rfl) ⟨by decide, by decide⟩ dX12_tellBit_145 ?_
              intro r9 g145_199 hp9
              obtain ⟨⟨hT_199, hG_199⟩, hr9, p1_199⟩ := hp9
              rw [hr9]
              have hF_199 : FRM [73, 96, 97, 98] [32, 33, 34, 36] h g145_199 := FRM_tr hF_196 hG_199 (by decide) (by decide)
              rw [show (setO h 73 (fup (fup (h 73) 32 (((h 73) 32) - ((h 74) ((h 96) x)))) 33 x120_193)) 75 = h 75 from sOf_ne _ _ (by decide)] at p1_199
              rw [show (setO h 73 (fup (fup (h 73) 32 (((h 73) 32) - ((h 74) ((h 96) x)))) 33 x120_193)) 96 = h 96 from sOf_ne _ _ (by decide)] at p1_199
              show TT K ly 0 0 148 [(6, vI 0), (5, vI 1), (4, vI 1), (3, vI ((h 74) ((h 96) x))), (0, vR 73), (1, vI x), (2, vI b)] [] g145_199
              have L148_200 : ∀ (k200 : Nat) (w148_200 : Hp_), TY w148_200 → FRM [73, 96, 97, 98] [32, 33, 34, 36] h w148_200 → (1 ≤ (w148_200 73 32) ∧ (w148_200 73 32) < 65536) → (1 ≤ (w148_200 73 34)) → (1 ≤ (w148_200 73 36)) → (7 * (w148_200 73 36) - (w148_200 73 34) + ndb (w148_200 73 32) + PhS (w148_200 96) ≤ 7 * (h 73 36) - (h 73 34) + PhS (h 96) + 9) → (0 ≤ PhS (w148_200 96)) → (0 ≤ ndb (w148_200 73 32)) → ((65536 : Int) - (w148_200 73 32)).toNat < k200 → TT K ly 0 0 148 [(0, vR 73), (1, vI x), (2, vI b)] [] w148_200 := by
                intro k200
                induction k200 with
                | zero => intro w148_200 hT148_200 hF148_200 ha1 ht1 hn1 hp1 hz1 hz2 hk200; exact absurd hk200 (Nat.not_lt_zero _)
                | succ k200 ih200 =>
                  intro w148_200 hT148_200 hF148_200 ha1 ht1 hn1 hp1 hz1 hz2 hk200
                  refine TT_aload_n hK rfl 0 rfl dX12_tellBit_148 ?_
                  refine gf_X12_171 hK (by decide) rfl (v := (w148_200 73) 32) rfl dX12_tellBit_149 ?_
                  have r201 := ty_73_32 (v := (w148_200 73) 32) hT148_200 rfl
                  refine TT_ldc2 hK lc_X12_169 dX12_tellBit_152 ?_
                  refine TT_lcmp hK (lrm (by omega) (by omega)) (by decide) dX12_tellBit_155 ?_
                  refine TT_if_ge hK (tgt := 207) (lcmp_ir _ _) dX12_tellBit_156 (by decide) (fun hb156_202 => ?_) (fun hb156_202 => ?_)
                  · have hb156_202 := lcmp_ge hb156_202
                    refine TT_iload_n hK rfl 2 rfl dX12_tellBit_207 ?_
                    refine TT_iret hK hQ ?_ dX12_tellBit_208
                    have e203_73_32 : w148_200 73 32 = (w148_200 73) 32 := rfl
                    have e204_73_34 : w148_200 73 34 = (w148_200 73) 34 := rfl
                    have e205_73_36 : w148_200 73 36 = (w148_200 73) 36 := rfl
                    have e206_73_34 : w148_200 73 34 = (w148_200 73) 34 := rfl
                    have e207_73_36 : w148_200 73 36 = (w148_200 73) 36 := rfl
                    exact ⟨⟨hT148_200, hF148_200⟩, b, rfl, (by omega), (by omega), (by rewrite [e203_73_32]; omega), (by rewrite [e204_73_34]; omega), (by rewrite [e205_73_36]; omega), (by rewrite [e206_73_34, e207_73_36]; omega)⟩
                  · have hb156_202 := lcmp_lt hb156_202
                    have hd9 := ndb_2 (a := (w148_200 73) 32) (by omega) (by omega)
                    refine TT_aload_n hK rfl 0 rfl dX12_tellBit_159 ?_
                    refine TT_ldc2 hK lc_X12_193 dX12_tellBit_160 ?_
                    refine TT_aload_n hK rfl 0 rfl dX12_tellBit_163 ?_
                    refine gf_X12_171 hK (by decide) rfl (v := (w148_200 73) 32) rfl dX12_tellBit_164 ?_
                    refine TT_lmul hK dX12_tellBit_167 ?_
                    refine pf_X12_171 hK (by decide) rfl dX12_tellBit_168 ?_
                    refine TT_hp (h' := setO w148_200 73 (fup (w148_200 73) 32 (2 * ((w148_200 73) 32)))) (up_can rfl rfl rfl) ?_
                    have hT_208 : TY (setO w148_200 73 (fup (w148_200 73) 32 (2 * ((w148_200 73) 32)))) := tu_73_32 hT148_200 (show up w148_200 73 32 (2 * ((w148_200 73) 32)) = (setO w148_200 73 (fup (w148_200 73) 32 (2 * ((w148_200 73) 32)))) from up_can rfl rfl rfl) (by omega)
                    have hF_208 : FRM [73, 96, 97, 98] [32, 33, 34, 36] h (setO w148_200 73 (fup (w148_200 73) 32 (2 * ((w148_200 73) 32)))) := FRM_f (show up w148_200 73 32 (2 * ((w148_200 73) 32)) = (setO w148_200 73 (fup (w148_200 73) 32 (2 * ((w148_200 73) 32)))) from up_can rfl rfl rfl) hF148_200 (by decide) (by decide)
                    refine TT_aload_n hK rfl 0 rfl dX12_tellBit_171 ?_
                    refine TT_ldc2 hK lc_X12_193 dX12_tellBit_172 ?_
                    refine TT_aload_n hK rfl 0 rfl dX12_tellBit_175 ?_
                    refine gf_X12_175 hK (by decide) rfl (v := (w148_200 73) 33) (rd_ (sOf_eq _ _ _) (fup_ne _ _ (by decide))) dX12_tellBit_176 ?_
                    have r209 := ty_73_33 (v := (w148_200 73) 33) hT_208 (rd_ (sOf_eq _ _ _) (fup_ne _ _ (by decide)))
                    refine TT_lmul hK dX12_tellBit_179 ?_
                    refine TT_w64f (fun x180_210 hx210 => ?_)
                    refine pf_X12_175 hK (by decide) rfl dX12_tellBit_180 ?_
                    refine TT_hp (h' := setO w148_200 73 (fup (fup (w148_200 73) 32 (2 * ((w148_200 73) 32))) 33 x180_210)) (up_can (sOf_eq _ _ _) rfl (setO_same _ _ _ _)) ?_
                    have hT_211 : TY (setO w148_200 73 (fup (fup (w148_200 73) 32 (2 * ((w148_200 73) 32))) 33 x180_210)) := tu_73_33 hT_208 (show up (setO w148_200 73 (fup (w148_200 73) 32 (2 * ((w148_200 73) 32)))) 73 33 x180_210 = (setO w148_200 73 (fup (fup (w148_200 73) 32 (2 * ((w148_200 73) 32))) 33 x180_210)) from up_can (sOf_eq _ _ _) rfl (setO_same _ _ _ _)) (by omega)
                    have hF_211 : FRM [73, 96, 97, 98] [32, 33, 34, 36] h (setO w148_200 73 (fup (fup (w148_200 73) 32 (2 * ((w148_200 73) 32))) 33 x180_210)) := FRM_f (show up (setO w148_200 73 (fup (w148_200 73) 32 (2 * ((w148_200 73) 32)))) 73 33 x180_210 = (setO w148_200 73 (fup (fup (w148_200 73) 32 (2 * ((w148_200 73) 32))) 33 x180_210)) from up_can (sOf_eq _ _ _) rfl (setO_same _ _ _ _)) hF_208 (by decide) (by decide)
                    refine TT_aload_n hK rfl 0 rfl dX12_tellBit_183 ?_
                    refine TT_dup hK rfl dX12_tellBit_184 ?_
                    refine gf_X12_178 hK (by decide) rfl (v := (w148_200 73) 34) (rd_ (sOf_eq _ _ _) ((fup_ne _ _ (by decide)).trans (fup_ne _ _ (by decide)))) dX12_tellBit_185 ?_
                    have r212 := ty_73_34 (v := (w148_200 73) 34) hT_211 (rd_ (sOf_eq _ _ _) ((fup_ne _ _ (by decide)).trans (fup_ne _ _ (by decide))))
                    refine TT_iconst hK dX12_tellBit_188 ?_
                    refine TT_isub hK dX12_tellBit_189 ?_
                    refine pf_X12_178 hK (by decide) rfl dX12_tellBit_190 ?_
                    refine TT_hp (h' := setO w148_200 73 (fup (fup (fup (w148_200 73) 32 (2 * ((w148_200 73) 32))) 33 x180_210) 34 (((w148_200 73) 34) - 1))) (up_can (sOf_eq _ _ _) rfl (setO_same _ _ _ _)) ?_
                    have hT_213 : TY (setO w148_200 73 (fup (fup (fup (w148_200 73) 32 (2 * ((w148_200 73) 32))) 33 x180_210) 34 (((w148_200 73) 34) - 1))) := tu_73_34 hT_211 (show up (setO w148_200 73 (fup (fup (w148_200 73) 32 (2 * ((w148_200 73) 32))) 33 x180_210)) 73 34 (((w148_200 73) 34) - 1) = (setO w148_200 73 (fup (fup (fup (w148_200 73) 32 (2 * ((w148_200 73) 32))) 33 x180_210) 34 (((w148_200 73) 34) - 1))) from up_can (sOf_eq _ _ _) rfl (setO_same _ _ _ _)) (by omega)
                    have hF_213 : FRM [73, 96, 97, 98] [32, 33, 34, 36] h (setO w148_200 73 (fup (fup (fup (w148_200 73) 32 (2 * ((w148_200 73) 32))) 33 x180_210) 34 (((w148_200 73) 34) - 1))) := FRM_f (show up (setO w148_200 73 (fup (fup (w148_200 73) 32 (2 * ((w148_200 73) 32))) 33 x180_210)) 73 34 (((w148_200 73) 34) - 1) = (setO w148_200 73 (fup (fup (fup (w148_200 73) 32 (2 * ((w148_200 73) 32))) 33 x180_210) 34 (((w148_200 73) 34) - 1))) from up_can (sOf_eq _ _ _) rfl (setO_same _ _ _ _)) hF_211 (by decide) (by decide)
                    refine TT_aload_n hK rfl 0 rfl dX12_tellBit_193 ?_
                    refine gf_X12_178 hK (by decide) rfl (v := ((w148_200 73) 34) - 1) (rd_ (sOf_eq _ _ _) (fup_eq _ _ _)) dX12_tellBit_194 ?_
                    have r214 := ty_73_34 (v := ((w148_200 73) 34) - 1) hT_213 (rd_ (sOf_eq _ _ _) (fup_eq _ _ _))
                    refine TT_if_ne hK (tgt := 148) (irm (by omega) (by omega)) dX12_tellBit_197 (by decide) (fun hb197_215 => ?_) (fun hb197_215 => ?_)
                    · have e216_73_32 : (setO w148_200 73 (fup (fup (fup (w148_200 73) 32 (2 * ((w148_200 73) 32))) 33 x180_210) 34 (((w148_200 73) 34) - 1))) 73 32 = 2 * ((w148_200 73) 32) := rd_ (sOf_eq _ _ _) ((fup_ne _ _ (by decide)).trans ((fup_ne _ _ (by decide)).trans (fup_eq _ _ _)))
                      have e217_73_34 : (setO w148_200 73 (fup (fup (fup (w148_200 73) 32 (2 * ((w148_200 73) 32))) 33 x180_210) 34 (((w148_200 73) 34) - 1))) 73 34 = ((w148_200 73) 34) - 1 := rd_ (sOf_eq _ _ _) (fup_eq _ _ _)
                      have e218_73_36 : (setO w148_200 73 (fup (fup (fup (w148_200 73) 32 (2 * ((w148_200 73) 32))) 33 x180_210) 34 (((w148_200 73) 34) - 1))) 73 36 = (w148_200 73) 36 := rd_ (sOf_eq _ _ _) ((fup_ne _ _ (by decide)).trans ((fup_ne _ _ (by decide)).trans (fup_ne _ _ (by decide))))
                      have e219_73_32 : (setO w148_200 73 (fup (fup (fup (w148_200 73) 32 (2 * ((w148_200 73) 32))) 33 x180_210) 34 (((w148_200 73) 34) - 1))) 73 32 = 2 * ((w148_200 73) 32) := rd_ (sOf_eq _ _ _) ((fup_ne _ _ (by decide)).trans ((fup_ne _ _ (by decide)).trans (fup_eq _ _ _)))
                      have e220_73_34 : (setO w148_200 73 (fup (fup (fup (w148_200 73) 32 (2 * ((w148_200 73) 32))) 33 x180_210) 34 (((w148_200 73) 34) - 1))) 73 34 = ((w148_200 73) 34) - 1 := rd_ (sOf_eq _ _ _) (fup_eq _ _ _)
                      have e221_73_36 : (setO w148_200 73 (fup (fup (fup (w148_200 73) 32 (2 * ((w148_200 73) 32))) 33 x180_210) 34 (((w148_200 73) 34) - 1))) 73 36 = (w148_200 73) 36 := rd_ (sOf_eq _ _ _) ((fup_ne _ _ (by decide)).trans ((fup_ne _ _ (by decide)).trans (fup_ne _ _ (by decide))))
                      have e222_96 : (setO w148_200 73 (fup (fup (fup (w148_200 73) 32 (2 * ((w148_200 73) 32))) 33 x180_210) 34 (((w148_200 73) 34) - 1))) 96 = w148_200 96 := sOf_ne _ _ (by decide)
                      have e223_96 : (setO w148_200 73 (fup (fup (fup (w148_200 73) 32 (2 * ((w148_200 73) 32))) 33 x180_210) 34 (((w148_200 73) 34) - 1))) 96 = w148_200 96 := sOf_ne _ _ (by decide)
                      have e224_73_32 : (setO w148_200 73 (fup (fup (fup (w148_200 73) 32 (2 * ((w148_200 73) 32))) 33 x180_210) 34 (((w148_200 73) 34) - 1))) 73 32 = 2 * ((w148_200 73) 32) := rd_ (sOf_eq _ _ _) ((fup_ne _ _ (by decide)).trans ((fup_ne _ _ (by decide)).trans (fup_eq _ _ _)))
                      have e225_73_32 : (setO w148_200 73 (fup (fup (fup (w148_200 73) 32 (2 * ((w148_200 73) 32))) 33 x180_210) 34 (((w148_200 73) 34) - 1))) 73 32 = 2 * ((w148_200 73) 32) := rd_ (sOf_eq _ _ _) ((fup_ne _ _ (by decide)).trans ((fup_ne _ _ (by decide)).trans (fup_eq _ _ _)))
                      exact ih200 (setO w148_200 73 (fup (fup (fup (w148_200 73) 32 (2 * ((w148_200 73) 32))) 33 x180_210) 34 (((w148_200 73) 34) - 1))) hT_213 hF_213 (by rewrite [e216_73_32]; first | omega | (simp [up, setR] <;> omega)) (by rewrite [e217_73_34]; first | omega | (simp [up, setR] <;> omega)) (by rewrite [e218_73_36]; first | omega | (simp [up, setR] <;> omega)) (by rewrite [e219_73_32, e220_73_34, e221_73_36, e222_96]; first | omega | (simp [up, setR] <;> omega)) (by rewrite [e223_96]; exact (PhS_r _).1) (by rewrite [e224_73_32]; exact (ndb_r _).1) (by rewrite [e225_73_32]; first | omega | (simp [up, setR] <;> omega))
                    · refine TT_aload_n hK rfl 0 rfl dX12_tellBit_200 ?_
                      have e226_73_36 : (setO w148_200 73 (fup (fup (fup (w148_200 73) 32 (2 * ((w148_200 73) 32))) 33 x180_210) 34 (((w148_200 73) 34) - 1))) 73 36 = (w148_200 73) 36 := rd_ (sOf_eq _ _ _) ((fup_ne _ _ (by decide)).trans ((fup_ne _ _ (by decide)).trans (fup_ne _ _ (by decide))))
                      refine iv_X12_195 hK (s_X12_putOut_73 (setO w148_200 73 (fup (fup (fup (w148_200 73) 32 (2 * ((w148_200 73) 32))) 33 x180_210) 34 (((w148_200 73) 34) - 1))) hT_213 (by rewrite [e226_73_36]; first | omega | (simp [up, setR] <;> omega))) (by decide) rfl ⟨by decide, by decide⟩ (by decide) rfl rfl (Nat.le_of_ble_eq_true rfl) ⟨by decide, by decide⟩ dX12_tellBit_201 ?_
                      intro r9 g201_227 hp9
                      obtain ⟨⟨hT_227, hG_227⟩, hr9, p1_227, p2_227⟩ := hp9
                      rw [hr9]
                      have hF_227 : FRM [73, 96, 97, 98] [32, 33, 34, 36] h g201_227 := FRM_tr hF_213 hG_227 (by decide) (by decide)
                      rw [show (setO w148_200 73 (fup (fup (fup (w148_200 73) 32 (2 * ((w148_200 73) 32))) 33 x180_210) 34 (((w148_200 73) 34) - 1))) 73 36 = (w148_200 73) 36 from rd_ (sOf_eq _ _ _) ((fup_ne _ _ (by decide)).trans ((fup_ne _ _ (by decide)).trans (fup_ne _ _ (by decide))))] at p1_227
                      show TT K ly 0 0 204 [(0, vR 73), (1, vI x), (2, vI b)] [] g201_227
                      refine TT_goto hK (tgt := 148) dX12_tellBit_204 (by decide) ?_
                      have e228_73_32 : g201_227 73 32 = 2 * ((w148_200 73) 32) := ((hG_227.2 32 (by decide))).trans (rd_ (sOf_eq _ _ _) ((fup_ne _ _ (by decide)).trans ((fup_ne _ _ (by decide)).trans (fup_eq _ _ _))))
                      have e229_73_34 : g201_227 73 34 = (g201_227 73) 34 := rfl
                      have e230_73_36 : g201_227 73 36 = (g201_227 73) 36 := rfl
                      have e231_73_32 : g201_227 73 32 = 2 * ((w148_200 73) 32) := ((hG_227.2 32 (by decide))).trans (rd_ (sOf_eq _ _ _) ((fup_ne _ _ (by decide)).trans ((fup_ne _ _ (by decide)).trans (fup_eq _ _ _))))
                      have e232_73_34 : g201_227 73 34 = (g201_227 73) 34 := rfl
                      have e233_73_36 : g201_227 73 36 = (g201_227 73) 36 := rfl
                      have e234_96 : g201_227 96 = w148_200 96 := ((hG_227.1 96 (by decide))).trans (sOf_ne _ _ (by decide))
                      have e235_96 : g201_227 96 = w148_200 96 := ((hG_227.1 96 (by decide))).trans (sOf_ne _ _ (by decide))
                      have e236_73_32 : g201_227 73 32 = 2 * ((w148_200 73) 32) := ((hG_227.2 32 (by decide))).trans (rd_ (sOf_eq _ _ _) ((fup_ne _ _ (by decide)).trans ((fup_ne _ _ (by decide)).trans (fup_eq _ _ _))))
                      have e237_73_32 : g201_227 73 32 = 2 * ((w148_200 73) 32) := ((hG_227.2 32 (by decide))).trans (rd_ (sOf_eq _ _ _) ((fup_ne _ _ (by decide)).trans ((fup_ne _ _ (by decide)).trans (fup_eq _ _ _))))
                      exact ih200 g201_227 hT_227 hF_227 (by rewrite [e228_73_32]; first | omega | (simp [up, setR] <;> omega)) (by rewrite [e229_73_34]; first | omega | (simp [up, setR] <;> omega)) (by rewrite [e230_73_36]; first | omega | (simp [up, setR] <;> omega)) (by rewrite [e231_73_32, e232_73_34, e233_73_36, e234_96]; first | omega | (simp [up, setR] <;> omega)) (by rewrite [e235_96]; exact (PhS_r _).1) (by rewrite [e236_73_32]; exact (ndb_r _).1) (by rewrite [e237_73_32]; first | omega | (simp [up, setR] <;> omega))
              refine TT_sub [4, 5, 6] rfl ?_
              have e238_73_32 : g145_199 73 32 = ((h 73) 32) - ((h 74) ((h 96) x)) := rd_ (((hG_199.1 73 (by decide))).trans (sOf_eq _ _ _)) ((fup_ne _ _ (by decide)).trans (fup_eq _ _ _))
              have e239_73_34 : g145_199 73 34 = (h 73) 34 := rd_ (((hG_199.1 73 (by decide))).trans (sOf_eq _ _ _)) ((fup_ne _ _ (by decide)).trans (fup_ne _ _ (by decide)))
              have e240_73_36 : g145_199 73 36 = (h 73) 36 := rd_ (((hG_199.1 73 (by decide))).trans (sOf_eq _ _ _)) ((fup_ne _ _ (by decide)).trans (fup_ne _ _ (by decide)))
              have e241_73_32 : g145_199 73 32 = ((h 73) 32) - ((h 74) ((h 96) x)) := rd_ (((hG_199.1 73 (by decide))).trans (sOf_eq _ _ _)) ((fup_ne _ _ (by decide)).trans (fup_eq _ _ _))
              have e242_73_34 : g145_199 73 34 = (h 73) 34 := rd_ (((hG_199.1 73 (by decide))).trans (sOf_eq _ _ _)) ((fup_ne _ _ (by decide)).trans (fup_ne _ _ (by decide)))
              have e243_73_36 : g145_199 73 36 = (h 73) 36 := rd_ (((hG_199.1 73 (by decide))).trans (sOf_eq _ _ _)) ((fup_ne _ _ (by decide)).trans (fup_ne _ _ (by decide)))
              have e244_73_32 : g145_199 73 32 = ((h 73) 32) - ((h 74) ((h 96) x)) := rd_ (((hG_199.1 73 (by decide))).trans (sOf_eq _ _ _)) ((fup_ne _ _ (by decide)).trans (fup_eq _ _ _))
              have k9 := NDC (a := ((h 73) 32) - ((h 74) ((h 96) x))) (ot := 1) tq (by omega) (by omega)
              exact L148_200 ((((65536 : Int) - (g145_199 73 32)).toNat) + 1) g145_199 hT_199 hF_199 (by rewrite [e238_73_32]; first | omega | (simp [up, setR] <;> omega)) (by rewrite [e239_73_34]; first | omega | (simp [up, setR] <;> omega)) (by rewrite [e240_73_36]; first | omega | (simp [up, setR] <;> omega)) (by rewrite [e241_73_32, e242_73_34, e243_73_36]; first | omega | (simp [up, setR] <;> omega)) (by exact (PhS_r _).1) (by rewrite [e244_73_32]; exact (ndb_r _).1) (Nat.lt_succ_self _)
            · exact absurd hb126_195 (by decide)
          · exact absurd hb103_191 (by decide)
        · exact absurd hb90_190 (by decide)
    · exact absurd hb42_132 (by decide)
set_option maxRecDepth 20000 in
theorem s_X12_endTelling_73 (h : Hp_) (hT : TY h) (hn : 1 ≤ (h 73 36) ∧ (h 73 36) ≤ 3190) : Ctr yX12_endTelling cX12_endTelling 5 none (rmd 1) ly ly 0 0 [vR 73] h (fun r h' => (TY h' ∧ FRM [73, 98] [33, 34, 36] h h') ∧ r = none ∧ (2 ≤ (h' 73 36) ∧ (h' 73 36) ≤ (h 73 36) + 2)) := by
  refine Ctr_of (by decide) (Nat.le_of_ble_eq_true rfl) ⟨Nat.le_refl _, Nat.le_refl _⟩ (fun K hK hQ _ => ?_)
  show TT K ly 0 0 0 [(0, vR 73)] [] h
  have hF : FRM [73, 98] [33, 34, 36] h h := FRM_rf _ _ _
  refine TT_aload_n hK rfl 0 rfl dX12_endTelling_0 ?_
  refine gf_X12_175 hK (by decide) rfl (v := (h 73) 33) rfl dX12_endTelling_1 ?_
  have r1 := ty_73_33 (v := (h 73) 33) hT rfl
  refine TT_aload_n hK rfl 0 rfl dX12_endTelling_4 ?_
  refine gf_X12_171 hK (by decide) rfl (v := (h 73) 32) rfl dX12_endTelling_5 ?_
  have r2 := ty_73_32 (v := (h 73) 32) hT rfl
  refine TT_ladd hK dX12_endTelling_8 ?_
  refine TT_w64f (fun x9_3 hx3 => ?_)
  refine TT_lstore_n hK rfl (lv' := [(1, vJ x9_3), (0, vR 73)]) (by decide) rfl dX12_endTelling_9 ?_
  refine TT_aload_n hK rfl 1 rfl dX12_endTelling_10 ?_
  refine TT_aload_n hK rfl 1 rfl dX12_endTelling_11 ?_
  refine gf_X12_175 hK (by decide) rfl (v := (h 73) 33) rfl dX12_endTelling_12 ?_
  refine TT_ldc2 hK lc_X12_198 dX12_endTelling_15 ?_
  refine TT_ldiv hK (lrm (by omega) (by omega)) (by decide) (by omega) dX12_endTelling_18 ?_
  refine TT_w64f (fun x19_4 hx4 => ?_)
  refine TT_ldc2 hK lc_X12_198 dX12_endTelling_19 ?_
  refine TT_lmul hK dX12_endTelling_22 ?_
  refine TT_w64f (fun x23_5 hx5 => ?_)
  refine TT_ldc2 hK lc_X12_200 dX12_endTelling_23 ?_
  refine TT_ladd hK dX12_endTelling_26 ?_
  refine TT_w64f (fun x27_6 hx6 => ?_)
  refine pf_X12_175 hK (by decide) rfl dX12_endTelling_27 ?_
  refine TT_hp (h' := setO h 73 (fup (h 73) 33 x27_6)) (up_can rfl rfl rfl) ?_
  have hT_7 : TY (setO h 73 (fup (h 73) 33 x27_6)) := tu_73_33 hT (show up h 73 33 x27_6 = (setO h 73 (fup (h 73) 33 x27_6)) from up_can rfl rfl rfl) (by omega)
  have hF_7 : FRM [73, 98] [33, 34, 36] h (setO h 73 (fup (h 73) 33 x27_6)) := FRM_f (show up h 73 33 x27_6 = (setO h 73 (fup (h 73) 33 x27_6)) from up_can rfl rfl rfl) hF (by decide) (by decide)
  refine TT_aload_n hK rfl 1 rfl dX12_endTelling_30 ?_
  refine TT_aload_n hK rfl 1 rfl dX12_endTelling_31 ?_
  refine gf_X12_175 hK (by decide) rfl (v := x27_6) (rd_ (sOf_eq _ _ _) (fup_eq _ _ _)) dX12_endTelling_32 ?_
  have r8 := ty_73_33 (v := x27_6) hT_7 (rd_ (sOf_eq _ _ _) (fup_eq _ _ _))
  refine TT_lload_n hK rfl 0 rfl dX12_endTelling_35 ?_
  refine TT_lcmp hK (lrm (by omega) (by omega)) (lrm (by omega) (by omega)) dX12_endTelling_36 ?_
  refine TT_if_lt hK (tgt := 51) (lcmp_ir _ _) dX12_endTelling_37 (by decide) (fun hb37_9 => ?_) (fun hb37_9 => ?_)
  · have hb37_9 := lcmp_lt hb37_9
    refine TT_aload_n hK rfl 1 rfl dX12_endTelling_51 ?_
    refine gf_X12_175 hK (by decide) rfl (v := x27_6) (rd_ (sOf_eq _ _ _) (fup_eq _ _ _)) dX12_endTelling_52 ?_
    refine TT_w64f (fun x55_10 hx10 => ?_)
    refine pf_X12_175 hK (by decide) rfl dX12_endTelling_55 ?_
    refine TT_hp (h' := setO h 73 (fup (h 73) 33 x55_10)) (up_can (sOf_eq _ _ _) (fup_same _ _ _ _) (setO_same _ _ _ _)) ?_
    have hT_11 : TY (setO h 73 (fup (h 73) 33 x55_10)) := tu_73_33 hT_7 (show up (setO h 73 (fup (h 73) 33 x27_6)) 73 33 x55_10 = (setO h 73 (fup (h 73) 33 x55_10)) from up_can (sOf_eq _ _ _) (fup_same _ _ _ _) (setO_same _ _ _ _)) (by omega)
    have hF_11 : FRM [73, 98] [33, 34, 36] h (setO h 73 (fup (h 73) 33 x55_10)) := FRM_f (show up (setO h 73 (fup (h 73) 33 x27_6)) 73 33 x55_10 = (setO h 73 (fup (h 73) 33 x55_10)) from up_can (sOf_eq _ _ _) (fup_same _ _ _ _) (setO_same _ _ _ _)) hF_7 (by decide) (by decide)
    refine TT_iconst hK dX12_endTelling_58 ?_
    refine TT_istore_n hK rfl (lv' := [(3, vI 0), (1, vJ x9_3), (0, vR 73)]) (by decide) rfl dX12_endTelling_59 ?_
    have L60_12 : ∀ (k12 : Nat) (k : Int) (w60_12 : Hp_), TY w60_12 → FRM [73, 98] [33, 34, 36] h w60_12 → (0 ≤ k ∧ k ≤ 2) → ((w60_12 73 36) = h 73 36 + k) → ((2 : Int) - k).toNat < k12 → TT K ly 0 0 60 [(0, vR 73), (3, vI k)] [] w60_12 := by
      intro k12
      induction k12 with
      | zero => intro k w60_12 hT60_12 hF60_12 hk hn1 hk12; exact absurd hk12 (Nat.not_lt_zero _)
      | succ k12 ih12 =>
        intro k w60_12 hT60_12 hF60_12 hk hn1 hk12
        refine TT_iload_n hK rfl 1 rfl dX12_endTelling_60 ?_
        refine TT_iconst hK dX12_endTelling_61 ?_
        refine TT_icmp_ge hK (tgt := 104) (irm (by omega) (by omega)) (by decide) dX12_endTelling_62 (by decide) (fun hb62_13 => ?_) (fun hb62_13 => ?_)
        · refine TT_aload_n hK rfl 0 rfl dX12_endTelling_104 ?_
          refine TT_aload_n hK rfl 0 rfl dX12_endTelling_105 ?_
          refine gf_X12_90 hK (by decide) rfl (q := 98) rfl rfl dX12_endTelling_106 ?_
          refine TT_aload_n hK rfl 0 rfl dX12_endTelling_109 ?_
          refine gf_X12_166 hK (by decide) rfl (v := (w60_12 73) 36) rfl dX12_endTelling_110 ?_
          have r14 := ty_73_36 (v := (w60_12 73) 36) hT60_12 rfl
          refine TT_iconst hK dX12_endTelling_113 ?_
          refine TT_isub hK dX12_endTelling_114 ?_
          refine TT_iald hK (o := 98) (n := 3200) (by decide) rfl (by first | omega | (simp [up, setR] <;> omega)) (by first | omega | (simp [up, setR] <;> omega)) (v := (w60_12 98) (((w60_12 73) 36) - 1)) rfl dX12_endTelling_115 ?_
          have r15 := ty_98 (i := ((w60_12 73) 36) - 1) (v := (w60_12 98) (((w60_12 73) 36) - 1)) hT60_12 rfl (by omega) (by omega)
          refine TT_sipush hK (by decide) dX12_endTelling_116 ?_
          refine TT_icmp_ne hK (tgt := 131) (irm (by omega) (by omega)) (by decide) dX12_endTelling_119 (by decide) (fun hb119_16 => ?_) (fun hb119_16 => ?_)
          · refine TT_aload_n hK rfl 0 rfl dX12_endTelling_131 ?_
            refine gf_X12_166 hK (by decide) rfl (v := (w60_12 73) 36) rfl dX12_endTelling_132 ?_
            refine pf_X12_166 hK (by decide) rfl dX12_endTelling_135 ?_
            refine TT_hp (h' := setO w60_12 73 (fup (w60_12 73) 36 ((w60_12 73) 36))) (up_can rfl rfl rfl) ?_
            have hT_17 : TY (setO w60_12 73 (fup (w60_12 73) 36 ((w60_12 73) 36))) := tu_73_36 hT60_12 (show up w60_12 73 36 ((w60_12 73) 36) = (setO w60_12 73 (fup (w60_12 73) 36 ((w60_12 73) 36))) from up_can rfl rfl rfl) (by omega)
            have hF_17 : FRM [73, 98] [33, 34, 36] h (setO w60_12 73 (fup (w60_12 73) 36 ((w60_12 73) 36))) := FRM_f (show up w60_12 73 36 ((w60_12 73) 36) = (setO w60_12 73 (fup (w60_12 73) 36 ((w60_12 73) 36))) from up_can rfl rfl rfl) hF60_12 (by decide) (by decide)
            refine TT_vret hK hQ ?_ dX12_endTelling_138
            have e18_73_36 : (setO w60_12 73 (fup (w60_12 73) 36 ((w60_12 73) 36))) 73 36 = (w60_12 73) 36 := rd_ (sOf_eq _ _ _) (fup_eq _ _ _)
            exact ⟨⟨hT_17, hF_17⟩, rfl, (by rewrite [e18_73_36]; omega)⟩
          · refine TT_aload_n hK rfl 0 rfl dX12_endTelling_122 ?_
            refine gf_X12_166 hK (by decide) rfl (v := (w60_12 73) 36) rfl dX12_endTelling_123 ?_
            refine TT_iconst hK dX12_endTelling_126 ?_
            refine TT_isub hK dX12_endTelling_127 ?_
            refine TT_goto hK (tgt := 135) dX12_endTelling_128 (by decide) ?_
            refine pf_X12_166 hK (by decide) rfl dX12_endTelling_135 ?_
            refine TT_hp (h' := setO w60_12 73 (fup (w60_12 73) 36 (((w60_12 73) 36) - 1))) (up_can rfl rfl rfl) ?_
            have hT_19 : TY (setO w60_12 73 (fup (w60_12 73) 36 (((w60_12 73) 36) - 1))) := tu_73_36 hT60_12 (show up w60_12 73 36 (((w60_12 73) 36) - 1) = (setO w60_12 73 (fup (w60_12 73) 36 (((w60_12 73) 36) - 1))) from up_can rfl rfl rfl) (by omega)
            have hF_19 : FRM [73, 98] [33, 34, 36] h (setO w60_12 73 (fup (w60_12 73) 36 (((w60_12 73) 36) - 1))) := FRM_f (show up w60_12 73 36 (((w60_12 73) 36) - 1) = (setO w60_12 73 (fup (w60_12 73) 36 (((w60_12 73) 36) - 1))) from up_can rfl rfl rfl) hF60_12 (by decide) (by decide)
            refine TT_vret hK hQ ?_ dX12_endTelling_138
            have e20_73_36 : (setO w60_12 73 (fup (w60_12 73) 36 (((w60_12 73) 36) - 1))) 73 36 = ((w60_12 73) 36) - 1 := rd_ (sOf_eq _ _ _) (fup_eq _ _ _)
            exact ⟨⟨hT_19, hF_19⟩, rfl, (by rewrite [e20_73_36]; omega)⟩
        · refine TT_aload_n hK rfl 0 rfl dX12_endTelling_65 ?_
          refine gf_X12_178 hK (by decide) rfl (v := (w60_12 73) 34) rfl dX12_endTelling_66 ?_
          have r21 := ty_73_34 (v := (w60_12 73) 34) hT60_12 rfl
          refine TT_istore hK (lv' := [(4, vI ((w60_12 73) 34)), (0, vR 73), (3, vI k)]) (by decide) rfl dX12_endTelling_69 ?_
          have L71_22 : ∀ (k22 : Nat) (i : Int) (w71_22 : Hp_), TY w71_22 → FRM [73, 98] [33, 34, 36] h w71_22 → (i ≤ 12) → (0 ≤ i) → ((w71_22 73 36) = h 73 36 + k) → i.toNat < k22 → TT K ly 0 0 71 [(0, vR 73), (3, vI k), (4, vI i)] [] w71_22 := by
            intro k22
            induction k22 with
            | zero => intro i w71_22 hT71_22 hF71_22 hi hi0 hn2 hk22; exact absurd hk22 (Nat.not_lt_zero _)
            | succ k22 ih22 =>
              intro i w71_22 hT71_22 hF71_22 hi hi0 hn2 hk22
              refine TT_iload hK 2 rfl dX12_endTelling_71 ?_
              refine TT_if_le hK (tgt := 94) (irm (by omega) (by omega)) dX12_endTelling_73 (by decide) (fun hb73_23 => ?_) (fun hb73_23 => ?_)
              · refine TT_aload_n hK rfl 0 rfl dX12_endTelling_94 ?_
                have e24_73_36 : w71_22 73 36 = (w71_22 73) 36 := rfl
                refine iv_X12_195 hK (s_X12_putOut_73 w71_22 hT71_22 (by rewrite [e24_73_36]; first | omega | (simp [up, setR] <;> omega))) (by decide) rfl ⟨by decide, by decide⟩ (by decide) rfl rfl (Nat.le_of_ble_eq_true rfl) ⟨by decide, by decide⟩ dX12_endTelling_95 ?_
                intro r9 g95_25 hp9
                obtain ⟨⟨hT_25, hG_25⟩, hr9, p1_25, p2_25⟩ := hp9
                rw [hr9]
                have hF_25 : FRM [73, 98] [33, 34, 36] h g95_25 := FRM_tr hF71_22 hG_25 (by decide) (by decide)
                rw [show w71_22 73 36 = (w71_22 73) 36 from rfl] at p1_25
                show TT K ly 0 0 98 [(0, vR 73), (3, vI k), (4, vI i)] [] g95_25
                refine TT_iinc hK (v := k + 1) (lv' := [(3, vI (k + 1)), (0, vR 73), (4, vI i)]) 1 rfl rfl (by decide) rfl dX12_endTelling_98 ?_
                refine TT_goto hK (tgt := 60) dX12_endTelling_101 (by decide) ?_
                refine TT_sub [1, 0] rfl ?_
                have e26_73_36 : g95_25 73 36 = (g95_25 73) 36 := rfl
                exact ih12 (k + 1) g95_25 hT_25 hF_25 (by first | omega | (simp [up, setR] <;> omega)) (by rewrite [e26_73_36]; first | omega | (simp [up, setR] <;> omega)) (by first | omega | (simp [up, setR] <;> omega))
              · refine TT_aload_n hK rfl 0 rfl dX12_endTelling_76 ?_
                refine TT_ldc2 hK lc_X12_193 dX12_endTelling_77 ?_
                refine TT_aload_n hK rfl 0 rfl dX12_endTelling_80 ?_
                refine gf_X12_175 hK (by decide) rfl (v := (w71_22 73) 33) rfl dX12_endTelling_81 ?_
                have r27 := ty_73_33 (v := (w71_22 73) 33) hT71_22 rfl
                refine TT_lmul hK dX12_endTelling_84 ?_
                refine TT_w64f (fun x85_28 hx28 => ?_)
                refine pf_X12_175 hK (by decide) rfl dX12_endTelling_85 ?_
                refine TT_hp (h' := setO w71_22 73 (fup (w71_22 73) 33 x85_28)) (up_can rfl rfl rfl) ?_
                have hT_29 : TY (setO w71_22 73 (fup (w71_22 73) 33 x85_28)) := tu_73_33 hT71_22 (show up w71_22 73 33 x85_28 = (setO w71_22 73 (fup (w71_22 73) 33 x85_28)) from up_can rfl rfl rfl) (by omega)
                have hF_29 : FRM [73, 98] [33, 34, 36] h (setO w71_22 73 (fup (w71_22 73) 33 x85_28)) := FRM_f (show up w71_22 73 33 x85_28 = (setO w71_22 73 (fup (w71_22 73) 33 x85_28)) from up_can rfl rfl rfl) hF71_22 (by decide) (by decide)
                refine TT_iinc hK (v := i - 1) (lv' := [(4, vI (i - 1)), (0, vR 73), (3, vI k)]) 2 rfl (by omega) (by decide) rfl dX12_endTelling_88 ?_
                refine TT_goto hK (tgt := 71) dX12_endTelling_91 (by decide) ?_
                refine TT_sub [1, 2, 0] rfl ?_
                have e30_73_36 : (setO w71_22 73 (fup (w71_22 73) 33 x85_28)) 73 36 = (w71_22 73) 36 := rd_ (sOf_eq _ _ _) (fup_ne _ _ (by decide))
                exact ih22 (i - 1) (setO w71_22 73 (fup (w71_22 73) 33 x85_28)) hT_29 hF_29 (by first | omega | (simp [up, setR] <;> omega)) (by first | omega | (simp [up, setR] <;> omega)) (by rewrite [e30_73_36]; first | omega | (simp [up, setR] <;> omega)) (by first | omega | (simp [up, setR] <;> omega))
          refine TT_sub [1, 2, 0] rfl ?_
          have e31_73_36 : w60_12 73 36 = (w60_12 73) 36 := rfl
          exact L71_22 ((((w60_12 73) 34).toNat) + 1) ((w60_12 73) 34) w60_12 hT60_12 hF60_12 (by first | omega | (simp [up, setR] <;> omega)) (by first | omega | (simp [up, setR] <;> omega)) (by rewrite [e31_73_36]; first | omega | (simp [up, setR] <;> omega)) (Nat.lt_succ_self _)
    refine TT_sub [2, 0] rfl ?_
    have e32_73_36 : (setO h 73 (fup (h 73) 33 x55_10)) 73 36 = (h 73) 36 := rd_ (sOf_eq _ _ _) (fup_ne _ _ (by decide))
    exact L60_12 ((((2 : Int) - 0).toNat) + 1) 0 (setO h 73 (fup (h 73) 33 x55_10)) hT_11 hF_11 (by first | omega | (simp [up, setR] <;> omega)) (by rewrite [e32_73_36]; first | omega | (simp [up, setR] <;> omega)) (Nat.lt_succ_self _)
  · have hb37_9 := lcmp_ge hb37_9
    refine TT_aload_n hK rfl 1 rfl dX12_endTelling_40 ?_
    refine gf_X12_175 hK (by decide) rfl (v := x27_6) (rd_ (sOf_eq _ _ _) (fup_eq _ _ _)) dX12_endTelling_41 ?_
    refine TT_ldc2 hK lc_X12_169 dX12_endTelling_44 ?_
    refine TT_lsub hK dX12_endTelling_47 ?_
    refine TT_goto hK (tgt := 55) dX12_endTelling_48 (by decide) ?_
    refine TT_w64f (fun x55_33 hx33 => ?_)
    refine pf_X12_175 hK (by decide) rfl dX12_endTelling_55 ?_
    refine TT_hp (h' := setO h 73 (fup (h 73) 33 x55_33)) (up_can (sOf_eq _ _ _) (fup_same _ _ _ _) (setO_same _ _ _ _)) ?_
    have hT_34 : TY (setO h 73 (fup (h 73) 33 x55_33)) := tu_73_33 hT_7 (show up (setO h 73 (fup (h 73) 33 x27_6)) 73 33 x55_33 = (setO h 73 (fup (h 73) 33 x55_33)) from up_can (sOf_eq _ _ _) (fup_same _ _ _ _) (setO_same _ _ _ _)) (by omega)
    have hF_34 : FRM [73, 98] [33, 34, 36] h (setO h 73 (fup (h 73) 33 x55_33)) := FRM_f (show up (setO h 73 (fup (h 73) 33 x27_6)) 73 33 x55_33 = (setO h 73 (fup (h 73) 33 x55_33)) from up_can (sOf_eq _ _ _) (fup_same _ _ _ _) (setO_same _ _ _ _)) hF_7 (by decide) (by decide)
    refine TT_iconst hK dX12_endTelling_58 ?_
    refine TT_istore_n hK rfl (lv' := [(3, vI 0), (1, vJ x9_3), (0, vR 73)]) (by decide) rfl dX12_endTelling_59 ?_
    have L60_35 : ∀ (k35 : Nat) (k : Int) (w60_35 : Hp_), TY w60_35 → FRM [73, 98] [33, 34, 36] h w60_35 → (0 ≤ k ∧ k ≤ 2) → ((w60_35 73 36) = h 73 36 + k) → ((2 : Int) - k).toNat < k35 → TT K ly 0 0 60 [(0, vR 73), (3, vI k)] [] w60_35 := by
      intro k35
      induction k35 with
      | zero => intro k w60_35 hT60_35 hF60_35 hk hn1 hk35; exact absurd hk35 (Nat.not_lt_zero _)
      | succ k35 ih35 =>
        intro k w60_35 hT60_35 hF60_35 hk hn1 hk35
        refine TT_iload_n hK rfl 1 rfl dX12_endTelling_60 ?_
        refine TT_iconst hK dX12_endTelling_61 ?_
        refine TT_icmp_ge hK (tgt := 104) (irm (by omega) (by omega)) (by decide) dX12_endTelling_62 (by decide) (fun hb62_36 => ?_) (fun hb62_36 => ?_)
        · refine TT_aload_n hK rfl 0 rfl dX12_endTelling_104 ?_
          refine TT_aload_n hK rfl 0 rfl dX12_endTelling_105 ?_
          refine gf_X12_90 hK (by decide) rfl (q := 98) rfl rfl dX12_endTelling_106 ?_
          refine TT_aload_n hK rfl 0 rfl dX12_endTelling_109 ?_
          refine gf_X12_166 hK (by decide) rfl (v := (w60_35 73) 36) rfl dX12_endTelling_110 ?_
          have r37 := ty_73_36 (v := (w60_35 73) 36) hT60_35 rfl
          refine TT_iconst hK dX12_endTelling_113 ?_
          refine TT_isub hK dX12_endTelling_114 ?_
          refine TT_iald hK (o := 98) (n := 3200) (by decide) rfl (by first | omega | (simp [up, setR] <;> omega)) (by first | omega | (simp [up, setR] <;> omega)) (v := (w60_35 98) (((w60_35 73) 36) - 1)) rfl dX12_endTelling_115 ?_
          have r38 := ty_98 (i := ((w60_35 73) 36) - 1) (v := (w60_35 98) (((w60_35 73) 36) - 1)) hT60_35 rfl (by omega) (by omega)
          refine TT_sipush hK (by decide) dX12_endTelling_116 ?_
          refine TT_icmp_ne hK (tgt := 131) (irm (by omega) (by omega)) (by decide) dX12_endTelling_119 (by decide) (fun hb119_39 => ?_) (fun hb119_39 => ?_)
          · refine TT_aload_n hK rfl 0 rfl dX12_endTelling_131 ?_
            refine gf_X12_166 hK (by decide) rfl (v := (w60_35 73) 36) rfl dX12_endTelling_132 ?_
            refine pf_X12_166 hK (by decide) rfl dX12_endTelling_135 ?_
            refine TT_hp (h' := setO w60_35 73 (fup (w60_35 73) 36 ((w60_35 73) 36))) (up_can rfl rfl rfl) ?_
            have hT_40 : TY (setO w60_35 73 (fup (w60_35 73) 36 ((w60_35 73) 36))) := tu_73_36 hT60_35 (show up w60_35 73 36 ((w60_35 73) 36) = (setO w60_35 73 (fup (w60_35 73) 36 ((w60_35 73) 36))) from up_can rfl rfl rfl) (by omega)
            have hF_40 : FRM [73, 98] [33, 34, 36] h (setO w60_35 73 (fup (w60_35 73) 36 ((w60_35 73) 36))) := FRM_f (show up w60_35 73 36 ((w60_35 73) 36) = (setO w60_35 73 (fup (w60_35 73) 36 ((w60_35 73) 36))) from up_can rfl rfl rfl) hF60_35 (by decide) (by decide)
            refine TT_vret hK hQ ?_ dX12_endTelling_138
            have e41_73_36 : (setO w60_35 73 (fup (w60_35 73) 36 ((w60_35 73) 36))) 73 36 = (w60_35 73) 36 := rd_ (sOf_eq _ _ _) (fup_eq _ _ _)
            exact ⟨⟨hT_40, hF_40⟩, rfl, (by rewrite [e41_73_36]; omega)⟩
          · refine TT_aload_n hK rfl 0 rfl dX12_endTelling_122 ?_
            refine gf_X12_166 hK (by decide) rfl (v := (w60_35 73) 36) rfl dX12_endTelling_123 ?_
            refine TT_iconst hK dX12_endTelling_126 ?_
            refine TT_isub hK dX12_endTelling_127 ?_
            refine TT_goto hK (tgt := 135) dX12_endTelling_128 (by decide) ?_
            refine pf_X12_166 hK (by decide) rfl dX12_endTelling_135 ?_
            refine TT_hp (h' := setO w60_35 73 (fup (w60_35 73) 36 (((w60_35 73) 36) - 1))) (up_can rfl rfl rfl) ?_
            have hT_42 : TY (setO w60_35 73 (fup (w60_35 73) 36 (((w60_35 73) 36) - 1))) := tu_73_36 hT60_35 (show up w60_35 73 36 (((w60_35 73) 36) - 1) = (setO w60_35 73 (fup (w60_35 73) 36 (((w60_35 73) 36) - 1))) from up_can rfl rfl rfl) (by omega)
            have hF_42 : FRM [73, 98] [33, 34, 36] h (setO w60_35 73 (fup (w60_35 73) 36 (((w60_35 73) 36) - 1))) := FRM_f (show up w60_35 73 36 (((w60_35 73) 36) - 1) = (setO w60_35 73 (fup (w60_35 73) 36 (((w60_35 73) 36) - 1))) from up_can rfl rfl rfl) hF60_35 (by decide) (by decide)
            refine TT_vret hK hQ ?_ dX12_endTelling_138
            have e43_73_36 : (setO w60_35 73 (fup (w60_35 73) 36 (((w60_35 73) 36) - 1))) 73 36 = ((w60_35 73) 36) - 1 := rd_ (sOf_eq _ _ _) (fup_eq _ _ _)
            exact ⟨⟨hT_42, hF_42⟩, rfl, (by rewrite [e43_73_36]; omega)⟩
        · refine TT_aload_n hK rfl 0 rfl dX12_endTelling_65 ?_
          refine gf_X12_178 hK (by decide) rfl (v := (w60_35 73) 34) rfl dX12_endTelling_66 ?_
          have r44 := ty_73_34 (v := (w60_35 73) 34) hT60_35 rfl
          refine TT_istore hK (lv' := [(4, vI ((w60_35 73) 34)), (0, vR 73), (3, vI k)]) (by decide) rfl dX12_endTelling_69 ?_
          have L71_45 : ∀ (k45 : Nat) (i : Int) (w71_45 : Hp_), TY w71_45 → FRM [73, 98] [33, 34, 36] h w71_45 → (i ≤ 12) → (0 ≤ i) → ((w71_45 73 36) = h 73 36 + k) → i.toNat < k45 → TT K ly 0 0 71 [(0, vR 73), (3, vI k), (4, vI i)] [] w71_45 := by
            intro k45
            induction k45 with
            | zero => intro i w71_45 hT71_45 hF71_45 hi hi0 hn2 hk45; exact absurd hk45 (Nat.not_lt_zero _)
            | succ k45 ih45 =>
              intro i w71_45 hT71_45 hF71_45 hi hi0 hn2 hk45
              refine TT_iload hK 2 rfl dX12_endTelling_71 ?_
              refine TT_if_le hK (tgt := 94) (irm (by omega) (by omega)) dX12_endTelling_73 (by decide) (fun hb73_46 => ?_) (fun hb73_46 => ?_)
              · refine TT_aload_n hK rfl 0 rfl dX12_endTelling_94 ?_
                have e47_73_36 : w71_45 73 36 = (w71_45 73) 36 := rfl
                refine iv_X12_195 hK (s_X12_putOut_73 w71_45 hT71_45 (by rewrite [e47_73_36]; first | omega | (simp [up, setR] <;> omega))) (by decide) rfl ⟨by decide, by decide⟩ (by decide) rfl rfl (Nat.le_of_ble_eq_true rfl) ⟨by decide, by decide⟩ dX12_endTelling_95 ?_
                intro r9 g95_48 hp9
                obtain ⟨⟨hT_48, hG_48⟩, hr9, p1_48, p2_48⟩ := hp9
                rw [hr9]
                have hF_48 : FRM [73, 98] [33, 34, 36] h g95_48 := FRM_tr hF71_45 hG_48 (by decide) (by decide)
                rw [show w71_45 73 36 = (w71_45 73) 36 from rfl] at p1_48
                show TT K ly 0 0 98 [(0, vR 73), (3, vI k), (4, vI i)] [] g95_48
                refine TT_iinc hK (v := k + 1) (lv' := [(3, vI (k + 1)), (0, vR 73), (4, vI i)]) 1 rfl rfl (by decide) rfl dX12_endTelling_98 ?_
                refine TT_goto hK (tgt := 60) dX12_endTelling_101 (by decide) ?_
                refine TT_sub [1, 0] rfl ?_
                have e49_73_36 : g95_48 73 36 = (g95_48 73) 36 := rfl
                exact ih35 (k + 1) g95_48 hT_48 hF_48 (by first | omega | (simp [up, setR] <;> omega)) (by rewrite [e49_73_36]; first | omega | (simp [up, setR] <;> omega)) (by first | omega | (simp [up, setR] <;> omega))
              · refine TT_aload_n hK rfl 0 rfl dX12_endTelling_76 ?_
                refine TT_ldc2 hK lc_X12_193 dX12_endTelling_77 ?_
                refine TT_aload_n hK rfl 0 rfl dX12_endTelling_80 ?_
                refine gf_X12_175 hK (by decide) rfl (v := (w71_45 73) 33) rfl dX12_endTelling_81 ?_
                have r50 := ty_73_33 (v := (w71_45 73) 33) hT71_45 rfl
                refine TT_lmul hK dX12_endTelling_84 ?_
                refine TT_w64f (fun x85_51 hx51 => ?_)
                refine pf_X12_175 hK (by decide) rfl dX12_endTelling_85 ?_
                refine TT_hp (h' := setO w71_45 73 (fup (w71_45 73) 33 x85_51)) (up_can rfl rfl rfl) ?_
                have hT_52 : TY (setO w71_45 73 (fup (w71_45 73) 33 x85_51)) := tu_73_33 hT71_45 (show up w71_45 73 33 x85_51 = (setO w71_45 73 (fup (w71_45 73) 33 x85_51)) from up_can rfl rfl rfl) (by omega)
                have hF_52 : FRM [73, 98] [33, 34, 36] h (setO w71_45 73 (fup (w71_45 73) 33 x85_51)) := FRM_f (show up w71_45 73 33 x85_51 = (setO w71_45 73 (fup (w71_45 73) 33 x85_51)) from up_can rfl rfl rfl) hF71_45 (by decide) (by decide)
                refine TT_iinc hK (v := i - 1) (lv' := [(4, vI (i - 1)), (0, vR 73), (3, vI k)]) 2 rfl (by omega) (by decide) rfl dX12_endTelling_88 ?_
                refine TT_goto hK (tgt := 71) dX12_endTelling_91 (by decide) ?_
                refine TT_sub [1, 2, 0] rfl ?_
                have e53_73_36 : (setO w71_45 73 (fup (w71_45 73) 33 x85_51)) 73 36 = (w71_45 73) 36 := rd_ (sOf_eq _ _ _) (fup_ne _ _ (by decide))
                exact ih45 (i - 1) (setO w71_45 73 (fup (w71_45 73) 33 x85_51)) hT_52 hF_52 (by first | omega | (simp [up, setR] <;> omega)) (by first | omega | (simp [up, setR] <;> omega)) (by rewrite [e53_73_36]; first | omega | (simp [up, setR] <;> omega)) (by first | omega | (simp [up, setR] <;> omega))
          refine TT_sub [1, 2, 0] rfl ?_
          have e54_73_36 : w60_35 73 36 = (w60_35 73) 36 := rfl
          exact L71_45 ((((w60_35 73) 34).toNat) + 1) ((w60_35 73) 34) w60_35 hT60_35 hF60_35 (by first | omega | (simp [up, setR] <;> omega)) (by first | omega | (simp [up, setR] <;> omega)) (by rewrite [e54_73_36]; first | omega | (simp [up, setR] <;> omega)) (Nat.lt_succ_self _)
    refine TT_sub [2, 0] rfl ?_
    have e55_73_36 : (setO h 73 (fup (h 73) 33 x55_33)) 73 36 = (h 73) 36 := rd_ (sOf_eq _ _ _) (fup_ne _ _ (by decide))
    exact L60_35 ((((2 : Int) - 0).toNat) + 1) 0 (setO h 73 (fup (h 73) 33 x55_33)) hT_34 hF_34 (by first | omega | (simp [up, setR] <;> omega)) (by rewrite [e55_73_36]; first | omega | (simp [up, setR] <;> omega)) (Nat.lt_succ_self _)
set_option maxRecDepth 20000 in
theorem s_X12_beginTelling_73 (h : Hp_) (hT : TY h)  : Ctr yX12_beginTelling cX12_beginTelling 1 none (rmd 1) ly ly 0 0 [vR 73] h (fun r h' => (TY h' ∧ FRM [73, 96, 97, 98] [29, 32, 33, 34, 36] h h') ∧ r = none ∧ ((h' 73 32) = 32768) ∧ ((h' 73 34) = 12) ∧ ((h' 73 36) = 1) ∧ ((h' 73 29) = 0)) := by
  refine Ctr_of (by decide) (Nat.le_of_ble_eq_true rfl) ⟨Nat.le_refl _, Nat.le_refl _⟩ (fun K hK hQ _ => ?_)
  show TT K ly 0 0 0 [(0, vR 73)] [] h
  have hF : FRM [73, 96, 97, 98] [29, 32, 33, 34, 36] h h := FRM_rf _ _ _
  refine TT_aload_n hK rfl 0 rfl dX12_beginTelling_0 ?_
  refine iv_X12_160 hK (s_X12_forget_73 h hT ) (by decide) rfl ⟨by decide, by decide⟩ (by decide) rfl rfl (Nat.le_of_ble_eq_true rfl) ⟨by decide, by decide⟩ dX12_beginTelling_1 ?_
  intro r9 g1_1 hp9
  obtain ⟨⟨hT_1, hG_1⟩, hr9⟩ := hp9
  rw [hr9]
  have hF_1 : FRM [73, 96, 97, 98] [29, 32, 33, 34, 36] h g1_1 := FRM_tr hF hG_1 (by decide) (by decide)
  show TT K ly 0 0 4 [(0, vR 73)] [] g1_1
  refine TT_aload_n hK rfl 0 rfl dX12_beginTelling_4 ?_
  refine TT_iconst hK dX12_beginTelling_5 ?_
  refine pf_X12_163 hK (by decide) rfl dX12_beginTelling_6 ?_
  refine TT_hp (h' := setO g1_1 73 (fup (h 73) 29 0)) (up_can (hG_1.1 73 (by decide)) rfl rfl) ?_
  have hT_2 : TY (setO g1_1 73 (fup (h 73) 29 0)) := tu_73_29 hT_1 (show up g1_1 73 29 0 = (setO g1_1 73 (fup (h 73) 29 0)) from up_can (hG_1.1 73 (by decide)) rfl rfl) (by omega)
  have hF_2 : FRM [73, 96, 97, 98] [29, 32, 33, 34, 36] h (setO g1_1 73 (fup (h 73) 29 0)) := FRM_f (show up g1_1 73 29 0 = (setO g1_1 73 (fup (h 73) 29 0)) from up_can (hG_1.1 73 (by decide)) rfl rfl) hF_1 (by decide) (by decide)
  refine TT_aload_n hK rfl 0 rfl dX12_beginTelling_9 ?_
  refine gf_X12_90 hK (by decide) rfl (q := 98) rfl rfl dX12_beginTelling_10 ?_
  refine TT_iconst hK dX12_beginTelling_13 ?_
  refine TT_iconst hK dX12_beginTelling_14 ?_
  refine TT_iast hK (o := 98) (n := 3200) (by decide) rfl (by omega) (by omega) dX12_beginTelling_15 ?_
  refine TT_hp (h' := setO (setO g1_1 73 (fup (h 73) 29 0)) 98 (fup (h 98) 0 0)) (up_can ((sOf_ne _ _ (by decide)).trans (hG_1.1 98 (by decide))) rfl rfl) ?_
  have hT_3 : TY (setO (setO g1_1 73 (fup (h 73) 29 0)) 98 (fup (h 98) 0 0)) := tu_98 hT_2 (show up (setO g1_1 73 (fup (h 73) 29 0)) 98 0 0 = (setO (setO g1_1 73 (fup (h 73) 29 0)) 98 (fup (h 98) 0 0)) from up_can ((sOf_ne _ _ (by decide)).trans (hG_1.1 98 (by decide))) rfl rfl) (by omega)
  have hF_3 : FRM [73, 96, 97, 98] [29, 32, 33, 34, 36] h (setO (setO g1_1 73 (fup (h 73) 29 0)) 98 (fup (h 98) 0 0)) := FRM_up (show up (setO g1_1 73 (fup (h 73) 29 0)) 98 0 0 = (setO (setO g1_1 73 (fup (h 73) 29 0)) 98 (fup (h 98) 0 0)) from up_can ((sOf_ne _ _ (by decide)).trans (hG_1.1 98 (by decide))) rfl rfl) hF_2 (by decide) (by decide)
  refine TT_aload_n hK rfl 0 rfl dX12_beginTelling_16 ?_
  refine TT_iconst hK dX12_beginTelling_17 ?_
  refine pf_X12_166 hK (by decide) rfl dX12_beginTelling_18 ?_
  refine TT_hp (h' := setO (setO g1_1 73 (fup (fup (h 73) 29 0) 36 1)) 98 (fup (h 98) 0 0)) (up_can ((sOf_ne _ _ (by decide)).trans (sOf_eq _ _ _)) rfl ((setO_comm _ _ _ (by decide)).trans (setO_cg (setO_same _ _ _ _) rfl))) ?_
  have hT_4 : TY (setO (setO g1_1 73 (fup (fup (h 73) 29 0) 36 1)) 98 (fup (h 98) 0 0)) := tu_73_36 hT_3 (show up (setO (setO g1_1 73 (fup (h 73) 29 0)) 98 (fup (h 98) 0 0)) 73 36 1 = (setO (setO g1_1 73 (fup (fup (h 73) 29 0) 36 1)) 98 (fup (h 98) 0 0)) from up_can ((sOf_ne _ _ (by decide)).trans (sOf_eq _ _ _)) rfl ((setO_comm _ _ _ (by decide)).trans (setO_cg (setO_same _ _ _ _) rfl))) (by omega)
  have hF_4 : FRM [73, 96, 97, 98] [29, 32, 33, 34, 36] h (setO (setO g1_1 73 (fup (fup (h 73) 29 0) 36 1)) 98 (fup (h 98) 0 0)) := FRM_f (show up (setO (setO g1_1 73 (fup (h 73) 29 0)) 98 (fup (h 98) 0 0)) 73 36 1 = (setO (setO g1_1 73 (fup (fup (h 73) 29 0) 36 1)) 98 (fup (h 98) 0 0)) from up_can ((sOf_ne _ _ (by decide)).trans (sOf_eq _ _ _)) rfl ((setO_comm _ _ _ (by decide)).trans (setO_cg (setO_same _ _ _ _) rfl))) hF_3 (by decide) (by decide)
  refine TT_aload_n hK rfl 0 rfl dX12_beginTelling_21 ?_
  refine TT_ldc2 hK lc_X12_169 dX12_beginTelling_22 ?_
  refine pf_X12_171 hK (by decide) rfl dX12_beginTelling_25 ?_
  refine TT_hp (h' := setO (setO g1_1 73 (fup (fup (fup (h 73) 29 0) 32 32768) 36 1)) 98 (fup (h 98) 0 0)) (up_can ((sOf_ne _ _ (by decide)).trans (sOf_eq _ _ _)) (fup_comm _ _ _ (by decide)) ((setO_comm _ _ _ (by decide)).trans (setO_cg (setO_same _ _ _ _) rfl))) ?_
  have hT_5 : TY (setO (setO g1_1 73 (fup (fup (fup (h 73) 29 0) 32 32768) 36 1)) 98 (fup (h 98) 0 0)) := tu_73_32 hT_4 (show up (setO (setO g1_1 73 (fup (fup (h 73) 29 0) 36 1)) 98 (fup (h 98) 0 0)) 73 32 32768 = (setO (setO g1_1 73 (fup (fup (fup (h 73) 29 0) 32 32768) 36 1)) 98 (fup (h 98) 0 0)) from up_can ((sOf_ne _ _ (by decide)).trans (sOf_eq _ _ _)) (fup_comm _ _ _ (by decide)) ((setO_comm _ _ _ (by decide)).trans (setO_cg (setO_same _ _ _ _) rfl))) (by omega)
  have hF_5 : FRM [73, 96, 97, 98] [29, 32, 33, 34, 36] h (setO (setO g1_1 73 (fup (fup (fup (h 73) 29 0) 32 32768) 36 1)) 98 (fup (h 98) 0 0)) := FRM_f (show up (setO (setO g1_1 73 (fup (fup (h 73) 29 0) 36 1)) 98 (fup (h 98) 0 0)) 73 32 32768 = (setO (setO g1_1 73 (fup (fup (fup (h 73) 29 0) 32 32768) 36 1)) 98 (fup (h 98) 0 0)) from up_can ((sOf_ne _ _ (by decide)).trans (sOf_eq _ _ _)) (fup_comm _ _ _ (by decide)) ((setO_comm _ _ _ (by decide)).trans (setO_cg (setO_same _ _ _ _) rfl))) hF_4 (by decide) (by decide)
  refine TT_aload_n hK rfl 0 rfl dX12_beginTelling_28 ?_
  refine TT_lconst hK (v := 0) (by decide) dX12_beginTelling_29 ?_
  refine pf_X12_175 hK (by decide) rfl dX12_beginTelling_30 ?_
  refine TT_hp (h' := setO (setO g1_1 73 (fup (fup (fup (fup (h 73) 29 0) 32 32768) 33 0) 36 1)) 98 (fup (h 98) 0 0)) (up_can ((sOf_ne _ _ (by decide)).trans (sOf_eq _ _ _)) (fup_comm _ _ _ (by decide)) ((setO_comm _ _ _ (by decide)).trans (setO_cg (setO_same _ _ _ _) rfl))) ?_
  have hT_6 : TY (setO (setO g1_1 73 (fup (fup (fup (fup (h 73) 29 0) 32 32768) 33 0) 36 1)) 98 (fup (h 98) 0 0)) := tu_73_33 hT_5 (show up (setO (setO g1_1 73 (fup (fup (fup (h 73) 29 0) 32 32768) 36 1)) 98 (fup (h 98) 0 0)) 73 33 0 = (setO (setO g1_1 73 (fup (fup (fup (fup (h 73) 29 0) 32 32768) 33 0) 36 1)) 98 (fup (h 98) 0 0)) from up_can ((sOf_ne _ _ (by decide)).trans (sOf_eq _ _ _)) (fup_comm _ _ _ (by decide)) ((setO_comm _ _ _ (by decide)).trans (setO_cg (setO_same _ _ _ _) rfl))) (by omega)
  have hF_6 : FRM [73, 96, 97, 98] [29, 32, 33, 34, 36] h (setO (setO g1_1 73 (fup (fup (fup (fup (h 73) 29 0) 32 32768) 33 0) 36 1)) 98 (fup (h 98) 0 0)) := FRM_f (show up (setO (setO g1_1 73 (fup (fup (fup (h 73) 29 0) 32 32768) 36 1)) 98 (fup (h 98) 0 0)) 73 33 0 = (setO (setO g1_1 73 (fup (fup (fup (fup (h 73) 29 0) 32 32768) 33 0) 36 1)) 98 (fup (h 98) 0 0)) from up_can ((sOf_ne _ _ (by decide)).trans (sOf_eq _ _ _)) (fup_comm _ _ _ (by decide)) ((setO_comm _ _ _ (by decide)).trans (setO_cg (setO_same _ _ _ _) rfl))) hF_5 (by decide) (by decide)
  refine TT_aload_n hK rfl 0 rfl dX12_beginTelling_33 ?_
  refine TT_bipush hK (by decide) dX12_beginTelling_34 ?_
  refine pf_X12_178 hK (by decide) rfl dX12_beginTelling_36 ?_
  refine TT_hp (h' := setO (setO g1_1 73 (fup (fup (fup (fup (fup (h 73) 29 0) 32 32768) 33 0) 34 12) 36 1)) 98 (fup (h 98) 0 0)) (up_can ((sOf_ne _ _ (by decide)).trans (sOf_eq _ _ _)) (fup_comm _ _ _ (by decide)) ((setO_comm _ _ _ (by decide)).trans (setO_cg (setO_same _ _ _ _) rfl))) ?_
  have hT_7 : TY (setO (setO g1_1 73 (fup (fup (fup (fup (fup (h 73) 29 0) 32 32768) 33 0) 34 12) 36 1)) 98 (fup (h 98) 0 0)) := tu_73_34 hT_6 (show up (setO (setO g1_1 73 (fup (fup (fup (fup (h 73) 29 0) 32 32768) 33 0) 36 1)) 98 (fup (h 98) 0 0)) 73 34 12 = (setO (setO g1_1 73 (fup (fup (fup (fup (fup (h 73) 29 0) 32 32768) 33 0) 34 12) 36 1)) 98 (fup (h 98) 0 0)) from up_can ((sOf_ne _ _ (by decide)).trans (sOf_eq _ _ _)) (fup_comm _ _ _ (by decide)) ((setO_comm _ _ _ (by decide)).trans (setO_cg (setO_same _ _ _ _) rfl))) (by omega)
  have hF_7 : FRM [73, 96, 97, 98] [29, 32, 33, 34, 36] h (setO (setO g1_1 73 (fup (fup (fup (fup (fup (h 73) 29 0) 32 32768) 33 0) 34 12) 36 1)) 98 (fup (h 98) 0 0)) := FRM_f (show up (setO (setO g1_1 73 (fup (fup (fup (fup (h 73) 29 0) 32 32768) 33 0) 36 1)) 98 (fup (h 98) 0 0)) 73 34 12 = (setO (setO g1_1 73 (fup (fup (fup (fup (fup (h 73) 29 0) 32 32768) 33 0) 34 12) 36 1)) 98 (fup (h 98) 0 0)) from up_can ((sOf_ne _ _ (by decide)).trans (sOf_eq _ _ _)) (fup_comm _ _ _ (by decide)) ((setO_comm _ _ _ (by decide)).trans (setO_cg (setO_same _ _ _ _) rfl))) hF_6 (by decide) (by decide)
  refine TT_vret hK hQ ?_ dX12_beginTelling_39
  have e8_73_32 : (setO (setO g1_1 73 (fup (fup (fup (fup (fup (h 73) 29 0) 32 32768) 33 0) 34 12) 36 1)) 98 (fup (h 98) 0 0)) 73 32 = 32768 := rd_ ((sOf_ne _ _ (by decide)).trans (sOf_eq _ _ _)) ((fup_ne _ _ (by decide)).trans ((fup_ne _ _ (by decide)).trans ((fup_ne _ _ (by decide)).trans (fup_eq _ _ _))))
  have e9_73_34 : (setO (setO g1_1 73 (fup (fup (fup (fup (fup (h 73) 29 0) 32 32768) 33 0) 34 12) 36 1)) 98 (fup (h 98) 0 0)) 73 34 = 12 := rd_ ((sOf_ne _ _ (by decide)).trans (sOf_eq _ _ _)) ((fup_ne _ _ (by decide)).trans (fup_eq _ _ _))
  have e10_73_36 : (setO (setO g1_1 73 (fup (fup (fup (fup (fup (h 73) 29 0) 32 32768) 33 0) 34 12) 36 1)) 98 (fup (h 98) 0 0)) 73 36 = 1 := rd_ ((sOf_ne _ _ (by decide)).trans (sOf_eq _ _ _)) (fup_eq _ _ _)
  have e11_73_29 : (setO (setO g1_1 73 (fup (fup (fup (fup (fup (h 73) 29 0) 32 32768) 33 0) 34 12) 36 1)) 98 (fup (h 98) 0 0)) 73 29 = 0 := rd_ ((sOf_ne _ _ (by decide)).trans (sOf_eq _ _ _)) ((fup_ne _ _ (by decide)).trans ((fup_ne _ _ (by decide)).trans ((fup_ne _ _ (by decide)).trans ((fup_ne _ _ (by decide)).trans (fup_eq _ _ _)))))
  exact ⟨⟨hT_7, hF_7⟩, rfl, (by rewrite [e8_73_32]; omega), (by rewrite [e9_73_34]; omega), (by rewrite [e10_73_36]; omega), (by rewrite [e11_73_29]; omega)⟩

/-! the class's reading is the reference's, while C is small -/
theorem qS_nn (x : Int) : 0 ≤ qS x := by
  unfold qS
  by_cases h : x.toNat < 47
  · have k := (tab_all ⟨x.toNat, h⟩).1.1
    have k2 : 1 ≤ (stT 0).getD x.toNat 0 := k
    omega
  · have e : (stT 0).length = 47 := by decide +kernel
    rw [List.getD_eq_getElem?_getD, List.getElem?_eq_none (by omega)]
    exact Int.le_refl 0
theorem rdS_nn {src : Int → Int} {m x : Int} {D : DS_} (hs : SRB src m) (hc : 0 ≤ D.2.1) (hp : 0 ≤ D.2.2.2.1) (h : (rdS lwC fxM src m D x).2.2.1 < 1099511627776) : 0 ≤ (rdS lwC fxM src m D x).2.2.1 ∧ 0 ≤ (rdS lwC fxM src m D x).2.2.2.2.1 := by
  obtain ⟨a, c, t, p, st, lk⟩ := D
  dsimp only at hc hp
  have hq := qS_nn (st x)
  have lw : lwC c = c / 65536 := rfl
  by_cases h0 : ¬ lwC c < qS (st x) ∧ 32768 ≤ a - qS (st x)
  · rw [rdS_1 h0]
    refine ⟨?_, hp⟩
    show 0 ≤ c - 65536 * qS (st x)
    have := h0.1
    omega
  · rw [rdS_m (P := (lwC c < qS (st x) ↔ ¬ a - qS (st x) < qS (st x))) h0 rfl rfl Iff.rfl rfl] at h ⊢
    have c2 : 0 ≤ (if lwC c < qS (st x) then c else c - 65536 * qS (st x)) := by split <;> omega
    have k := (rmS_c hs 15 c2 hp h).2
    have g := (rmS_q (fx := fxM) (s1 := src) (s2 := src) (m := m) (fun _ _ _ => rfl) 15 (a := if lwC c < qS (st x) then qS (st x) else a - qS (st x)) (c := if lwC c < qS (st x) then c else c - 65536 * qS (st x)) (t := t) hp).2
    exact ⟨Int.le_trans c2 k, g⟩
theorem RDC {src : Int → Int} {m : Int} (hs : SRB src m) : ∀ (T : List (Int × Int)) {w : Int} {D : DS_}, 0 ≤ D.2.1 → 0 ≤ D.2.2.2.1 → BNF src m T (w, D) → rdFC src m T (w, D) = rdF src m T (w, D)
  | [], w, D, _, _, _ => (show rdFC src m [] (w, D) = (w, D) from rfl).trans (show (w, D) = rdF src m [] (w, D) from rfl)
  | z :: T, w, D, hc, hp, hB => by
    have h0 := hB 1 (by rw [List.length_cons]; omega)
    have e0 : rdF src m (List.take 1 (z :: T)) (w, D) = rdW src m (w, D) z.1 z.2 := rfl
    rw [e0] at h0
    unfold rdW at h0
    dsimp only at h0
    have e := rdS_c hs hc hp (qS_nn (D.2.2.2.2.1 z.1)) h0
    have g := rdS_nn hs hc hp h0
    have e2 : rdWC src m (w, D) z.1 z.2 = rdW src m (w, D) z.1 z.2 := by
      unfold rdWC rdW
      rw [e]
    have hB3 : BNF src m T ((rdW src m (w, D) z.1 z.2).1, (rdS lwC fxM src m D z.1).2) := fun i hi => by
      have b := hB (i + 1) (by rw [List.length_cons]; omega)
      have e3 : rdF src m (List.take (i + 1) (z :: T)) (w, D) = rdF src m (List.take i T) (rdW src m (w, D) z.1 z.2) := rfl
      rw [e3] at b
      exact b
    show rdFC src m T (rdWC src m (w, D) z.1 z.2) = rdF src m T (rdW src m (w, D) z.1 z.2)
    rw [e2]
    exact RDC hs T g.1 g.2 hB3
theorem WRD_cg {F : Int × Int × Int × (Int → Int)} {B s1 : Int → Int} {L : Int} (h : WRD F B L) (e : ∀ j : Int, 0 ≤ j → j < L → s1 j = B j) : WRD F s1 L := by
  obtain ⟨h1, h2⟩ := h
  exact ⟨h1, fun j j1 j2 => by rw [e _ (by omega) (by omega)]; exact h2 j j1 j2⟩
theorem bgD_nn {s : Int → Int} {m : Int} {sd ld : Int → Int} (hm : 0 ≤ m) (hs : SRB s m) : 0 ≤ (bgD s m sd ld).2.1 := by
  have b0 := byS_r hs (Int.le_refl 0)
  have i0 := inS_r hs (c := 65536 * byS s m 0) (p := 0) (Int.le_refl 0) hm
  show 0 ≤ (inS s m (65536 * byS s m 0) 0).1 * 128
  omega
theorem RTC_M {M : Int → Int} {s : TS_} {w g kd q L l k n : Int} {B s1 sd ld : Int → Int} {D0 : DS_} (hs : TS0 s) (hC : CWR M s w g kd q B L) (hq : q ≠ 0) (hl : 0 ≤ l ∧ l ≤ L) (hs1 : ∀ j : Int, 0 ≤ j → j < L → s1 j = B j) (hsd : ∀ j : Int, 0 ≤ j → j < 19 → sd j = st0 j) (hld : ∀ j : Int, 0 ≤ j → j < 19 → ld j = 0)
    (hD : D0 = bgD s1 l sd ld) (hk : 0 ≤ k ∧ k < pas q) (hn : n = ((TLp M s w g kd q (k + 1)).length : Int)) : RTC s1 l (TLp M s w g kd q (pas q)) D0 n ↔ RTM B l (TLp M s w g kd q (k + 1)) := by
  obtain ⟨E, hE, hW⟩ := hC.2 hq
  obtain ⟨r, e⟩ := TL_pre (M := M) (s := s) (w := w) (g := g) (kd := kd) (q := q) (show 0 ≤ k + 1 by omega) (show k + 1 ≤ pas q by omega)
  have hT : ETR (TLp M s w g kd q (pas q)) := fun z hz => EVR_ps M kd w g q _ (EVR_0 hs) z hz
  have hW1 : WRD (endE (tlF (TLp M s w g kd q (pas q)) E)) s1 L := WRD_cg hW hs1
  have hby := WRD_by hE hW1
  have hsr : SRB s1 l := fun j j0 j1 => hby j j0 (by omega)
  have hB := BOUND (w := 0) hE hT hW1 hl hsd hld hby
  have et : (TLp M s w g kd q (pas q)).take n.toNat = TLp M s w g kd q (k + 1) := by
    rw [e, hn, Int.toNat_natCast, List.take_left']
    rfl
  have hB2 : BNF s1 l (TLp M s w g kd q (k + 1)) (0, bgD s1 l sd ld) := by
    intro i hi
    have b := hB i (by rw [e, List.length_append]; omega)
    rw [e, List.take_append_of_le_length hi] at b
    exact b
  unfold RTC
  rw [et, hD, RDC hsr _ (bgD_nn hl.1 hsr) (bgD_p s1 l sd ld) hB2]
  exact RTM_q (fun j j0 j1 => hs1 j j0 (by omega)) hsd hld (fun z hz => (hT z (by rw [e]; exact List.mem_append_left _ hz)).1)
theorem bg_D {D0 : DS_} {a c t p m n : Int} {s1 sd ld : Int → Int} (h0 : D0 = (a, c, t, p, sd, ld)) (ha : a = 32768) (hm : m = n) (e : ((c, t, p) : Int × Int × Int) = ((inS s1 m (65536 * byS s1 m 0) 0).1 * 128, (inS s1 m (65536 * byS s1 m 0) 0).2.1 - 7, (inS s1 m (65536 * byS s1 m 0) 0).2.2)) : D0 = bgD s1 n sd ld := by
  rw [h0, ← hm]
  exact BG_D ha e
/-- what the class knows of a band that it has told -/
def CWK (M : Int → Int) (s : TS_) (w g kd q : Int) (B : Int → Int) (n tn tp : Int) (tc tb te : Int → Int) : Prop := TS0 s ∧ CWR M s w g kd q B n ∧ (q = 0 → tp = 0) ∧ (q ≠ 0 → tp = pas q ∧ TPE tn tc tb (TLp M s w g kd q (pas q)) ∧ ((TLp M s w g kd q (pas q)).length : Int) ≤ 1024 ∧ ∀ k : Int, 0 ≤ k → k < pas q → te k = ((TLp M s w g kd q (k + 1)).length : Int))
theorem TL_len {M : Int → Int} {s : TS_} {w g kd q p r : Int} (h0 : 0 ≤ p) (h : p ≤ r) : ((TLp M s w g kd q p).length : Int) ≤ ((TLp M s w g kd q r).length : Int) := by
  obtain ⟨l, e⟩ := TL_pre (M := M) (s := s) (w := w) (g := g) (kd := kd) (q := q) h0 h
  rw [e, List.length_append]
  omega
theorem CWX_K {N : Int → Int → Int} {w g kd q n tn tp : Int} {B tc tb te : Int → Int} (hw : 0 ≤ w ∧ w ≤ 8) (hg : 0 ≤ g ∧ g ≤ 8) (hq : 0 ≤ q ∧ q ≤ 12) (h : CWX N w g kd q B n tn tp tc tb te) : ∃ (M : Int → Int) (s : TS_), (q ≠ 0 → MRN N w g M) ∧ CWK M s w g kd q B n tn tp tc tb te := by
  by_cases z : q = 0
  · have a := h.1 z
    exact ⟨fun _ => 0, (fun _ => 0, fun _ => 0, fun _ => 0, []), fun y => absurd z y, ⟨fun j _ _ => ⟨rfl, rfl, rfl⟩, rfl⟩, ⟨fun _ => a.1, fun y => absurd z y⟩, fun _ => a.2.2, fun y => absurd z y⟩
  · obtain ⟨M, s, E, h1, h2, h3, h4, h5, h6, h7⟩ := h.2 z
    have cl := CW_len (M := M) (kd := kd) hw hg (show 1 ≤ q ∧ q ≤ 12 by omega) h2
    have a64 := A64 hw hg
    have L : ((TLp M s w g kd q (pas q)).length : Int) ≤ 1024 := by
      have k : ((TLp M s w g kd q (pas q)).length : Int) ≤ 15 * (w * g) := cl
      omega
    refine ⟨M, s, fun _ => h1, h2, ⟨fun y => absurd y z, fun _ => ⟨E, h3, h4⟩⟩, fun y => absurd y z, fun _ => ⟨h5, h6, L, fun k k0 k1 => ?_⟩⟩
    have b := h7 k.toNat (by omega)
    have e : psN M kd w g q (k.toNat + 1) s = psN M kd w g q (k + 1).toNat s := by rw [show (k + 1).toNat = k.toNat + 1 by omega]
    have t := TL_len (M := M) (s := s) (w := w) (g := g) (kd := kd) (q := q) (p := k + 1) (r := pas q) (by omega) (by omega)
    rw [show ((k.toNat : Nat) : Int) = k by omega, e] at b
    rw [b]
    show min ((TLp M s w g kd q (k + 1)).length : Int) 1024 = _
    omega
set_option maxRecDepth 20000 in
theorem s_raddFrom_e (s n : Int) (h : Hp_) (hT : TY h) (hs : -2147483648 ≤ s ∧ s ≤ 2147483647) (hn : -2147483648 ≤ n ∧ n ≤ 2147483647) (hz2 : (h 39 2) = 0) (hsn : 0 ≤ s ∧ (0 ≤ n ∧ n ≤ 1024) ∧ s + n ≤ (h 22 1)) : Ctr yX6_addFrom cX6_addFrom 5 none (rmd 1) ly ly 0 0 [vR 39, vR 22, vI s, vI n] h (fun r h' => (TY h' ∧ FR [39, 43] h h') ∧ r = none ∧ ((h' 39 2) = n ∧ ∀ j : Int, 0 ≤ j → j < n → (h' 43) j = (h 23) (s + j))) := by
  refine Ctr_of (by decide) (Nat.le_of_ble_eq_true rfl) ⟨Nat.le_refl _, Nat.le_refl _⟩ (fun K hK hQ _ => ?_)
  show TT K ly 0 0 0 [(0, vR 39), (1, vR 22), (2, vI s), (3, vI n)] [] h
  have hF : FR [39, 43] h h := FR_rf _ _
  have r22 := ty_22_1 (v := h 22 1) hT rfl
  refine TT_iconst hK dX6_addFrom_0 ?_
  refine TT_istore hK (lv' := [(4, vI 0), (0, vR 39), (1, vR 22), (2, vI s), (3, vI n)]) (by decide) rfl dX6_addFrom_1 ?_
  have L3_1 : ∀ (k1 : Nat) (i : Int) (w3_1 : Hp_), TY w3_1 → FR [39, 43] h w3_1 → (0 ≤ i ∧ (i ≤ n ∨ i = 0)) → (i ≤ n) → ((w3_1 39 2) = i) → (∀ j : Int, 0 ≤ j → j < i → (w3_1 43) j = h 23 (s + j)) → (n - i).toNat < k1 → TT K ly 0 0 3 [(0, vR 39), (1, vR 22), (2, vI s), (3, vI n), (4, vI i)] [] w3_1 := by
    intro k1
    induction k1 with
    | zero => intro i w3_1 hT3_1 hF3_1 hi hin hgi haf hk1; exact absurd hk1 (Nat.not_lt_zero _)
    | succ k1 ih1 =>
      intro i w3_1 hT3_1 hF3_1 hi hin hgi haf hk1
      refine TT_iload hK 4 rfl dX6_addFrom_3 ?_
      refine TT_iload_n hK rfl 3 rfl dX6_addFrom_5 ?_
      refine TT_icmp_ge hK (tgt := 52) (irm (by omega) (by omega)) (irm (by omega) (by omega)) dX6_addFrom_6 (by decide) (fun hb6_2 => ?_) (fun hb6_2 => ?_)
      · refine TT_vret hK hQ ?_ dX6_addFrom_52
        have e3_39_2 : w3_1 39 2 = (w3_1 39) 2 := rfl
        exact ⟨⟨hT3_1, hF3_1⟩, rfl, (by rewrite [e3_39_2]; exact ⟨by omega, fun j h1 h2 => haf j h1 (by omega)⟩)⟩
      · refine TT_aload_n hK rfl 0 rfl dX6_addFrom_9 ?_
        refine gf_X6_22 hK (by decide) rfl (v := (w3_1 39) 2) rfl dX6_addFrom_10 ?_
        have r4 := ty_39_2 (v := (w3_1 39) 2) hT3_1 rfl
        refine TT_sipush hK (by decide) dX6_addFrom_13 ?_
        refine TT_icmp_ge hK (tgt := 52) (irm (by omega) (by omega)) (by decide) dX6_addFrom_16 (by decide) (fun hb16_5 => ?_) (fun hb16_5 => ?_)
        · refine TT_vret hK hQ ?_ dX6_addFrom_52
          have e6_39_2 : w3_1 39 2 = (w3_1 39) 2 := rfl
          exact ⟨⟨hT3_1, hF3_1⟩, rfl, (by rewrite [e6_39_2]; exact ⟨by omega, fun j h1 h2 => haf j h1 (by omega)⟩)⟩
        · refine TT_aload_n hK rfl 0 rfl dX6_addFrom_19 ?_
          refine gf_X6_18 hK (by decide) rfl (q := 43) rfl rfl dX6_addFrom_20 ?_
          refine TT_aload_n hK rfl 0 rfl dX6_addFrom_23 ?_
          refine gf_X6_22 hK (by decide) rfl (v := (w3_1 39) 2) rfl dX6_addFrom_24 ?_
          refine TT_aload_n hK rfl 1 rfl dX6_addFrom_27 ?_
          refine TT_iload_n hK rfl 2 rfl dX6_addFrom_28 ?_
          refine TT_iload hK 4 rfl dX6_addFrom_29 ?_
          refine TT_iadd hK dX6_addFrom_31 ?_
          refine iv_X6_26 hK (s_X1_at_22 (s + i) w3_1 hT3_1 (by first | omega | (simp [up, setR] <;> omega))) (by decide) rfl ⟨by decide, by decide⟩ (by decide) rfl rfl (Nat.le_of_ble_eq_true rfl) ⟨by decide, by decide⟩ dX6_addFrom_32 ?_
          intro r9 g32_7 hp9
          obtain ⟨⟨hT_7, hG_7⟩, z32_7, hr9, hz_7, p1_7⟩ := hp9
          rw [hr9]
          have hF_7 : FR [39, 43] h g32_7 := FR_tr hF3_1 hG_7 (by decide)
          rw [show w3_1 22 1 = (h 22) 1 from rd_ (hF3_1 22 (by decide)) rfl] at p1_7
          rw [show w3_1 23 = h 23 from (hF3_1 23 (by decide))] at p1_7
          have p1_at32 := p1_7
          show TT K ly 0 0 35 [(0, vR 39), (1, vR 22), (2, vI s), (3, vI n), (4, vI i)] [vI z32_7, vI ((w3_1 39) 2), vR 43] g32_7
          refine TT_iast hK (o := 43) (n := 1024) (by decide) rfl (by omega) (by omega) dX6_addFrom_35 ?_
          refine TT_hp (h' := setO g32_7 43 (fup (w3_1 43) ((w3_1 39) 2) z32_7)) (up_can (hG_7 43 (by decide)) rfl rfl) ?_
          have hT_8 : TY (setO g32_7 43 (fup (w3_1 43) ((w3_1 39) 2) z32_7)) := tu_43 hT_7 (show up g32_7 43 ((w3_1 39) 2) z32_7 = (setO g32_7 43 (fup (w3_1 43) ((w3_1 39) 2) z32_7)) from up_can (hG_7 43 (by decide)) rfl rfl) (by omega)
          have hF_8 : FR [39, 43] h (setO g32_7 43 (fup (w3_1 43) ((w3_1 39) 2) z32_7)) := FR_up (show up g32_7 43 ((w3_1 39) 2) z32_7 = (setO g32_7 43 (fup (w3_1 43) ((w3_1 39) 2) z32_7)) from up_can (hG_7 43 (by decide)) rfl rfl) hF_7 (by decide)
          refine TT_aload_n hK rfl 0 rfl dX6_addFrom_36 ?_
          refine TT_dup hK rfl dX6_addFrom_37 ?_
          refine gf_X6_22 hK (by decide) rfl (v := (w3_1 39) 2) (rd_ ((sOf_ne _ _ (by decide)).trans (hG_7 39 (by decide))) rfl) dX6_addFrom_38 ?_
          refine TT_iconst hK dX6_addFrom_41 ?_
          refine TT_iadd hK dX6_addFrom_42 ?_
          refine pf_X6_22 hK (by decide) rfl dX6_addFrom_43 ?_
          refine TT_hp (h' := setO (setO g32_7 39 (fup (w3_1 39) 2 (((w3_1 39) 2) + 1))) 43 (fup (w3_1 43) ((w3_1 39) 2) z32_7)) (up_can ((sOf_ne _ _ (by decide)).trans (hG_7 39 (by decide))) rfl ((setO_comm _ _ _ (by decide)).trans (setO_cg rfl rfl))) ?_
          have hT_9 : TY (setO (setO g32_7 39 (fup (w3_1 39) 2 (((w3_1 39) 2) + 1))) 43 (fup (w3_1 43) ((w3_1 39) 2) z32_7)) := tu_39_2 hT_8 (show up (setO g32_7 43 (fup (w3_1 43) ((w3_1 39) 2) z32_7)) 39 2 (((w3_1 39) 2) + 1) = (setO (setO g32_7 39 (fup (w3_1 39) 2 (((w3_1 39) 2) + 1))) 43 (fup (w3_1 43) ((w3_1 39) 2) z32_7)) from up_can ((sOf_ne _ _ (by decide)).trans (hG_7 39 (by decide))) rfl ((setO_comm _ _ _ (by decide)).trans (setO_cg rfl rfl))) (by omega)
          have hF_9 : FR [39, 43] h (setO (setO g32_7 39 (fup (w3_1 39) 2 (((w3_1 39) 2) + 1))) 43 (fup (w3_1 43) ((w3_1 39) 2) z32_7)) := FR_up (show up (setO g32_7 43 (fup (w3_1 43) ((w3_1 39) 2) z32_7)) 39 2 (((w3_1 39) 2) + 1) = (setO (setO g32_7 39 (fup (w3_1 39) 2 (((w3_1 39) 2) + 1))) 43 (fup (w3_1 43) ((w3_1 39) 2) z32_7)) from up_can ((sOf_ne _ _ (by decide)).trans (hG_7 39 (by decide))) rfl ((setO_comm _ _ _ (by decide)).trans (setO_cg rfl rfl))) hF_8 (by decide)
          refine TT_iinc hK (v := i + 1) (lv' := [(4, vI (i + 1)), (0, vR 39), (1, vR 22), (2, vI s), (3, vI n)]) 4 rfl rfl (by decide) rfl dX6_addFrom_46 ?_
          refine TT_goto hK (tgt := 3) dX6_addFrom_49 (by decide) ?_
          refine TT_sub [1, 2, 3, 4, 0] rfl ?_
          have e10_39_2 : (setO (setO g32_7 39 (fup (w3_1 39) 2 (((w3_1 39) 2) + 1))) 43 (fup (w3_1 43) ((w3_1 39) 2) z32_7)) 39 2 = ((w3_1 39) 2) + 1 := rd_ ((sOf_ne _ _ (by decide)).trans (sOf_eq _ _ _)) (fup_eq _ _ _)
          have e11_43 : (setO (setO g32_7 39 (fup (w3_1 39) 2 (((w3_1 39) 2) + 1))) 43 (fup (w3_1 43) ((w3_1 39) 2) z32_7)) 43 = fup (w3_1 43) ((w3_1 39) 2) z32_7 := sOf_eq _ _ _
          exact ih1 (i + 1) (setO (setO g32_7 39 (fup (w3_1 39) 2 (((w3_1 39) 2) + 1))) 43 (fup (w3_1 43) ((w3_1 39) 2) z32_7)) hT_9 hF_9 (by first | omega | (simp [up, setR] <;> omega)) (by first | omega | (simp [up, setR] <;> omega)) (by rewrite [e10_39_2]; first | omega | (simp [up, setR] <;> omega)) (by rewrite [e11_43]; intro j h1 h2; by_cases e : j = i; (rw [e, hgi, fup_eq]; exact p1_at32.1 (by omega)); (rw [hgi, fup_ne _ _ e]; exact haf j h1 (by omega))) (by first | omega | (simp [up, setR] <;> omega))
  refine TT_sub [1, 2, 3, 4, 0] rfl ?_
  have e12_39_2 : h 39 2 = (h 39) 2 := rfl
  exact L3_1 (((n - 0).toNat) + 1) 0 h hT hF (by first | omega | (simp [up, setR] <;> omega)) (by first | omega | (simp [up, setR] <;> omega)) (by rewrite [e12_39_2]; first | omega | (simp [up, setR] <;> omega)) (by intro j h1 h2; exfalso; omega) (Nat.lt_succ_self _)
set_option maxRecDepth 20000 in
theorem s_findLeasts_e (M : Int → Int) (s : TS_) (w9 g9 kd9 : Int) (b : Int) (h : Hp_) (hT : TY h) (hb : 0 ≤ b ∧ b ≤ 9) (hck : CWK M s w9 g9 kd9 ((h 16) b) (fun i => (h 23) ((h 17) b + i)) ((h 18) b) (h 24 3) (h 24 4) (h 25) (h 26) (h 27)) (hcr : 0 ≤ (h 17) b ∧ (0 ≤ (h 18) b ∧ (h 18) b ≤ 1024) ∧ (h 17) b + (h 18) b ≤ (h 22 1)) (hq12 : 0 ≤ (h 16) b ∧ (h 16) b ≤ 12) (hb9 : 0 ≤ b ∧ b < 10) : Ctr yX3_findLeasts cX3_findLeasts 7 none (rmd 3) ly ly 0 0 [vR 7, vI b] h (fun r h' => (TY h' ∧ FR [19, 39, 41, 42, 43] h h') ∧ r = none ∧ (LSX M s w9 g9 kd9 ((h 16) b) (fun i => (h 23) ((h 17) b + i)) (h' 19) (35 * b) (pas ((h 16) b) + 1)) ∧ (∀ j : Int, j < 35 * b → (h' 19) j = (h 19) j) ∧ ((h' 19) (35 * b) = 0)) := by
  refine Ctr_of (by decide) (Nat.le_of_ble_eq_true rfl) ⟨Nat.le_refl _, Nat.le_refl _⟩ (fun K hK hQ _ => ?_)
  show TT K ly 0 0 0 [(0, vR 7), (1, vI b)] [] h
  have hF : FR [19, 39, 41, 42, 43] h h := FR_rf _ _
  have pq12 := pas_r12 (q := h 16 b) hq12
  refine TT_iload_n hK rfl 1 rfl dX3_findLeasts_0 ?_
  refine TT_bipush hK (by decide) dX3_findLeasts_1 ?_
  refine TT_imul hK dX3_findLeasts_3 ?_
  refine TT_istore_n hK rfl (lv' := [(2, vI (b * 35)), (0, vR 7), (1, vI b)]) (by decide) rfl dX3_findLeasts_4 ?_
  refine TT_aload_n hK rfl 1 rfl dX3_findLeasts_5 ?_
  refine gf_X3_18 hK (by decide) rfl (q := 16) rfl rfl dX3_findLeasts_6 ?_
  refine TT_iload_n hK rfl 2 rfl dX3_findLeasts_9 ?_
  refine TT_iald hK (o := 16) (n := 10) (by decide) rfl (by first | omega | (simp [up, setR] <;> omega)) (by first | omega | (simp [up, setR] <;> omega)) (v := (h 16) b) rfl dX3_findLeasts_10 ?_
  have r1 := ty_16 (i := b) (v := (h 16) b) hT rfl (by omega) (by omega)
  refine iv_X3_85 hK (s_cpassesOf_e ((h 16) b) h hT (by first | omega | (simp [up, setR] <;> omega))) ⟨by decide, by decide⟩ (by decide) rfl rfl (Nat.le_of_ble_eq_true rfl) ⟨by decide, by decide⟩ dX3_findLeasts_11 ?_
  intro r9 g11_2 hp9
  obtain ⟨⟨hT_2, hG_2⟩, z11_2, hr9, hz_2, e_2⟩ := hp9
  rw [hr9]
  have hF_2 : FR [19, 39, 41, 42, 43] h g11_2 := FR_tr hF hG_2 (by decide)
  have e_at11 := e_2
  show TT K ly 0 0 14 [(2, vI (b * 35)), (0, vR 7), (1, vI b)] [vI z11_2] g11_2
  refine TT_istore_n hK rfl (lv' := [(3, vI z11_2), (2, vI (b * 35)), (0, vR 7), (1, vI b)]) (by decide) rfl dX3_findLeasts_14 ?_
  refine TT_aload_n hK rfl 2 rfl dX3_findLeasts_15 ?_
  refine gf_X3_28 hK (by decide) rfl (q := 19) rfl rfl dX3_findLeasts_16 ?_
  refine TT_iload_n hK rfl 1 rfl dX3_findLeasts_19 ?_
  refine TT_iconst hK dX3_findLeasts_20 ?_
  refine TT_iast hK (o := 19) (n := 350) (by decide) rfl (by omega) (by omega) dX3_findLeasts_21 ?_
  refine TT_hp (h' := setO g11_2 19 (fup (h 19) (b * 35) 0)) (up_can (hG_2 19 (by decide)) rfl rfl) ?_
  have hT_3 : TY (setO g11_2 19 (fup (h 19) (b * 35) 0)) := tu_19 hT_2 (show up g11_2 19 (b * 35) 0 = (setO g11_2 19 (fup (h 19) (b * 35) 0)) from up_can (hG_2 19 (by decide)) rfl rfl) (by omega)
  have hF_3 : FR [19, 39, 41, 42, 43] h (setO g11_2 19 (fup (h 19) (b * 35) 0)) := FR_up (show up g11_2 19 (b * 35) 0 = (setO g11_2 19 (fup (h 19) (b * 35) 0)) from up_can (hG_2 19 (by decide)) rfl rfl) hF_2 (by decide)
  refine TT_aload_n hK rfl 2 rfl dX3_findLeasts_22 ?_
  refine gf_X3_70 hK (by decide) rfl (q := 39) rfl rfl dX3_findLeasts_23 ?_
  refine iv_X3_187 hK (s_rclear_e (setO g11_2 19 (fup (h 19) (b * 35) 0)) hT_3 ) (by decide) rfl ⟨by decide, by decide⟩ (by decide) rfl rfl (Nat.le_of_ble_eq_true rfl) ⟨by decide, by decide⟩ dX3_findLeasts_26 ?_
  intro r9 g26_4 hp9
  obtain ⟨⟨hT_4, hG_4⟩, hr9, e_4⟩ := hp9
  rw [hr9]
  have hF_4 : FR [19, 39, 41, 42, 43] h g26_4 := FR_tr hF_3 hG_4 (by decide)
  have e_at26 := e_4
  show TT K ly 0 0 29 [(3, vI z11_2), (2, vI (b * 35)), (0, vR 7), (1, vI b)] [] g26_4
  refine TT_aload_n hK rfl 2 rfl dX3_findLeasts_29 ?_
  refine gf_X3_70 hK (by decide) rfl (q := 39) rfl rfl dX3_findLeasts_30 ?_
  refine TT_aload_n hK rfl 2 rfl dX3_findLeasts_33 ?_
  refine gf_X3_40 hK (by decide) rfl (q := 22) rfl rfl dX3_findLeasts_34 ?_
  refine TT_aload_n hK rfl 2 rfl dX3_findLeasts_37 ?_
  refine gf_X3_22 hK (by decide) rfl (q := 17) rfl rfl dX3_findLeasts_38 ?_
  refine TT_iload_n hK rfl 3 rfl dX3_findLeasts_41 ?_
  refine TT_iald hK (o := 17) (n := 10) (by decide) rfl (by first | omega | (simp [up, setR] <;> omega)) (by first | omega | (simp [up, setR] <;> omega)) (v := (h 17) b) (rd_ (((hG_4 17 (by decide))).trans ((sOf_ne _ _ (by decide)).trans (hG_2 17 (by decide)))) rfl) dX3_findLeasts_42 ?_
  have r5 := ty_17 (i := b) (v := (h 17) b) hT_4 (rd_ (((hG_4 17 (by decide))).trans ((sOf_ne _ _ (by decide)).trans (hG_2 17 (by decide)))) rfl) (by omega) (by omega)
  refine TT_aload_n hK rfl 2 rfl dX3_findLeasts_43 ?_
  refine gf_X3_25 hK (by decide) rfl (q := 18) rfl rfl dX3_findLeasts_44 ?_
  refine TT_iload_n hK rfl 3 rfl dX3_findLeasts_47 ?_
  refine TT_iald hK (o := 18) (n := 10) (by decide) rfl (by first | omega | (simp [up, setR] <;> omega)) (by first | omega | (simp [up, setR] <;> omega)) (v := (h 18) b) (rd_ (((hG_4 18 (by decide))).trans ((sOf_ne _ _ (by decide)).trans (hG_2 18 (by decide)))) rfl) dX3_findLeasts_48 ?_
  have r6 := ty_18 (i := b) (v := (h 18) b) hT_4 (rd_ (((hG_4 18 (by decide))).trans ((sOf_ne _ _ (by decide)).trans (hG_2 18 (by decide)))) rfl) (by omega) (by omega)
  have e7_39_2 : g26_4 39 2 = (g26_4 39) 2 := rfl
  have e8_22_1 : g26_4 22 1 = (h 22) 1 := rd_ (((hG_4 22 (by decide))).trans ((sOf_ne _ _ (by decide)).trans (hG_2 22 (by decide)))) rfl
  refine iv_X3_188 hK (s_raddFrom_e ((h 17) b) ((h 18) b) g26_4 hT_4 (by first | omega | (simp [up, setR] <;> omega)) (by first | omega | (simp [up, setR] <;> omega)) (by rewrite [e7_39_2]; first | omega | (simp [up, setR] <;> omega)) (by rewrite [e8_22_1]; first | omega | (simp [up, setR] <;> omega))) (by decide) rfl ⟨by decide, by decide⟩ (by decide) rfl rfl (Nat.le_of_ble_eq_true rfl) ⟨by decide, by decide⟩ dX3_findLeasts_49 ?_
  intro r9 g49_9 hp9
  obtain ⟨⟨hT_9, hG_9⟩, hr9, af_9⟩ := hp9
  rw [hr9]
  have hF_9 : FR [19, 39, 41, 42, 43] h g49_9 := FR_tr hF_4 hG_9 (by decide)
  rw [show g26_4 23 = h 23 from ((hG_4 23 (by decide))).trans ((sOf_ne _ _ (by decide)).trans (hG_2 23 (by decide)))] at af_9
  have af_at49 := af_9
  show TT K ly 0 0 52 [(3, vI z11_2), (2, vI (b * 35)), (0, vR 7), (1, vI b)] [] g49_9
  refine TT_iconst hK dX3_findLeasts_52 ?_
  refine TT_istore hK (lv' := [(4, vI 0), (3, vI z11_2), (2, vI (b * 35)), (0, vR 7), (1, vI b)]) (by decide) rfl dX3_findLeasts_53 ?_
  refine TT_iconst hK dX3_findLeasts_55 ?_
  refine TT_istore hK (lv' := [(5, vI 0), (4, vI 0), (3, vI z11_2), (2, vI (b * 35)), (0, vR 7), (1, vI b)]) (by decide) rfl dX3_findLeasts_56 ?_
  have L58_10 : ∀ (k10 : Nat) (kn : Int) (l : Int) (w58_10 : Hp_), TY w58_10 → FR [19, 39, 41, 42, 43] h w58_10 → (0 ≤ kn ∧ kn ≤ 34) → (0 ≤ l ∧ l ≤ 1025) → (kn ≤ pas (h 16 b)) → (l ≤ h 18 b + 1) → ((w58_10 39 2) = h 18 b) → (∀ j : Int, 0 ≤ j → j < h 18 b → (w58_10 43) j = (fun i => h 23 (h 17 b + i)) j) → ((w58_10 19) (35 * b) = 0) → (∀ j : Int, j < 35 * b → (w58_10 19) j = h 19 j) → (LSX M s w9 g9 kd9 (h 16 b) (fun i => h 23 (h 17 b + i)) (w58_10 19) (35 * b) (kn + 1)) → (∀ m : Int, 0 ≤ m → m < l → kn < pas (h 16 b) → ¬ RTM (fun i => h 23 (h 17 b + i)) m (TLp M s w9 g9 kd9 (h 16 b) (kn + 1))) → ((1025 : Int) - l).toNat < k10 → TT K ly 0 0 58 [(0, vR 7), (1, vI b), (2, vI (b * 35)), (3, vI z11_2), (4, vI kn), (5, vI l)] [] w58_10 := by
    intro k10
    induction k10 with
    | zero => intro kn l w58_10 hT58_10 hF58_10 hkn hl hkp hll h2 h43 hl0 k19 hls hnr hk10; exact absurd hk10 (Nat.not_lt_zero _)
    | succ k10 ih10 =>
      intro kn l w58_10 hT58_10 hF58_10 hkn hl hkp hll h2 h43 hl0 k19 hls hnr hk10
      refine TT_iload hK 5 rfl dX3_findLeasts_58 ?_
      refine TT_aload_n hK rfl 0 rfl dX3_findLeasts_60 ?_
      refine gf_X3_25 hK (by decide) rfl (q := 18) rfl rfl dX3_findLeasts_61 ?_
      refine TT_iload_n hK rfl 1 rfl dX3_findLeasts_64 ?_
      refine TT_iald hK (o := 18) (n := 10) (by decide) rfl (by first | omega | (simp [up, setR] <;> omega)) (by first | omega | (simp [up, setR] <;> omega)) (v := (h 18) b) (rd_ (hF58_10 18 (by decide)) rfl) dX3_findLeasts_65 ?_
      have r11 := ty_18 (i := b) (v := (h 18) b) hT58_10 (rd_ (hF58_10 18 (by decide)) rfl) (by omega) (by omega)
      refine TT_icmp_gt hK (tgt := 127) (irm (by omega) (by omega)) (irm (by omega) (by omega)) dX3_findLeasts_66 (by decide) (fun hb66_12 => ?_) (fun hb66_12 => ?_)
      · refine TT_vret hK hQ ?_ dX3_findLeasts_127
        exact ⟨⟨hT58_10, hF58_10⟩, rfl, (by exact LSX_u hls (by first | omega | (by_cases c9 : kn = pas (h 16 b); omega; exfalso; exact hnr (h 18 b) (by omega) (by omega) (by omega) (WRT hck.1 hck.2.1 (fun z => by have p0 : pas (h 16 b) = 0 := (by rw [z]; exact if_pos rfl); omega) (by omega))))), (by exact k19), (by exact hl0)⟩
      · refine TT_iload hK 4 rfl dX3_findLeasts_69 ?_
        refine TT_iload_n hK rfl 3 rfl dX3_findLeasts_71 ?_
        refine TT_icmp_ge hK (tgt := 127) (irm (by omega) (by omega)) (irm (by omega) (by omega)) dX3_findLeasts_72 (by decide) (fun hb72_13 => ?_) (fun hb72_13 => ?_)
        · refine TT_vret hK hQ ?_ dX3_findLeasts_127
          exact ⟨⟨hT58_10, hF58_10⟩, rfl, (by exact LSX_u hls (by first | omega | (by_cases c9 : kn = pas (h 16 b); omega; exfalso; exact hnr (h 18 b) (by omega) (by omega) (by omega) (WRT hck.1 hck.2.1 (fun z => by have p0 : pas (h 16 b) = 0 := (by rw [z]; exact if_pos rfl); omega) (by omega))))), (by exact k19), (by exact hl0)⟩
        · have hq0 : h 16 b ≠ 0 := fun z => by have p0 : pas (h 16 b) = 0 := (by rw [z]; exact if_pos rfl); omega
          have kk9 := hck.2.2.2 hq0
          have kk91 := kk9.1
          refine TT_aload_n hK rfl 0 rfl dX3_findLeasts_75 ?_
          refine gf_X3_70 hK (by decide) rfl (q := 39) rfl rfl dX3_findLeasts_76 ?_
          refine TT_iload hK 5 rfl dX3_findLeasts_79 ?_
          refine iv_X3_192 hK (s_rbegin_e l w58_10 hT58_10 (by first | omega | (simp [up, setR] <;> omega))) (by decide) rfl ⟨by decide, by decide⟩ (by decide) rfl rfl (Nat.le_of_ble_eq_true rfl) ⟨by decide, by decide⟩ dX3_findLeasts_81 ?_
          intro r9 g81_14 hp9
          obtain ⟨⟨hT_14, hG_14⟩, hr9, b2_14, b5_14, b3_14, bg_14, bb_14, st_14, lk_14⟩ := hp9
          rw [hr9]
          have hF_14 : FR [19, 39, 41, 42, 43] h g81_14 := FR_tr hF58_10 hG_14 (by decide)
          rw [show w58_10 39 2 = (w58_10 39) 2 from rfl] at b2_14
          rw [show w58_10 39 2 = (w58_10 39) 2 from rfl] at b3_14
          rw [show w58_10 39 2 = (w58_10 39) 2 from rfl] at bg_14
          have b2_at81 := b2_14
          have b5_at81 := b5_14
          have b3_at81 := b3_14
          have bg_at81 := bg_14
          have bb_at81 := bb_14
          have st_at81 := st_14
          have lk_at81 := lk_14
          show TT K ly 0 0 84 [(0, vR 7), (1, vI b), (2, vI (b * 35)), (3, vI z11_2), (4, vI kn), (5, vI l)] [] g81_14
          have b39 : (g81_14 39) 3 = l := by omega
          have bd9 := bg_D (n := l) (D0 := (((g81_14 39) 5, (g81_14 39) 7, (g81_14 39) 6, (g81_14 39) 4, g81_14 41, g81_14 42) : DS_)) rfl b5_at81 (by omega) bg_at81
          have rm9 : ∀ k n : Int, 0 ≤ k → k < pas (h 16 b) → n = ((TLp M s w9 g9 kd9 (h 16 b) (k + 1)).length : Int) → (RTC (w58_10 43) l (TLp M s w9 g9 kd9 (h 16 b) (pas (h 16 b))) (((g81_14 39) 5, (g81_14 39) 7, (g81_14 39) 6, (g81_14 39) 4, g81_14 41, g81_14 42) : DS_) n ↔ RTM (fun i => h 23 (h 17 b + i)) l (TLp M s w9 g9 kd9 (h 16 b) (k + 1))) := fun k n h1 h2 h3 => RTC_M hck.1 hck.2.1 hq0 (by omega) h43 st_at81 lk_at81 bd9 ⟨h1, h2⟩ h3
          refine TT_aload_n hK rfl 0 rfl dX3_findLeasts_84 ?_
          refine gf_X3_47 hK (by decide) rfl (q := 24) rfl rfl dX3_findLeasts_85 ?_
          refine TT_aload_n hK rfl 0 rfl dX3_findLeasts_88 ?_
          refine gf_X3_70 hK (by decide) rfl (q := 39) rfl rfl dX3_findLeasts_89 ?_
          have e15_24_3 : g81_14 24 3 = (h 24) 3 := rd_ (((hG_14 24 (by decide))).trans (hF58_10 24 (by decide))) rfl
          have e16_25 : g81_14 25 = h 25 := ((hG_14 25 (by decide))).trans (hF58_10 25 (by decide))
          have e17_26 : g81_14 26 = h 26 := ((hG_14 26 (by decide))).trans (hF58_10 26 (by decide))
          have e18_24_4 : g81_14 24 4 = (h 24) 4 := rd_ (((hG_14 24 (by decide))).trans (hF58_10 24 (by decide))) rfl
          have e19_27 : g81_14 27 = h 27 := ((hG_14 27 (by decide))).trans (hF58_10 27 (by decide))
          have e20_39_4 : g81_14 39 4 = (g81_14 39) 4 := rfl
          have e21_39_5 : g81_14 39 5 = (g81_14 39) 5 := rfl
          have e22_39_6 : g81_14 39 6 = (g81_14 39) 6 := rfl
          have e23_39_7 : g81_14 39 7 = (g81_14 39) 7 := rfl
          have e24_39_7 : g81_14 39 7 = (g81_14 39) 7 := rfl
          have e25_39_3 : g81_14 39 3 = (g81_14 39) 3 := rfl
          have e26_39_4 : g81_14 39 4 = (g81_14 39) 4 := rfl
          have e27_39_5 : g81_14 39 5 = (g81_14 39) 5 := rfl
          have e28_39_6 : g81_14 39 6 = (g81_14 39) 6 := rfl
          have e29_39_5 : g81_14 39 5 = (g81_14 39) 5 := rfl
          refine iv_X3_194 hK (s_passesRight_e (TLp M s w9 g9 kd9 (h 16 b) (pas (h 16 b))) ((((g81_14 39) 5), ((g81_14 39) 7), ((g81_14 39) 6), ((g81_14 39) 4), (g81_14 41), (g81_14 42)) : DS_) g81_14 hT_14 (by rewrite [e15_24_3, e16_25, e17_26]; exact kk9.2.1) (by exact kk9.2.2.1) (by rewrite [e18_24_4, e19_27]; intro k h1 h2; rw [kk9.1] at h2; rw [kk9.2.2.2 k h1 h2]; have t9 := TL_len (M := M) (s := s) (w := w9) (g := g9) (kd := kd9) (q := h 16 b) (p := k + 1) (r := pas (h 16 b)) (by omega) (by omega); omega) (by rewrite [e20_39_4, e21_39_5, e22_39_6, e23_39_7]; rfl) (by rewrite [e24_39_7]; exact bb_at81.1) (by rewrite [e25_39_3, e26_39_4, e27_39_5, e28_39_6]; exact bb_at81.2) (by rewrite [e29_39_5]; omega)) (by decide) rfl ⟨by decide, by decide⟩ (by decide) rfl rfl (Nat.le_of_ble_eq_true rfl) ⟨by decide, by decide⟩ dX3_findLeasts_92 ?_
          intro r9 g92_30 hp9
          obtain ⟨⟨hT_30, hG_30⟩, z92_30, hr9, hz_30, pr_30, pk2_30⟩ := hp9
          rw [hr9]
          have hF_30 : FR [19, 39, 41, 42, 43] h g92_30 := FR_tr hF_14 hG_30 (by decide)
          rw [show g81_14 24 4 = (h 24) 4 from rd_ (((hG_14 24 (by decide))).trans (hF58_10 24 (by decide))) rfl] at pr_30
          rw [show g81_14 27 = h 27 from ((hG_14 27 (by decide))).trans (hF58_10 27 (by decide))] at pr_30
          rw [show g81_14 39 3 = (g81_14 39) 3 from rfl] at pr_30
          rw [show g81_14 43 = w58_10 43 from (hG_14 43 (by decide))] at pr_30
          rw [show g81_14 39 2 = (g81_14 39) 2 from rfl] at pk2_30
          have pr_at92 := pr_30
          have pk2_at92 := pk2_30
          show TT K ly 0 0 95 [(0, vR 7), (1, vI b), (2, vI (b * 35)), (3, vI z11_2), (4, vI kn), (5, vI l)] [vI z92_30] g92_30
          have pr9 := pr_at92
          rw [b39] at pr9
          have pz9 := pr9.1
          refine TT_istore hK (lv' := [(6, vI z92_30), (0, vR 7), (1, vI b), (2, vI (b * 35)), (3, vI z11_2), (4, vI kn), (5, vI l)]) (by decide) rfl dX3_findLeasts_95 ?_
          have L97_31 : ∀ (k31 : Nat) (k2 : Int) (w97_31 : Hp_), TY w97_31 → FR [19, 39, 41, 42, 43] h w97_31 → (0 ≤ k2 ∧ k2 ≤ 34) → ((w97_31 39 2) = h 18 b) → (∀ j : Int, 0 ≤ j → j < h 18 b → (w97_31 43) j = (fun i => h 23 (h 17 b + i)) j) → (kn ≤ k2 ∧ k2 ≤ pas (h 16 b)) → ((w97_31 19) (35 * b) = 0) → (∀ j : Int, j < 35 * b → (w97_31 19) j = h 19 j) → (LSX M s w9 g9 kd9 (h 16 b) (fun i => h 23 (h 17 b + i)) (w97_31 19) (35 * b) (k2 + 1)) → (∀ m : Int, 0 ≤ m → m < l → k2 < pas (h 16 b) → ¬ RTM (fun i => h 23 (h 17 b + i)) m (TLp M s w9 g9 kd9 (h 16 b) (k2 + 1))) → ((34 : Int) - k2).toNat < k31 → TT K ly 0 0 97 [(0, vR 7), (1, vI b), (2, vI (b * 35)), (3, vI z11_2), (4, vI k2), (5, vI l), (6, vI z92_30)] [] w97_31 := by
            intro k31
            induction k31 with
            | zero => intro k2 w97_31 hT97_31 hF97_31 hk2 h2 h43 hk9 hl0 k19 hls hnr hk31; exact absurd hk31 (Nat.not_lt_zero _)
            | succ k31 ih31 =>
              intro k2 w97_31 hT97_31 hF97_31 hk2 h2 h43 hk9 hl0 k19 hls hnr hk31
              refine TT_iload hK 4 rfl dX3_findLeasts_97 ?_
              refine TT_iload hK 6 rfl dX3_findLeasts_99 ?_
              refine TT_icmp_ge hK (tgt := 121) (irm (by omega) (by omega)) (irm (by omega) (by omega)) dX3_findLeasts_101 (by decide) (fun hb101_32 => ?_) (fun hb101_32 => ?_)
              · refine TT_iinc hK (v := l + 1) (lv' := [(5, vI (l + 1)), (0, vR 7), (1, vI b), (2, vI (b * 35)), (3, vI z11_2), (4, vI k2), (6, vI z92_30)]) 5 rfl rfl (by decide) rfl dX3_findLeasts_121 ?_
                refine TT_goto hK (tgt := 58) dX3_findLeasts_124 (by decide) ?_
                refine TT_sub [1, 2, 3, 4, 5, 0] rfl ?_
                have e33_39_2 : w97_31 39 2 = (w97_31 39) 2 := rfl
                exact ih10 k2 (l + 1) w97_31 hT97_31 hF97_31 (by first | omega | (simp [up, setR] <;> omega)) (by first | omega | (simp [up, setR] <;> omega)) (by first | omega | (simp [up, setR] <;> omega)) (by first | omega | (simp [up, setR] <;> omega)) (by rewrite [e33_39_2]; omega) (by exact h43) (by exact hl0) (by exact k19) (by exact hls) (by intro m h1 h2 h3; by_cases e : m = l; (rw [e]; intro r9; exact pr9.2.2 (by omega) ((rm9 z92_30 _ (by omega) (by omega) (kk9.2.2.2 z92_30 (by omega) (by omega))).2 (RT_le (by omega) (by omega) r9))); exact hnr m h1 (by omega) h3) (by first | omega | (simp [up, setR] <;> omega))
              · refine TT_iinc hK (v := k2 + 1) (lv' := [(4, vI (k2 + 1)), (0, vR 7), (1, vI b), (2, vI (b * 35)), (3, vI z11_2), (5, vI l), (6, vI z92_30)]) 4 rfl rfl (by decide) rfl dX3_findLeasts_104 ?_
                refine TT_aload_n hK rfl 1 rfl dX3_findLeasts_107 ?_
                refine gf_X3_28 hK (by decide) rfl (q := 19) rfl rfl dX3_findLeasts_108 ?_
                refine TT_iload_n hK rfl 3 rfl dX3_findLeasts_111 ?_
                refine TT_iload hK 0 rfl dX3_findLeasts_112 ?_
                refine TT_iadd hK dX3_findLeasts_114 ?_
                refine TT_iload hK 5 rfl dX3_findLeasts_115 ?_
                refine TT_iast hK (o := 19) (n := 350) (by decide) rfl (by omega) (by omega) dX3_findLeasts_117 ?_
                refine TT_hp (h' := setO w97_31 19 (fup (w97_31 19) ((b * 35) + (k2 + 1)) l)) (up_can rfl rfl rfl) ?_
                have hT_34 : TY (setO w97_31 19 (fup (w97_31 19) ((b * 35) + (k2 + 1)) l)) := tu_19 hT97_31 (show up w97_31 19 ((b * 35) + (k2 + 1)) l = (setO w97_31 19 (fup (w97_31 19) ((b * 35) + (k2 + 1)) l)) from up_can rfl rfl rfl) (by omega)
                have hF_34 : FR [19, 39, 41, 42, 43] h (setO w97_31 19 (fup (w97_31 19) ((b * 35) + (k2 + 1)) l)) := FR_up (show up w97_31 19 ((b * 35) + (k2 + 1)) l = (setO w97_31 19 (fup (w97_31 19) ((b * 35) + (k2 + 1)) l)) from up_can rfl rfl rfl) hF97_31 (by decide)
                refine TT_goto hK (tgt := 97) dX3_findLeasts_118 (by decide) ?_
                refine TT_sub [1, 2, 3, 4, 0, 5, 6] rfl ?_
                have e35_39_2 : (setO w97_31 19 (fup (w97_31 19) ((b * 35) + (k2 + 1)) l)) 39 2 = (w97_31 39) 2 := rd_ (sOf_ne _ _ (by decide)) rfl
                have e36_43 : (setO w97_31 19 (fup (w97_31 19) ((b * 35) + (k2 + 1)) l)) 43 = w97_31 43 := sOf_ne _ _ (by decide)
                have e37_19 : (setO w97_31 19 (fup (w97_31 19) ((b * 35) + (k2 + 1)) l)) 19 = fup (w97_31 19) ((b * 35) + (k2 + 1)) l := sOf_eq _ _ _
                have e38_19 : (setO w97_31 19 (fup (w97_31 19) ((b * 35) + (k2 + 1)) l)) 19 = fup (w97_31 19) ((b * 35) + (k2 + 1)) l := sOf_eq _ _ _
                have e39_19 : (setO w97_31 19 (fup (w97_31 19) ((b * 35) + (k2 + 1)) l)) 19 = fup (w97_31 19) ((b * 35) + (k2 + 1)) l := sOf_eq _ _ _
                exact ih31 (k2 + 1) (setO w97_31 19 (fup (w97_31 19) ((b * 35) + (k2 + 1)) l)) hT_34 hF_34 (by first | omega | (simp [up, setR] <;> omega)) (by rewrite [e35_39_2]; omega) (by rewrite [e36_43]; exact h43) (by first | omega | (simp [up, setR] <;> omega)) (by rewrite [e37_19]; rw [fup_ne _ _ (by omega)]; exact hl0) (by rewrite [e38_19]; intro j hj; rw [fup_ne _ _ (by omega)]; exact k19 j hj) (by rewrite [e39_19]; rw [show b * 35 + (k2 + 1) = 35 * b + (k2 + 1) by omega]; exact LSX_s hls (by omega) ⟨by omega, (rm9 k2 _ (by omega) (by omega) (kk9.2.2.2 k2 (by omega) (by omega))).1 (pr9.2.1 k2 (by omega) (by omega)), fun m h1 h2 => hnr m h1 h2 (by omega)⟩) (by intro m h1 h2 h3 r9; exact hnr m h1 h2 (by omega) (RT_up (by omega) r9)) (by first | omega | (simp [up, setR] <;> omega))
          refine TT_sub [1, 2, 3, 4, 5, 6, 0] rfl ?_
          have e40_39_2 : g92_30 39 2 = (g92_30 39) 2 := rfl
          have e41_43 : g92_30 43 = w58_10 43 := ((hG_30 43 (by decide))).trans (hG_14 43 (by decide))
          have e42_19 : g92_30 19 = w58_10 19 := ((hG_30 19 (by decide))).trans (hG_14 19 (by decide))
          have e43_19 : g92_30 19 = w58_10 19 := ((hG_30 19 (by decide))).trans (hG_14 19 (by decide))
          have e44_19 : g92_30 19 = w58_10 19 := ((hG_30 19 (by decide))).trans (hG_14 19 (by decide))
          exact L97_31 ((((34 : Int) - kn).toNat) + 1) kn g92_30 hT_30 hF_30 (by first | omega | (simp [up, setR] <;> omega)) (by rewrite [e40_39_2]; omega) (by rewrite [e41_43]; exact h43) (by first | omega | (simp [up, setR] <;> omega)) (by rewrite [e42_19]; exact hl0) (by rewrite [e43_19]; exact k19) (by rewrite [e44_19]; exact hls) (by exact hnr) (Nat.lt_succ_self _)
  refine TT_sub [4, 5, 3, 2, 1, 0] rfl ?_
  have e45_39_2 : g49_9 39 2 = (g49_9 39) 2 := rfl
  have e46_19 : g49_9 19 = fup (h 19) (b * 35) 0 := ((hG_9 19 (by decide))).trans (((hG_4 19 (by decide))).trans (sOf_eq _ _ _))
  have e47_19 : g49_9 19 = fup (h 19) (b * 35) 0 := ((hG_9 19 (by decide))).trans (((hG_4 19 (by decide))).trans (sOf_eq _ _ _))
  have e48_19 : g49_9 19 = fup (h 19) (b * 35) 0 := ((hG_9 19 (by decide))).trans (((hG_4 19 (by decide))).trans (sOf_eq _ _ _))
  exact L58_10 ((((1025 : Int) - 0).toNat) + 1) 0 0 g49_9 hT_9 hF_9 (by first | omega | (simp [up, setR] <;> omega)) (by first | omega | (simp [up, setR] <;> omega)) (by first | omega | (simp [up, setR] <;> omega)) (by first | omega | (simp [up, setR] <;> omega)) (by rewrite [e45_39_2]; omega) (by intro j h1 h2; rw [af_at49.2 j h1 h2]) (by rewrite [e46_19]; rw [show 35 * b = b * 35 by omega]; exact fup_eq _ _ _) (by rewrite [e47_19]; intro j hj; exact fup_ne _ _ (by omega)) (by rewrite [e48_19]; intro j h1 h2; exfalso; omega) (by intro m h1 h2 h3; exfalso; omega) (Nat.lt_succ_self _)

/-! the head of one band, as both sides put it -/
theorem bl_p2 {a b : Int} (h0 : 0 ≤ a) (h1 : a ≤ b) (h2 : b ≤ 19) : (2 : Int) ^ a.toNat ≤ 2 ^ b.toNat := by
  have key : ∀ x y : Fin 20, x.val ≤ y.val → (2 : Int) ^ x.val ≤ 2 ^ y.val := by decide +kernel
  exact key ⟨a.toNat, by omega⟩ ⟨b.toNat, by omega⟩ (by show a.toNat ≤ b.toNat; omega)
theorem bl_a {v k : Int} (hv : 0 ≤ v ∧ v ≤ 4095) (hk : 0 ≤ k ∧ k ≤ 19) (h : v < 2 ^ k.toNat) : bl v ≤ k := by
  obtain ⟨⟨b0, b1⟩, -, b3⟩ := bl_r hv
  by_cases c : bl v ≤ k
  · exact c
  · rcases b3 with e | e
    · omega
    · have t := bl_p2 hk.1 (show k ≤ bl v - 1 by omega) (by omega)
      exact absurd (Int.lt_of_lt_of_le h (Int.le_trans t e)) (Int.lt_irrefl _)
theorem bl_b {v k : Int} (hv : 0 ≤ v ∧ v ≤ 4095) (hk : 0 ≤ k ∧ k ≤ 19) (h : 2 ^ k.toNat ≤ v) : k < bl v := by
  obtain ⟨⟨b0, b1⟩, b2, -⟩ := bl_r hv
  by_cases c : k < bl v
  · exact c
  · have t := bl_p2 b0 (show bl v ≤ k by omega) hk.2
    exact absurd (Int.lt_of_lt_of_le b2 (Int.le_trans t h)) (Int.lt_irrefl _)
theorem bl_10 {v : Int} (h : 0 ≤ v ∧ v ≤ 1023) : 0 ≤ bl v ∧ bl v ≤ 10 := by
  have k := (bl_r (v := v) ⟨h.1, by omega⟩).1
  refine ⟨k.1, ?_⟩
  unfold bl
  (repeat' split) <;> omega
theorem bl_n {n : Int} (h : 1 ≤ n ∧ n ≤ 37) : 1 ≤ bl n ∧ bl n ≤ 6 := by
  unfold bl
  (repeat' split) <;> omega
theorem bl_u {n l : Int} (hl : 0 ≤ l ∧ l ≤ 6) (h1 : (2 : Int) ^ l.toNat ≤ n) (h2 : n < (2 : Int) ^ (l + 1).toNat) : l = bl n - 1 := by
  rcases (show l = 0 ∨ l = 1 ∨ l = 2 ∨ l = 3 ∨ l = 4 ∨ l = 5 ∨ l = 6 by omega) with rfl | rfl | rfl | rfl | rfl | rfl | rfl
  · rw [show (2 : Int) ^ (0 : Int).toNat = 1 from rfl] at h1; rw [show (2 : Int) ^ ((0 : Int) + 1).toNat = 2 from rfl] at h2; rw [bl_e1 ⟨h1, h2⟩]; rfl
  · rw [show (2 : Int) ^ (1 : Int).toNat = 2 from rfl] at h1; rw [show (2 : Int) ^ ((1 : Int) + 1).toNat = 4 from rfl] at h2; rw [bl_e2 ⟨h1, h2⟩]; rfl
  · rw [show (2 : Int) ^ (2 : Int).toNat = 4 from rfl] at h1; rw [show (2 : Int) ^ ((2 : Int) + 1).toNat = 8 from rfl] at h2; rw [bl_e3 ⟨h1, h2⟩]; rfl
  · rw [show (2 : Int) ^ (3 : Int).toNat = 8 from rfl] at h1; rw [show (2 : Int) ^ ((3 : Int) + 1).toNat = 16 from rfl] at h2; rw [bl_e4 ⟨h1, h2⟩]; rfl
  · rw [show (2 : Int) ^ (4 : Int).toNat = 16 from rfl] at h1; rw [show (2 : Int) ^ ((4 : Int) + 1).toNat = 32 from rfl] at h2; rw [bl_e5 ⟨h1, h2⟩]; rfl
  · rw [show (2 : Int) ^ (5 : Int).toNat = 32 from rfl] at h1; rw [show (2 : Int) ^ ((5 : Int) + 1).toNat = 64 from rfl] at h2; rw [bl_e6 ⟨h1, h2⟩]; rfl
  · rw [show (2 : Int) ^ (6 : Int).toNat = 64 from rfl] at h1; rw [show (2 : Int) ^ ((6 : Int) + 1).toNat = 128 from rfl] at h2; rw [bl_e7 ⟨h1, h2⟩]; rfl
def onesS : Nat → PBS_ → PBS_
  | 0, s => s
  | k + 1, s => putS 1 1 (onesS k s)
theorem onesS_n : ∀ (k : Nat) {s : PBS_}, PBQ s → PBQ (onesS k s) ∧ 8 * (onesS k s).1 + (onesS k s).2.1 = 8 * s.1 + s.2.1 + (k : Int)
  | 0, s, h => ⟨h, by show 8 * s.1 + s.2.1 = 8 * s.1 + s.2.1 + ((0 : Nat) : Int); omega⟩
  | k + 1, s, h => by
    have i := onesS_n k h
    have b := putS_n 1 1 i.1
    refine ⟨b.1, ?_⟩
    show 8 * (putS 1 1 (onesS k s)).1 + (putS 1 1 (onesS k s)).2.1 = _
    rw [b.2, i.2]
    omega
/-- how much the width of lengths grows -/
def grS (sz w lg : Int) : Int := max 0 (bl sz - w - lg)
theorem grS_0 (sz w lg : Int) : 0 ≤ grS sz w lg := by
  unfold grS
  omega
theorem grS_u {sz w lg lw : Int} (h1 : w ≤ lw ∧ lw ≤ w + grS sz w lg) (h2 : bl sz ≤ lw + lg) : lw = w + grS sz w lg := by
  unfold grS at h1 ⊢
  omega
theorem grS_s {sz w lg lw : Int} (h1 : w ≤ lw ∧ lw ≤ w + grS sz w lg) (h2 : lw + lg < bl sz) : w ≤ lw + 1 ∧ lw + 1 ≤ w + grS sz w lg := by
  unfold grS at h1 ⊢
  omega
theorem grS_w {sz w n : Int} (hw : 3 ≤ w ∧ w ≤ 10) (hz : 0 ≤ sz ∧ sz ≤ 1023) (hn : 1 ≤ n ∧ n ≤ 37) : 0 ≤ grS sz w (bl n - 1) ∧ grS sz w (bl n - 1) ≤ 7 ∧ w + grS sz w (bl n - 1) ≤ 10 := by
  have a := bl_10 hz
  have b := bl_n hn
  unfold grS
  omega
def hd2 (pl had : Int) (s : PBS_) : PBS_ := if had = 0 then putS pl 4 (putS 1 1 s) else putS 1 1 s
def hdS (pl had n w sz : Int) (s : PBS_) : PBS_ := if n ≤ 0 then putS 0 1 s else putS sz (w + grS sz w (bl n - 1) + (bl n - 1)).toNat (putS 0 1 (onesS (grS sz w (bl n - 1)).toNat (cntS n (hd2 pl had s))))
def wdS (n w sz : Int) : Int := if n ≤ 0 then w else w + grS sz w (bl n - 1)
theorem hd2_n (pl had : Int) {s : PBS_} (h : PBQ s) : PBQ (hd2 pl had s) ∧ 8 * s.1 + s.2.1 ≤ 8 * (hd2 pl had s).1 + (hd2 pl had s).2.1 ∧ 8 * (hd2 pl had s).1 + (hd2 pl had s).2.1 ≤ 8 * s.1 + s.2.1 + 5 := by
  have a := putS_n 1 1 h
  have b := putS_n 4 pl a.1
  unfold hd2
  by_cases c : had = 0
  · rw [if_pos c]
    exact ⟨b.1, by omega, by omega⟩
  · rw [if_neg c]
    exact ⟨a.1, by omega, by omega⟩
theorem cntS_n (n : Int) {s : PBS_} (h : PBQ s) : PBQ (cntS n s) ∧ 8 * s.1 + s.2.1 ≤ 8 * (cntS n s).1 + (cntS n s).2.1 ∧ 8 * (cntS n s).1 + (cntS n s).2.1 ≤ 8 * s.1 + s.2.1 + 9 := by
  have a1 := putS_n 1 0 h
  have a2 := putS_n 2 2 h
  have a3 := putS_n 2 3 h
  have a4 := putS_n 2 (n - 3) a3.1
  have a5 := putS_n 4 15 h
  have a6 := putS_n 5 (n - 6) a5.1
  unfold cntS
  by_cases c1 : n = 1
  · rw [if_pos c1]
    exact ⟨a1.1, by omega, by omega⟩
  rw [if_neg c1]
  by_cases c2 : n = 2
  · rw [if_pos c2]
    exact ⟨a2.1, by omega, by omega⟩
  rw [if_neg c2]
  by_cases c3 : n ≤ 5
  · rw [if_pos c3]
    exact ⟨a4.1, by omega, by omega⟩
  rw [if_neg c3]
  exact ⟨a6.1, by omega, by omega⟩
theorem hdS_n {pl had n w sz : Int} {s : PBS_} (h : PBQ s) (hw : 3 ≤ w ∧ w ≤ 10) (hz : 0 ≤ sz ∧ sz ≤ 1023) (hn : n ≤ 37) : (PBQ (hdS pl had n w sz s) ∧ 8 * s.1 + s.2.1 ≤ 8 * (hdS pl had n w sz s).1 + (hdS pl had n w sz s).2.1 ∧ 8 * (hdS pl had n w sz s).1 + (hdS pl had n w sz s).2.1 ≤ 8 * s.1 + s.2.1 + 37) ∧ 3 ≤ wdS n w sz ∧ wdS n w sz ≤ 10 := by
  unfold hdS wdS
  by_cases c : n ≤ 0
  · rw [if_pos c, if_pos c]
    have a := putS_n 1 0 h
    exact ⟨⟨a.1, by omega, by omega⟩, hw⟩
  · rw [if_neg c, if_neg c]
    have g := grS_w hw hz (n := n) (by omega)
    have b := bl_n (n := n) (by omega)
    have a1 := hd2_n pl had h
    have a2 := cntS_n n a1.1
    have a3 := onesS_n (grS sz w (bl n - 1)).toNat a2.1
    have a4 := putS_n 1 0 a3.1
    have a5 := putS_n (w + grS sz w (bl n - 1) + (bl n - 1)).toNat sz a4.1
    exact ⟨⟨a5.1, by omega, by omega⟩, by omega, by omega⟩
theorem LLV_e {b p cnt : Int} {pl ll : Int → Int} (h : (0 ≤ b ∧ b < cnt) ∧ 0 ≤ p ∧ p ≤ pas (pl b)) : LLV b p cnt pl ll = ll (35 * b + p) := if_pos h
theorem fup_fs {f : Int → Int} {i : Int} : fup f i (f i) = f := by
  funext j
  by_cases e : j = i
  · rw [e, fup_eq]
  · rw [fup_ne _ _ e]
set_option maxRecDepth 20000 in
theorem s_writeBandHead_e (s : PBS_) (b q : Int) (h : Hp_) (hT : TY h) (hb : 0 ≤ b ∧ b ≤ 9) (hq : 0 ≤ q ∧ q ≤ 34) (hcb : CBR (h 5 1) (h 5 2) (h 6) s) (hpq : PBQ s) (hrm : 8 * s.1 + s.2.1 + 37 ≤ 8192) (hw3 : 3 ≤ (h 21) b ∧ (h 21) b ≤ 10) (hb8 : 0 ≤ b ∧ b < (h 8 10)) (hhq : 0 ≤ (h 20) b ∧ (h 20) b ≤ q ∧ q ≤ pas ((h 16) b)) (hll : 0 ≤ ((h 19) (35 * b + q) - (h 19) (35 * b + (h 20) b)) ∧ ((h 19) (35 * b + q) - (h 19) (35 * b + (h 20) b)) ≤ 1023) : Ctr yX3_writeBandHead cX3_writeBandHead 9 none (rmd 4) ly ly 0 0 [vR 7, vI b, vI q, vR 5] h (fun r h' => (TY h' ∧ FR [5, 6, 21] h h') ∧ r = none ∧ (CBR (h' 5 1) (h' 5 2) (h' 6) (hdS ((h 16) b) ((h 20) b) (q - (h 20) b) ((h 21) b) ((h 19) (35 * b + q) - (h 19) (35 * b + (h 20) b)) s)) ∧ ((h' 21) = fup (h 21) b (wdS (q - (h 20) b) ((h 21) b) ((h 19) (35 * b + q) - (h 19) (35 * b + (h 20) b))))) := by
  refine Ctr_of (by decide) (Nat.le_of_ble_eq_true rfl) ⟨Nat.le_refl _, Nat.le_refl _⟩ (fun K hK hQ _ => ?_)
  show TT K ly 0 0 0 [(0, vR 7), (1, vI b), (2, vI q), (3, vR 5)] [] h
  have hF : FR [5, 6, 21] h h := FR_rf _ _
  have rp16 := ty_16 (i := b) (v := h 16 b) hT rfl (by omega) (by omega)
  have pp16 := pas_34 (q := h 16 b) (by omega)
  have zz1 := putS_n 1 1 hpq
  have zz2 := hd2_n (h 16 b) (h 20 b) hpq
  have zz3 := cntS_n (q - h 20 b) zz2.1
  refine TT_iload_n hK rfl 2 rfl dX3_writeBandHead_0 ?_
  refine TT_aload_n hK rfl 0 rfl dX3_writeBandHead_1 ?_
  refine gf_X3_31 hK (by decide) rfl (q := 20) rfl rfl dX3_writeBandHead_2 ?_
  refine TT_iload_n hK rfl 1 rfl dX3_writeBandHead_5 ?_
  refine TT_iald hK (o := 20) (n := 10) (by decide) rfl (by first | omega | (simp [up, setR] <;> omega)) (by first | omega | (simp [up, setR] <;> omega)) (v := (h 20) b) rfl dX3_writeBandHead_6 ?_
  have r1 := ty_20 (i := b) (v := (h 20) b) hT rfl (by omega) (by omega)
  refine TT_isub hK dX3_writeBandHead_7 ?_
  refine TT_istore hK (lv' := [(4, vI (q - ((h 20) b))), (0, vR 7), (1, vI b), (2, vI q), (3, vR 5)]) (by decide) rfl dX3_writeBandHead_8 ?_
  refine TT_aload_n hK rfl 4 rfl dX3_writeBandHead_10 ?_
  refine TT_iload hK 0 rfl dX3_writeBandHead_11 ?_
  refine TT_if_le hK (tgt := 20) (irm (by omega) (by omega)) dX3_writeBandHead_13 (by decide) (fun hb13_2 => ?_) (fun hb13_2 => ?_)
  · refine TT_iconst hK dX3_writeBandHead_20 ?_
    refine TT_iconst hK dX3_writeBandHead_21 ?_
    have e3_5_1 : h 5 1 = (h 5) 1 := rfl
    have e4_5_2 : h 5 2 = (h 5) 2 := rfl
    refine iv_X3_207 hK (s_putBits5_e s 0 1 h hT (by first | omega | (simp [up, setR] <;> omega)) (by first | omega | (simp [up, setR] <;> omega)) (by rewrite [e3_5_1, e4_5_2]; exact hcb) (by exact hpq) (by first | omega | (simp [up, setR] <;> omega)) (by first | omega | (simp [up, setR] <;> omega))) (by decide) rfl ⟨by decide, by decide⟩ (by decide) rfl rfl (Nat.le_of_ble_eq_true rfl) ⟨by decide, by decide⟩ dX3_writeBandHead_22 ?_
    intro r9 g22_5 hp9
    obtain ⟨⟨hT_5, hG_5⟩, hr9, pb_5⟩ := hp9
    rw [hr9]
    have hF_5 : FR [5, 6, 21] h g22_5 := FR_tr hF hG_5 (by decide)
    have pb_at22 := pb_5
    show TT K ly 0 0 25 [(4, vI (q - ((h 20) b))), (0, vR 7), (1, vI b), (2, vI q), (3, vR 5)] [] g22_5
    refine TT_iload hK 0 rfl dX3_writeBandHead_25 ?_
    refine TT_if_gt hK (tgt := 31) (irm (by omega) (by omega)) dX3_writeBandHead_27 (by decide) (fun hb27_6 => ?_) (fun hb27_6 => ?_)
    · exfalso; omega
    · refine TT_vret hK hQ ?_ dX3_writeBandHead_30
      have e7_5_1 : g22_5 5 1 = (g22_5 5) 1 := rfl
      have e8_5_2 : g22_5 5 2 = (g22_5 5) 2 := rfl
      have e9_21 : g22_5 21 = h 21 := (hG_5 21 (by decide))
      exact ⟨⟨hT_5, hF_5⟩, rfl, (by rewrite [e7_5_1, e8_5_2]; unfold hdS; first | (rw [if_pos (by omega)]; exact pb_at22.1)), (by rewrite [e9_21]; unfold wdS; first | (rw [if_pos (by omega)]; exact fup_fs.symm))⟩
  · refine TT_iconst hK dX3_writeBandHead_16 ?_
    refine TT_goto hK (tgt := 21) dX3_writeBandHead_17 (by decide) ?_
    refine TT_iconst hK dX3_writeBandHead_21 ?_
    have e10_5_1 : h 5 1 = (h 5) 1 := rfl
    have e11_5_2 : h 5 2 = (h 5) 2 := rfl
    refine iv_X3_207 hK (s_putBits5_e s 1 1 h hT (by first | omega | (simp [up, setR] <;> omega)) (by first | omega | (simp [up, setR] <;> omega)) (by rewrite [e10_5_1, e11_5_2]; exact hcb) (by exact hpq) (by first | omega | (simp [up, setR] <;> omega)) (by first | omega | (simp [up, setR] <;> omega))) (by decide) rfl ⟨by decide, by decide⟩ (by decide) rfl rfl (Nat.le_of_ble_eq_true rfl) ⟨by decide, by decide⟩ dX3_writeBandHead_22 ?_
    intro r9 g22_12 hp9
    obtain ⟨⟨hT_12, hG_12⟩, hr9, pb_12⟩ := hp9
    rw [hr9]
    have hF_12 : FR [5, 6, 21] h g22_12 := FR_tr hF hG_12 (by decide)
    have pb_at22 := pb_12
    show TT K ly 0 0 25 [(4, vI (q - ((h 20) b))), (0, vR 7), (1, vI b), (2, vI q), (3, vR 5)] [] g22_12
    refine TT_iload hK 0 rfl dX3_writeBandHead_25 ?_
    refine TT_if_gt hK (tgt := 31) (irm (by omega) (by omega)) dX3_writeBandHead_27 (by decide) (fun hb27_13 => ?_) (fun hb27_13 => ?_)
    · have bn9 := bl_n (n := (q - h 20 b)) (by omega)
      have bz9 := bl_10 (v := (h 19 (35 * b + q) - h 19 (35 * b + h 20 b))) (by omega)
      have gg9 := grS_w (w := h 21 b) (sz := (h 19 (35 * b + q) - h 19 (35 * b + h 20 b))) (n := (q - h 20 b)) (by omega) (by omega) (by omega)
      have zz4 := onesS_n (grS (h 19 (35 * b + q) - h 19 (35 * b + h 20 b)) (h 21 b) (bl (q - h 20 b) - 1)).toNat zz3.1
      have zz5 := putS_n 1 0 zz4.1
      have J51_14 : ∀ (w51_14 : Hp_), TY w51_14 → FR [5, 6, 21] h w51_14 → ((w51_14 21) = h 21) → (CBR (w51_14 5 1) (w51_14 5 2) (w51_14 6) (hd2 (h 16 b) (h 20 b) s)) → TT K ly 0 0 51 [(0, vR 7), (1, vI b), (2, vI q), (3, vR 5), (4, vI (q - ((h 20) b)))] [] w51_14 := by
        intro w51_14 hT51_14 hF51_14 k21 hC2
        refine TT_iload hK 4 rfl dX3_writeBandHead_51 ?_
        refine TT_aload_n hK rfl 3 rfl dX3_writeBandHead_53 ?_
        have e15_5_1 : w51_14 5 1 = (w51_14 5) 1 := rfl
        have e16_5_2 : w51_14 5 2 = (w51_14 5) 2 := rfl
        refine iv_X3_224 hK (s_writeCount5_e (hd2 (h 16 b) (h 20 b) s) (q - ((h 20) b)) w51_14 hT51_14 (by first | omega | (simp [up, setR] <;> omega)) (by rewrite [e15_5_1, e16_5_2]; exact hC2) (by exact zz2.1) (by first | omega | (simp [up, setR] <;> omega)) (by first | omega | (simp [up, setR] <;> omega))) ⟨by decide, by decide⟩ (by decide) rfl rfl (Nat.le_of_ble_eq_true rfl) ⟨by decide, by decide⟩ dX3_writeBandHead_54 ?_
        intro r9 g54_17 hp9
        obtain ⟨⟨hT_17, hG_17⟩, hr9, wc_17⟩ := hp9
        rw [hr9]
        have hF_17 : FR [5, 6, 21] h g54_17 := FR_tr hF51_14 hG_17 (by decide)
        have wc_at54 := wc_17
        show TT K ly 0 0 57 [(0, vR 7), (1, vI b), (2, vI q), (3, vR 5), (4, vI (q - ((h 20) b)))] [] g54_17
        refine TT_aload_n hK rfl 0 rfl dX3_writeBandHead_57 ?_
        refine TT_iload_n hK rfl 1 rfl dX3_writeBandHead_58 ?_
        refine TT_iload_n hK rfl 2 rfl dX3_writeBandHead_59 ?_
        refine iv_X3_220 hK (s_leastLength_e b q g54_17 hT_17 (by first | omega | (simp [up, setR] <;> omega)) (by first | omega | (simp [up, setR] <;> omega))) (by decide) rfl ⟨by decide, by decide⟩ (by decide) rfl rfl (Nat.le_of_ble_eq_true rfl) ⟨by decide, by decide⟩ dX3_writeBandHead_60 ?_
        intro r9 g60_18 hp9
        obtain ⟨⟨hT_18, hG_18⟩, z60_18, hr9, hz_18, q1_18⟩ := hp9
        rw [hr9]
        have hF_18 : FR [5, 6, 21] h g60_18 := FR_tr hF_17 hG_18 (by decide)
        rw [show g54_17 16 = h 16 from ((hG_17 16 (by decide))).trans (hF51_14 16 (by decide))] at q1_18
        rw [show g54_17 19 = h 19 from ((hG_17 19 (by decide))).trans (hF51_14 19 (by decide))] at q1_18
        rw [show g54_17 8 10 = (h 8) 10 from rd_ (((hG_17 8 (by decide))).trans (hF51_14 8 (by decide))) rfl] at q1_18
        have q1_at60 := q1_18
        show TT K ly 0 0 63 [(0, vR 7), (1, vI b), (2, vI q), (3, vR 5), (4, vI (q - ((h 20) b)))] [vI z60_18] g60_18
        refine TT_cgI (b := h 19 (35 * b + q)) (by exact q1_at60.trans (LLV_e (by omega))) ?_
        refine TT_aload_n hK rfl 0 rfl dX3_writeBandHead_63 ?_
        refine TT_iload_n hK rfl 1 rfl dX3_writeBandHead_64 ?_
        refine TT_aload_n hK rfl 0 rfl dX3_writeBandHead_65 ?_
        refine gf_X3_31 hK (by decide) rfl (q := 20) rfl rfl dX3_writeBandHead_66 ?_
        refine TT_iload_n hK rfl 1 rfl dX3_writeBandHead_69 ?_
        refine TT_iald hK (o := 20) (n := 10) (by decide) rfl (by first | omega | (simp [up, setR] <;> omega)) (by first | omega | (simp [up, setR] <;> omega)) (v := (h 20) b) (rd_ (((hG_18 20 (by decide))).trans (((hG_17 20 (by decide))).trans (hF51_14 20 (by decide)))) rfl) dX3_writeBandHead_70 ?_
        have r19 := ty_20 (i := b) (v := (h 20) b) hT_18 (rd_ (((hG_18 20 (by decide))).trans (((hG_17 20 (by decide))).trans (hF51_14 20 (by decide)))) rfl) (by omega) (by omega)
        refine iv_X3_220 hK (s_leastLength_e b ((h 20) b) g60_18 hT_18 (by first | omega | (simp [up, setR] <;> omega)) (by first | omega | (simp [up, setR] <;> omega))) (by decide) rfl ⟨by decide, by decide⟩ (by decide) rfl rfl (Nat.le_of_ble_eq_true rfl) ⟨by decide, by decide⟩ dX3_writeBandHead_71 ?_
        intro r9 g71_20 hp9
        obtain ⟨⟨hT_20, hG_20⟩, z71_20, hr9, hz_20, q1_20⟩ := hp9
        rw [hr9]
        have hF_20 : FR [5, 6, 21] h g71_20 := FR_tr hF_18 hG_20 (by decide)
        rw [show g60_18 16 = h 16 from ((hG_18 16 (by decide))).trans (((hG_17 16 (by decide))).trans (hF51_14 16 (by decide)))] at q1_20
        rw [show g60_18 19 = h 19 from ((hG_18 19 (by decide))).trans (((hG_17 19 (by decide))).trans (hF51_14 19 (by decide)))] at q1_20
        rw [show g60_18 8 10 = (h 8) 10 from rd_ (((hG_18 8 (by decide))).trans (((hG_17 8 (by decide))).trans (hF51_14 8 (by decide)))) rfl] at q1_20
        have q1_at71 := q1_20
        show TT K ly 0 0 74 [(0, vR 7), (1, vI b), (2, vI q), (3, vR 5), (4, vI (q - ((h 20) b)))] [vI z71_20, vI (h 19 (35 * b + q))] g71_20
        refine TT_cgI (b := h 19 (35 * b + h 20 b)) (by exact q1_at71.trans (LLV_e (by omega))) ?_
        refine TT_isub hK dX3_writeBandHead_74 ?_
        refine TT_istore hK (lv' := [(5, vI ((h 19 (35 * b + q)) - (h 19 (35 * b + h 20 b)))), (0, vR 7), (1, vI b), (2, vI q), (3, vR 5), (4, vI (q - ((h 20) b)))]) (by decide) rfl dX3_writeBandHead_75 ?_
        refine TT_iload hK 5 rfl dX3_writeBandHead_77 ?_
        refine iv_X3_147 hK (s_bitsOf_e (q - ((h 20) b)) g71_20 hT_20 (by first | omega | (simp [up, setR] <;> omega)) (by first | omega | (simp [up, setR] <;> omega))) ⟨by decide, by decide⟩ (by decide) rfl rfl (Nat.le_of_ble_eq_true rfl) ⟨by decide, by decide⟩ dX3_writeBandHead_79 ?_
        intro r9 g79_21 hp9
        obtain ⟨⟨hT_21, hG_21⟩, z79_21, hr9, hz_21, e_21⟩ := hp9
        rw [hr9]
        have hF_21 : FR [5, 6, 21] h g79_21 := FR_tr hF_20 hG_21 (by decide)
        have e_at79 := e_21
        show TT K ly 0 0 82 [(5, vI ((h 19 (35 * b + q)) - (h 19 (35 * b + h 20 b)))), (0, vR 7), (1, vI b), (2, vI q), (3, vR 5), (4, vI (q - ((h 20) b)))] [vI z79_21] g79_21
        refine TT_cgI (b := bl (q - h 20 b)) (by exact e_at79) ?_
        refine TT_iconst hK dX3_writeBandHead_82 ?_
        refine TT_isub hK dX3_writeBandHead_83 ?_
        refine TT_istore hK (lv' := [(6, vI ((bl (q - h 20 b)) - 1)), (5, vI ((h 19 (35 * b + q)) - (h 19 (35 * b + h 20 b)))), (0, vR 7), (1, vI b), (2, vI q), (3, vR 5), (4, vI (q - ((h 20) b)))]) (by decide) rfl dX3_writeBandHead_84 ?_
        refine TT_iconst hK dX3_writeBandHead_86 ?_
        refine TT_iload hK 1 rfl dX3_writeBandHead_87 ?_
        refine iv_X3_147 hK (s_bitsOf_e ((h 19 (35 * b + q)) - (h 19 (35 * b + h 20 b))) g79_21 hT_21 (by first | omega | (simp [up, setR] <;> omega)) (by first | omega | (simp [up, setR] <;> omega))) ⟨by decide, by decide⟩ (by decide) rfl rfl (Nat.le_of_ble_eq_true rfl) ⟨by decide, by decide⟩ dX3_writeBandHead_89 ?_
        intro r9 g89_22 hp9
        obtain ⟨⟨hT_22, hG_22⟩, z89_22, hr9, hz_22, e_22⟩ := hp9
        rw [hr9]
        have hF_22 : FR [5, 6, 21] h g89_22 := FR_tr hF_21 hG_22 (by decide)
        have e_at89 := e_22
        show TT K ly 0 0 92 [(6, vI ((bl (q - h 20 b)) - 1)), (5, vI ((h 19 (35 * b + q)) - (h 19 (35 * b + h 20 b)))), (0, vR 7), (1, vI b), (2, vI q), (3, vR 5), (4, vI (q - ((h 20) b)))] [vI z89_22, vI 0] g89_22
        refine TT_cgI (b := bl (h 19 (35 * b + q) - h 19 (35 * b + h 20 b))) (by exact e_at89) ?_
        refine TT_aload_n hK rfl 2 rfl dX3_writeBandHead_92 ?_
        refine gf_X3_34 hK (by decide) rfl (q := 21) rfl rfl dX3_writeBandHead_93 ?_
        refine TT_iload_n hK rfl 3 rfl dX3_writeBandHead_96 ?_
        refine TT_iald hK (o := 21) (n := 10) (by decide) rfl (by first | omega | (simp [up, setR] <;> omega)) (by first | omega | (simp [up, setR] <;> omega)) (v := (w51_14 21) b) (rd_ (((hG_22 21 (by decide))).trans (((hG_21 21 (by decide))).trans (((hG_20 21 (by decide))).trans (((hG_18 21 (by decide))).trans (hG_17 21 (by decide)))))) rfl) dX3_writeBandHead_97 ?_
        have r23 := ty_21 (i := b) (v := (w51_14 21) b) hT_22 (rd_ (((hG_22 21 (by decide))).trans (((hG_21 21 (by decide))).trans (((hG_20 21 (by decide))).trans (((hG_18 21 (by decide))).trans (hG_17 21 (by decide)))))) rfl) (by omega) (by omega)
        refine TT_cgI (b := h 21 b) (by exact congrFun k21 b) ?_
        refine TT_isub hK dX3_writeBandHead_98 ?_
        refine TT_iload hK 0 rfl dX3_writeBandHead_99 ?_
        refine TT_isub hK dX3_writeBandHead_101 ?_
        refine TT_mmax hK (by decide) (irm (by omega) (by omega)) iw_X3_143 (by decide) (Nat.le_of_ble_eq_true rfl) ⟨by decide, by decide⟩ dX3_writeBandHead_102 ?_
        refine TT_cgI (b := (grS (h 19 (35 * b + q) - h 19 (35 * b + h 20 b)) (h 21 b) (bl (q - h 20 b) - 1))) (by rfl) ?_
        refine TT_istore hK (lv' := [(7, vI (grS (h 19 (35 * b + q) - h 19 (35 * b + h 20 b)) (h 21 b) (bl (q - h 20 b) - 1))), (6, vI ((bl (q - h 20 b)) - 1)), (5, vI ((h 19 (35 * b + q)) - (h 19 (35 * b + h 20 b)))), (0, vR 7), (1, vI b), (2, vI q), (3, vR 5), (4, vI (q - ((h 20) b)))]) (by decide) rfl dX3_writeBandHead_105 ?_
        refine TT_aload_n hK rfl 3 rfl dX3_writeBandHead_107 ?_
        refine gf_X3_34 hK (by decide) rfl (q := 21) rfl rfl dX3_writeBandHead_108 ?_
        refine TT_iload_n hK rfl 4 rfl dX3_writeBandHead_111 ?_
        refine TT_dup2 hK rfl rfl dX3_writeBandHead_112 ?_
        refine TT_iald hK (o := 21) (n := 10) (by decide) rfl (by first | omega | (simp [up, setR] <;> omega)) (by first | omega | (simp [up, setR] <;> omega)) (v := (w51_14 21) b) (rd_ (((hG_22 21 (by decide))).trans (((hG_21 21 (by decide))).trans (((hG_20 21 (by decide))).trans (((hG_18 21 (by decide))).trans (hG_17 21 (by decide)))))) rfl) dX3_writeBandHead_113 ?_
        refine TT_cgI (b := h 21 b) (by exact congrFun k21 b) ?_
        refine TT_iload hK 0 rfl dX3_writeBandHead_114 ?_
        refine TT_iadd hK dX3_writeBandHead_116 ?_
        refine TT_iast hK (o := 21) (n := 10) (by decide) rfl (by omega) (by omega) dX3_writeBandHead_117 ?_
        refine TT_hp (h' := setO g89_22 21 (fup (w51_14 21) b ((h 21 b) + (grS (h 19 (35 * b + q) - h 19 (35 * b + h 20 b)) (h 21 b) (bl (q - h 20 b) - 1))))) (up_can (((hG_22 21 (by decide))).trans (((hG_21 21 (by decide))).trans (((hG_20 21 (by decide))).trans (((hG_18 21 (by decide))).trans (hG_17 21 (by decide)))))) rfl rfl) ?_
        have hT_24 : TY (setO g89_22 21 (fup (w51_14 21) b ((h 21 b) + (grS (h 19 (35 * b + q) - h 19 (35 * b + h 20 b)) (h 21 b) (bl (q - h 20 b) - 1))))) := tu_21 hT_22 (show up g89_22 21 b ((h 21 b) + (grS (h 19 (35 * b + q) - h 19 (35 * b + h 20 b)) (h 21 b) (bl (q - h 20 b) - 1))) = (setO g89_22 21 (fup (w51_14 21) b ((h 21 b) + (grS (h 19 (35 * b + q) - h 19 (35 * b + h 20 b)) (h 21 b) (bl (q - h 20 b) - 1))))) from up_can (((hG_22 21 (by decide))).trans (((hG_21 21 (by decide))).trans (((hG_20 21 (by decide))).trans (((hG_18 21 (by decide))).trans (hG_17 21 (by decide)))))) rfl rfl) (by omega)
        have hF_24 : FR [5, 6, 21] h (setO g89_22 21 (fup (w51_14 21) b ((h 21 b) + (grS (h 19 (35 * b + q) - h 19 (35 * b + h 20 b)) (h 21 b) (bl (q - h 20 b) - 1))))) := FR_up (show up g89_22 21 b ((h 21 b) + (grS (h 19 (35 * b + q) - h 19 (35 * b + h 20 b)) (h 21 b) (bl (q - h 20 b) - 1))) = (setO g89_22 21 (fup (w51_14 21) b ((h 21 b) + (grS (h 19 (35 * b + q) - h 19 (35 * b + h 20 b)) (h 21 b) (bl (q - h 20 b) - 1))))) from up_can (((hG_22 21 (by decide))).trans (((hG_21 21 (by decide))).trans (((hG_20 21 (by decide))).trans (((hG_18 21 (by decide))).trans (hG_17 21 (by decide)))))) rfl rfl) hF_22 (by decide)
        refine TT_iconst hK dX3_writeBandHead_118 ?_
        refine TT_istore hK (lv' := [(8, vI 0), (7, vI (grS (h 19 (35 * b + q) - h 19 (35 * b + h 20 b)) (h 21 b) (bl (q - h 20 b) - 1))), (6, vI ((bl (q - h 20 b)) - 1)), (5, vI ((h 19 (35 * b + q)) - (h 19 (35 * b + h 20 b)))), (0, vR 7), (1, vI b), (2, vI q), (3, vR 5), (4, vI (q - ((h 20) b)))]) (by decide) rfl dX3_writeBandHead_119 ?_
        have L121_25 : ∀ (k25 : Nat) (k : Int) (w121_25 : Hp_), TY w121_25 → FR [5, 6, 21] h w121_25 → (0 ≤ k ∧ k ≤ (grS (h 19 (35 * b + q) - h 19 (35 * b + h 20 b)) (h 21 b) (bl (q - h 20 b) - 1))) → ((w121_25 21) = fup (h 21) b (h 21 b + (grS (h 19 (35 * b + q) - h 19 (35 * b + h 20 b)) (h 21 b) (bl (q - h 20 b) - 1)))) → (CBR (w121_25 5 1) (w121_25 5 2) (w121_25 6) (onesS k.toNat (cntS (q - h 20 b) (hd2 (h 16 b) (h 20 b) s)))) → ((7 : Int) - k).toNat < k25 → TT K ly 0 0 121 [(0, vR 7), (1, vI b), (2, vI q), (3, vR 5), (4, vI (q - ((h 20) b))), (5, vI ((h 19 (35 * b + q)) - (h 19 (35 * b + h 20 b)))), (6, vI ((bl (q - h 20 b)) - 1)), (7, vI (grS (h 19 (35 * b + q) - h 19 (35 * b + h 20 b)) (h 21 b) (bl (q - h 20 b) - 1))), (8, vI k)] [] w121_25 := by
          intro k25
          induction k25 with
          | zero => intro k w121_25 hT121_25 hF121_25 hk k21 hC4 hk25; exact absurd hk25 (Nat.not_lt_zero _)
          | succ k25 ih25 =>
            intro k w121_25 hT121_25 hF121_25 hk k21 hC4 hk25
            refine TT_iload hK 8 rfl dX3_writeBandHead_121 ?_
            refine TT_iload hK 7 rfl dX3_writeBandHead_123 ?_
            refine TT_icmp_ge hK (tgt := 140) (irm (by omega) (by omega)) (irm (by omega) (by omega)) dX3_writeBandHead_125 (by decide) (fun hb125_26 => ?_) (fun hb125_26 => ?_)
            · refine TT_aload_n hK rfl 3 rfl dX3_writeBandHead_140 ?_
              refine TT_iconst hK dX3_writeBandHead_141 ?_
              refine TT_iconst hK dX3_writeBandHead_142 ?_
              have e27_5_1 : w121_25 5 1 = (w121_25 5) 1 := rfl
              have e28_5_2 : w121_25 5 2 = (w121_25 5) 2 := rfl
              refine iv_X3_207 hK (s_putBits5_e (onesS (grS (h 19 (35 * b + q) - h 19 (35 * b + h 20 b)) (h 21 b) (bl (q - h 20 b) - 1)).toNat (cntS (q - h 20 b) (hd2 (h 16 b) (h 20 b) s))) 0 1 w121_25 hT121_25 (by first | omega | (simp [up, setR] <;> omega)) (by first | omega | (simp [up, setR] <;> omega)) (by rewrite [e27_5_1, e28_5_2]; have e9 : k = (grS (h 19 (35 * b + q) - h 19 (35 * b + h 20 b)) (h 21 b) (bl (q - h 20 b) - 1)) := (by omega); rw [← e9]; exact hC4) (by exact zz4.1) (by omega) (by first | omega | (simp [up, setR] <;> omega))) (by decide) rfl ⟨by decide, by decide⟩ (by decide) rfl rfl (Nat.le_of_ble_eq_true rfl) ⟨by decide, by decide⟩ dX3_writeBandHead_143 ?_
              intro r9 g143_29 hp9
              obtain ⟨⟨hT_29, hG_29⟩, hr9, pb_29⟩ := hp9
              rw [hr9]
              have hF_29 : FR [5, 6, 21] h g143_29 := FR_tr hF121_25 hG_29 (by decide)
              have pb_at143 := pb_29
              show TT K ly 0 0 146 [(0, vR 7), (1, vI b), (2, vI q), (3, vR 5), (4, vI (q - ((h 20) b))), (5, vI ((h 19 (35 * b + q)) - (h 19 (35 * b + h 20 b)))), (6, vI ((bl (q - h 20 b)) - 1)), (7, vI (grS (h 19 (35 * b + q) - h 19 (35 * b + h 20 b)) (h 21 b) (bl (q - h 20 b) - 1))), (8, vI k)] [] g143_29
              refine TT_aload_n hK rfl 3 rfl dX3_writeBandHead_146 ?_
              refine TT_iload hK 5 rfl dX3_writeBandHead_147 ?_
              refine TT_aload_n hK rfl 0 rfl dX3_writeBandHead_149 ?_
              refine gf_X3_34 hK (by decide) rfl (q := 21) rfl rfl dX3_writeBandHead_150 ?_
              refine TT_iload_n hK rfl 1 rfl dX3_writeBandHead_153 ?_
              refine TT_iald hK (o := 21) (n := 10) (by decide) rfl (by first | omega | (simp [up, setR] <;> omega)) (by first | omega | (simp [up, setR] <;> omega)) (v := (w121_25 21) b) (rd_ (hG_29 21 (by decide)) rfl) dX3_writeBandHead_154 ?_
              have r30 := ty_21 (i := b) (v := (w121_25 21) b) hT_29 (rd_ (hG_29 21 (by decide)) rfl) (by omega) (by omega)
              refine TT_cgI (b := h 21 b + (grS (h 19 (35 * b + q) - h 19 (35 * b + h 20 b)) (h 21 b) (bl (q - h 20 b) - 1))) (by exact (congrFun k21 b).trans (fup_eq _ _ _)) ?_
              refine TT_iload hK 6 rfl dX3_writeBandHead_155 ?_
              refine TT_iadd hK dX3_writeBandHead_157 ?_
              have e31_5_1 : g143_29 5 1 = (g143_29 5) 1 := rfl
              have e32_5_2 : g143_29 5 2 = (g143_29 5) 2 := rfl
              refine iv_X3_207 hK (s_putBits5_e (putS 0 1 (onesS (grS (h 19 (35 * b + q) - h 19 (35 * b + h 20 b)) (h 21 b) (bl (q - h 20 b) - 1)).toNat (cntS (q - h 20 b) (hd2 (h 16 b) (h 20 b) s)))) ((h 19 (35 * b + q)) - (h 19 (35 * b + h 20 b))) ((h 21 b + (grS (h 19 (35 * b + q) - h 19 (35 * b + h 20 b)) (h 21 b) (bl (q - h 20 b) - 1))) + ((bl (q - h 20 b)) - 1)) g143_29 hT_29 (by first | omega | (simp [up, setR] <;> omega)) (by first | omega | (simp [up, setR] <;> omega)) (by rewrite [e31_5_1, e32_5_2]; exact pb_at143.1) (by exact zz5.1) (by omega) (by first | omega | (simp [up, setR] <;> omega))) (by decide) rfl ⟨by decide, by decide⟩ (by decide) rfl rfl (Nat.le_of_ble_eq_true rfl) ⟨by decide, by decide⟩ dX3_writeBandHead_158 ?_
              intro r9 g158_33 hp9
              obtain ⟨⟨hT_33, hG_33⟩, hr9, pb_33⟩ := hp9
              rw [hr9]
              have hF_33 : FR [5, 6, 21] h g158_33 := FR_tr hF_29 hG_33 (by decide)
              have pb_at158 := pb_33
              show TT K ly 0 0 161 [(0, vR 7), (1, vI b), (2, vI q), (3, vR 5), (4, vI (q - ((h 20) b))), (5, vI ((h 19 (35 * b + q)) - (h 19 (35 * b + h 20 b)))), (6, vI ((bl (q - h 20 b)) - 1)), (7, vI (grS (h 19 (35 * b + q) - h 19 (35 * b + h 20 b)) (h 21 b) (bl (q - h 20 b) - 1))), (8, vI k)] [] g158_33
              refine TT_vret hK hQ ?_ dX3_writeBandHead_161
              have e34_5_1 : g158_33 5 1 = (g158_33 5) 1 := rfl
              have e35_5_2 : g158_33 5 2 = (g158_33 5) 2 := rfl
              have e36_21 : g158_33 21 = w121_25 21 := ((hG_33 21 (by decide))).trans (hG_29 21 (by decide))
              exact ⟨⟨hT_33, hF_33⟩, rfl, (by rewrite [e34_5_1, e35_5_2]; unfold hdS; first | (rw [if_pos (by omega)]; exact pb_at22.1) | (rw [if_neg (by omega)]; exact pb_at158.1)), (by rewrite [e36_21]; unfold wdS; first | (rw [if_pos (by omega)]; exact fup_fs.symm) | (rw [if_neg (by omega)]; exact k21))⟩
            · refine TT_aload_n hK rfl 3 rfl dX3_writeBandHead_128 ?_
              refine TT_iconst hK dX3_writeBandHead_129 ?_
              refine TT_iconst hK dX3_writeBandHead_130 ?_
              have e37_5_1 : w121_25 5 1 = (w121_25 5) 1 := rfl
              have e38_5_2 : w121_25 5 2 = (w121_25 5) 2 := rfl
              refine iv_X3_207 hK (s_putBits5_e (onesS k.toNat (cntS (q - h 20 b) (hd2 (h 16 b) (h 20 b) s))) 1 1 w121_25 hT121_25 (by first | omega | (simp [up, setR] <;> omega)) (by first | omega | (simp [up, setR] <;> omega)) (by rewrite [e37_5_1, e38_5_2]; exact hC4) (by exact (onesS_n k.toNat zz3.1).1) (by have o9 := (onesS_n k.toNat zz3.1).2; omega) (by first | omega | (simp [up, setR] <;> omega))) (by decide) rfl ⟨by decide, by decide⟩ (by decide) rfl rfl (Nat.le_of_ble_eq_true rfl) ⟨by decide, by decide⟩ dX3_writeBandHead_131 ?_
              intro r9 g131_39 hp9
              obtain ⟨⟨hT_39, hG_39⟩, hr9, pb_39⟩ := hp9
              rw [hr9]
              have hF_39 : FR [5, 6, 21] h g131_39 := FR_tr hF121_25 hG_39 (by decide)
              have pb_at131 := pb_39
              show TT K ly 0 0 134 [(0, vR 7), (1, vI b), (2, vI q), (3, vR 5), (4, vI (q - ((h 20) b))), (5, vI ((h 19 (35 * b + q)) - (h 19 (35 * b + h 20 b)))), (6, vI ((bl (q - h 20 b)) - 1)), (7, vI (grS (h 19 (35 * b + q) - h 19 (35 * b + h 20 b)) (h 21 b) (bl (q - h 20 b) - 1))), (8, vI k)] [] g131_39
              refine TT_iinc hK (v := k + 1) (lv' := [(8, vI (k + 1)), (0, vR 7), (1, vI b), (2, vI q), (3, vR 5), (4, vI (q - ((h 20) b))), (5, vI ((h 19 (35 * b + q)) - (h 19 (35 * b + h 20 b)))), (6, vI ((bl (q - h 20 b)) - 1)), (7, vI (grS (h 19 (35 * b + q) - h 19 (35 * b + h 20 b)) (h 21 b) (bl (q - h 20 b) - 1)))]) 8 rfl rfl (by decide) rfl dX3_writeBandHead_134 ?_
              refine TT_goto hK (tgt := 121) dX3_writeBandHead_137 (by decide) ?_
              refine TT_sub [1, 2, 3, 4, 5, 6, 7, 8, 0] rfl ?_
              have e40_21 : g131_39 21 = w121_25 21 := (hG_39 21 (by decide))
              have e41_5_1 : g131_39 5 1 = (g131_39 5) 1 := rfl
              have e42_5_2 : g131_39 5 2 = (g131_39 5) 2 := rfl
              exact ih25 (k + 1) g131_39 hT_39 hF_39 (by first | omega | (simp [up, setR] <;> omega)) (by rewrite [e40_21]; exact k21) (by rewrite [e41_5_1, e42_5_2]; rw [show (k + 1).toNat = k.toNat + 1 by omega]; exact pb_at131.1) (by first | omega | (simp [up, setR] <;> omega))
        refine TT_sub [4, 5, 6, 7, 8, 3, 2, 1, 0] rfl ?_
        have e43_21 : (setO g89_22 21 (fup (w51_14 21) b ((h 21 b) + (grS (h 19 (35 * b + q) - h 19 (35 * b + h 20 b)) (h 21 b) (bl (q - h 20 b) - 1))))) 21 = fup (w51_14 21) b ((h 21 b) + (grS (h 19 (35 * b + q) - h 19 (35 * b + h 20 b)) (h 21 b) (bl (q - h 20 b) - 1))) := sOf_eq _ _ _
        have e44_5_1 : (setO g89_22 21 (fup (w51_14 21) b ((h 21 b) + (grS (h 19 (35 * b + q) - h 19 (35 * b + h 20 b)) (h 21 b) (bl (q - h 20 b) - 1))))) 5 1 = (g54_17 5) 1 := rd_ ((sOf_ne _ _ (by decide)).trans (((hG_22 5 (by decide))).trans (((hG_21 5 (by decide))).trans (((hG_20 5 (by decide))).trans (hG_18 5 (by decide)))))) rfl
        have e45_5_2 : (setO g89_22 21 (fup (w51_14 21) b ((h 21 b) + (grS (h 19 (35 * b + q) - h 19 (35 * b + h 20 b)) (h 21 b) (bl (q - h 20 b) - 1))))) 5 2 = (g54_17 5) 2 := rd_ ((sOf_ne _ _ (by decide)).trans (((hG_22 5 (by decide))).trans (((hG_21 5 (by decide))).trans (((hG_20 5 (by decide))).trans (hG_18 5 (by decide)))))) rfl
        have e46_6 : (setO g89_22 21 (fup (w51_14 21) b ((h 21 b) + (grS (h 19 (35 * b + q) - h 19 (35 * b + h 20 b)) (h 21 b) (bl (q - h 20 b) - 1))))) 6 = g54_17 6 := (sOf_ne _ _ (by decide)).trans (((hG_22 6 (by decide))).trans (((hG_21 6 (by decide))).trans (((hG_20 6 (by decide))).trans (hG_18 6 (by decide)))))
        exact L121_25 ((((7 : Int) - 0).toNat) + 1) 0 (setO g89_22 21 (fup (w51_14 21) b ((h 21 b) + (grS (h 19 (35 * b + q) - h 19 (35 * b + h 20 b)) (h 21 b) (bl (q - h 20 b) - 1))))) hT_24 hF_24 (by first | omega | (simp [up, setR] <;> omega)) (by rewrite [e43_21]; rw [k21]) (by rewrite [e44_5_1, e45_5_2, e46_6]; exact wc_at54.1) (Nat.lt_succ_self _)
      refine TT_aload_n hK rfl 1 rfl dX3_writeBandHead_31 ?_
      refine gf_X3_31 hK (by decide) rfl (q := 20) rfl rfl dX3_writeBandHead_32 ?_
      refine TT_iload_n hK rfl 2 rfl dX3_writeBandHead_35 ?_
      refine TT_iald hK (o := 20) (n := 10) (by decide) rfl (by first | omega | (simp [up, setR] <;> omega)) (by first | omega | (simp [up, setR] <;> omega)) (v := (h 20) b) (rd_ (hG_12 20 (by decide)) rfl) dX3_writeBandHead_36 ?_
      refine TT_if_ne hK (tgt := 51) (irm (by omega) (by omega)) dX3_writeBandHead_37 (by decide) (fun hb37_47 => ?_) (fun hb37_47 => ?_)
      · refine TT_sub [1, 2, 3, 4, 0] rfl ?_
        have e48_21 : g22_12 21 = h 21 := (hG_12 21 (by decide))
        have e49_5_1 : g22_12 5 1 = (g22_12 5) 1 := rfl
        have e50_5_2 : g22_12 5 2 = (g22_12 5) 2 := rfl
        exact J51_14 g22_12 hT_12 hF_12 (by rewrite [e48_21]; first | rfl) (by rewrite [e49_5_1, e50_5_2]; unfold hd2; first | (rw [if_neg (by omega)]; exact pb_at22.1))
      · refine TT_aload_n hK rfl 4 rfl dX3_writeBandHead_40 ?_
        refine TT_aload_n hK rfl 1 rfl dX3_writeBandHead_41 ?_
        refine gf_X3_18 hK (by decide) rfl (q := 16) rfl rfl dX3_writeBandHead_42 ?_
        refine TT_iload_n hK rfl 2 rfl dX3_writeBandHead_45 ?_
        refine TT_iald hK (o := 16) (n := 10) (by decide) rfl (by first | omega | (simp [up, setR] <;> omega)) (by first | omega | (simp [up, setR] <;> omega)) (v := (h 16) b) (rd_ (hG_12 16 (by decide)) rfl) dX3_writeBandHead_46 ?_
        have r51 := ty_16 (i := b) (v := (h 16) b) hT_12 (rd_ (hG_12 16 (by decide)) rfl) (by omega) (by omega)
        refine TT_iconst hK dX3_writeBandHead_47 ?_
        have e52_5_1 : g22_12 5 1 = (g22_12 5) 1 := rfl
        have e53_5_2 : g22_12 5 2 = (g22_12 5) 2 := rfl
        refine iv_X3_207 hK (s_putBits5_e (putS 1 1 s) ((h 16) b) 4 g22_12 hT_12 (by first | omega | (simp [up, setR] <;> omega)) (by first | omega | (simp [up, setR] <;> omega)) (by rewrite [e52_5_1, e53_5_2]; exact pb_at22.1) (by exact pb_at22.2) (by first | omega | (simp [up, setR] <;> omega)) (by first | omega | (simp [up, setR] <;> omega))) (by decide) rfl ⟨by decide, by decide⟩ (by decide) rfl rfl (Nat.le_of_ble_eq_true rfl) ⟨by decide, by decide⟩ dX3_writeBandHead_48 ?_
        intro r9 g48_54 hp9
        obtain ⟨⟨hT_54, hG_54⟩, hr9, pb_54⟩ := hp9
        rw [hr9]
        have hF_54 : FR [5, 6, 21] h g48_54 := FR_tr hF_12 hG_54 (by decide)
        have pb_at48 := pb_54
        show TT K ly 0 0 51 [(4, vI (q - ((h 20) b))), (0, vR 7), (1, vI b), (2, vI q), (3, vR 5)] [] g48_54
        refine TT_sub [1, 2, 3, 4, 0] rfl ?_
        have e55_21 : g48_54 21 = h 21 := ((hG_54 21 (by decide))).trans (hG_12 21 (by decide))
        have e56_5_1 : g48_54 5 1 = (g48_54 5) 1 := rfl
        have e57_5_2 : g48_54 5 2 = (g48_54 5) 2 := rfl
        exact J51_14 g48_54 hT_54 hF_54 (by rewrite [e55_21]; first | rfl) (by rewrite [e56_5_1, e57_5_2]; unfold hd2; first | (rw [if_pos (by omega)]; exact pb_at48.1) | (rw [if_neg (by omega)]; exact pb_at22.1))
    · exfalso; omega
set_option maxRecDepth 20000 in
theorem s_log_e (n : Int) (h : Hp_) (hT : TY h) (hn : 0 ≤ n ∧ n ≤ 64) : Ctr yX12_log cX12_log 2 (some .int) (rmd 0) ly ly 0 0 [vI n] h (fun r h' => (TY h' ∧ FRM [] [] h h') ∧ ∃ z : Int, r = some (vI z) ∧ (0 ≤ z ∧ z ≤ 6) ∧ (1 ≤ n → z = bl n - 1)) := by
  refine Ctr_of (by decide) (Nat.le_of_ble_eq_true rfl) ⟨Nat.le_refl _, Nat.le_refl _⟩ (fun K hK hQ _ => ?_)
  show TT K ly 0 0 0 [(0, vI n)] [] h
  have hF : FRM [] [] h h := FRM_rf _ _ _
  refine TT_iconst hK dX12_log_0 ?_
  refine TT_istore_n hK rfl (lv' := [(1, vI 0), (0, vI n)]) (by decide) rfl dX12_log_1 ?_
  have L2_1 : ∀ (k1 : Nat) (l : Int) (w2_1 : Hp_), TY w2_1 → FRM [] [] h w2_1 → (0 ≤ l ∧ l ≤ 6) → (1 ≤ n → (2 : Int) ^ l.toNat ≤ n) → ((6 : Int) - l).toNat < k1 → TT K ly 0 0 2 [(0, vI n), (1, vI l)] [] w2_1 := by
    intro k1
    induction k1 with
    | zero => intro l w2_1 hT2_1 hF2_1 hl hlg hk1; exact absurd hk1 (Nat.not_lt_zero _)
    | succ k1 ih1 =>
      intro l w2_1 hT2_1 hF2_1 hl hlg hk1
      refine TT_iload_n hK rfl 0 rfl dX12_log_2 ?_
      refine TT_iconst hK dX12_log_3 ?_
      refine TT_iload_n hK rfl 1 rfl dX12_log_4 ?_
      refine TT_iconst hK dX12_log_5 ?_
      refine TT_iadd hK dX12_log_6 ?_
      refine TT_ishl hK (by omega) (by omega) dX12_log_7 ?_
      refine TT_nmI (fun q9 hq9 => ?_)
      refine TT_icmp_gt hK (tgt := 20) (irm (by have k9 := lgP hl hq9; omega) (by have k9 := lgP hl hq9; omega)) (irm (by have k9 := lgP hl hq9; omega) (by have k9 := lgP hl hq9; omega)) dX12_log_8 (by decide) (fun hb8_2 => ?_) (fun hb8_2 => ?_)
      · have k9 := lgP hl hq9
        refine TT_iinc hK (v := l + 1) (lv' := [(1, vI (l + 1)), (0, vI n)]) 1 rfl rfl (by decide) rfl dX12_log_20 ?_
        refine TT_goto hK (tgt := 2) dX12_log_23 (by decide) ?_
        refine TT_sub [1, 0] rfl ?_
        exact ih1 (l + 1) w2_1 hT2_1 hF2_1 (by first | omega | (simp [up, setR] <;> omega)) (by intro n9; first | (rw [Int.one_mul] at hq8; rw [← hq8]; omega) | (rw [Int.one_mul] at hq9; rw [← hq9]; omega)) (by first | omega | (simp [up, setR] <;> omega))
      · refine TT_iload_n hK rfl 0 rfl dX12_log_11 ?_
        refine TT_iconst hK dX12_log_12 ?_
        refine TT_iload_n hK rfl 1 rfl dX12_log_13 ?_
        refine TT_iconst hK dX12_log_14 ?_
        refine TT_iadd hK dX12_log_15 ?_
        refine TT_ishl hK (by omega) (by omega) dX12_log_16 ?_
        refine TT_nmI (fun q8 hq8 => ?_)
        refine TT_icmp_ne hK (tgt := 26) (irm (by have k9 := lgP hl hq8; omega) (by have k9 := lgP hl hq8; omega)) (irm (by have k9 := lgP hl hq8; omega) (by have k9 := lgP hl hq8; omega)) dX12_log_17 (by decide) (fun hb17_3 => ?_) (fun hb17_3 => ?_)
        · refine TT_iload_n hK rfl 1 rfl dX12_log_26 ?_
          refine TT_iret hK hQ ?_ dX12_log_27
          exact ⟨⟨hT2_1, hF2_1⟩, l, rfl, (by omega), (by intro n9; exact bl_u hl (hlg n9) (by rw [Int.one_mul] at hq9 hq8; rw [hq9] at *; omega))⟩
        · have k9 := lgP hl hq8
          refine TT_iinc hK (v := l + 1) (lv' := [(1, vI (l + 1)), (0, vI n)]) 1 rfl rfl (by decide) rfl dX12_log_20 ?_
          refine TT_goto hK (tgt := 2) dX12_log_23 (by decide) ?_
          refine TT_sub [1, 0] rfl ?_
          exact ih1 (l + 1) w2_1 hT2_1 hF2_1 (by first | omega | (simp [up, setR] <;> omega)) (by intro n9; first | (rw [Int.one_mul] at hq8; rw [← hq8]; omega) | (rw [Int.one_mul] at hq9; rw [← hq9]; omega)) (by first | omega | (simp [up, setR] <;> omega))
  refine TT_sub [1, 0] rfl ?_
  exact L2_1 ((((6 : Int) - 0).toNat) + 1) 0 h hT hF (by first | omega | (simp [up, setR] <;> omega)) (by intro n9; exact n9) (Nat.lt_succ_self _)
set_option maxRecDepth 20000 in
theorem s_putHead_e (s : PBS_) (b : Int) (h : Hp_) (hT : TY h) (hb : 0 ≤ b ∧ b ≤ 9) (h1 : (h 87) b ≤ (h 86) b) (hb1 : 8 * (h 73 42) + (h 73 43) + 47 ≤ 35192) (hrb : RBR (h 73 42) (h 73 43) (h 100) s) (hpq0 : PBQ s) (hw3 : 3 ≤ (h 88) b ∧ (h 88) b ≤ 10) (hh0 : 0 ≤ (h 87) b) (hll : 0 ≤ ((h 92) (35 * b + (h 86) b) - (h 92) (35 * b + (h 87) b)) ∧ ((h 92) (35 * b + (h 86) b) - (h 92) (35 * b + (h 87) b)) ≤ 1023) : Ctr yX12_putHead cX12_putHead 4 none (rmd 2) ly ly 0 0 [vR 73, vI b] h (fun r h' => (TY h' ∧ FRM [73, 88, 100] [42, 43] h h') ∧ r = none ∧ (8 * (h' 73 42) + (h' 73 43) ≤ 8 * (h 73 42) + (h 73 43) + 47) ∧ (RBR (h' 73 42) (h' 73 43) (h' 100) (hdS ((h 83) b) ((h 87) b) ((h 86) b - (h 87) b) ((h 88) b) ((h 92) (35 * b + (h 86) b) - (h 92) (35 * b + (h 87) b)) s)) ∧ ((h' 88) = fup (h 88) b (wdS ((h 86) b - (h 87) b) ((h 88) b) ((h 92) (35 * b + (h 86) b) - (h 92) (35 * b + (h 87) b))))) := by
  refine Ctr_of (by decide) (Nat.le_of_ble_eq_true rfl) ⟨Nat.le_refl _, Nat.le_refl _⟩ (fun K hK hQ _ => ?_)
  show TT K ly 0 0 0 [(0, vR 73), (1, vI b)] [] h
  have hF : FRM [73, 88, 100] [42, 43] h h := FRM_rf _ _ _
  have zz2 := hd2_n (h 83 b) (h 87 b) hpq0
  refine TT_aload_n hK rfl 0 rfl dX12_putHead_0 ?_
  refine gf_X12_54 hK (by decide) rfl (q := 86) rfl rfl dX12_putHead_1 ?_
  refine TT_iload_n hK rfl 1 rfl dX12_putHead_4 ?_
  refine TT_iald hK (o := 86) (n := 20) (by decide) rfl (by first | omega | (simp [up, setR] <;> omega)) (by first | omega | (simp [up, setR] <;> omega)) (v := (h 86) b) rfl dX12_putHead_5 ?_
  have r1 := ty_86 (i := b) (v := (h 86) b) hT rfl (by omega) (by omega)
  refine TT_aload_n hK rfl 0 rfl dX12_putHead_6 ?_
  refine gf_X12_57 hK (by decide) rfl (q := 87) rfl rfl dX12_putHead_7 ?_
  refine TT_iload_n hK rfl 1 rfl dX12_putHead_10 ?_
  refine TT_iald hK (o := 87) (n := 20) (by decide) rfl (by first | omega | (simp [up, setR] <;> omega)) (by first | omega | (simp [up, setR] <;> omega)) (v := (h 87) b) rfl dX12_putHead_11 ?_
  have r2 := ty_87 (i := b) (v := (h 87) b) hT rfl (by omega) (by omega)
  refine TT_isub hK dX12_putHead_12 ?_
  refine TT_nmI (fun n hn => ?_)
  refine TT_istore_n hK rfl (lv' := [(2, vI n), (0, vR 73), (1, vI b)]) (by decide) rfl dX12_putHead_13 ?_
  have J28_3 : ∀ (w28_3 : Hp_), TY w28_3 → FRM [73, 88, 100] [42, 43] h w28_3 → (8 * (w28_3 73 42) + (w28_3 73 43) ≤ 8 * (h 73 42) + (h 73 43) + 1) → ((w28_3 88) = h 88) → (RBR (w28_3 73 42) (w28_3 73 43) (w28_3 100) (putS (if n ≤ 0 then 0 else 1) 1 s)) → TT K ly 0 0 28 [(0, vR 73), (1, vI b), (2, vI n)] [] w28_3 := by
    intro w28_3 hT28_3 hF28_3 hc0 k88 hr1
    refine TT_iload_n hK rfl 2 rfl dX12_putHead_28 ?_
    refine TT_if_ne hK (tgt := 33) (irm (by omega) (by omega)) dX12_putHead_29 (by decide) (fun hb29_4 => ?_) (fun hb29_4 => ?_)
    · have zz3 := cntS_n n zz2.1
      have r86 := ty_86 (i := b) (v := h 86 b) hT rfl (by omega) (by omega)
      have bn9 := bl_n (n := n) (by omega)
      have bz9 := bl_10 (v := (h 92 (35 * b + h 86 b) - h 92 (35 * b + h 87 b))) (by omega)
      have gg9 := grS_w (w := h 88 b) (sz := (h 92 (35 * b + h 86 b) - h 92 (35 * b + h 87 b))) (n := n) (by omega) (by omega) (by omega)
      have J115_5 : ∀ (w115_5 : Hp_), TY w115_5 → FRM [73, 88, 100] [42, 43] h w115_5 → (8 * (w115_5 73 42) + (w115_5 73 43) ≤ 8 * (h 73 42) + (h 73 43) + 14) → ((w115_5 88) = h 88) → (RBR (w115_5 73 42) (w115_5 73 43) (w115_5 100) (cntS n (hd2 (h 83 b) (h 87 b) s))) → TT K ly 0 0 115 [(0, vR 73), (1, vI b), (2, vI n)] [] w115_5 := by
        intro w115_5 hT115_5 hF115_5 hc2 k88 hr3
        refine TT_aload_n hK rfl 0 rfl dX12_putHead_115 ?_
        refine gf_X12_72 hK (by decide) rfl (q := 92) rfl rfl dX12_putHead_116 ?_
        refine TT_bipush hK (by decide) dX12_putHead_119 ?_
        refine TT_iload_n hK rfl 1 rfl dX12_putHead_121 ?_
        refine TT_imul hK dX12_putHead_122 ?_
        refine TT_aload_n hK rfl 0 rfl dX12_putHead_123 ?_
        refine gf_X12_54 hK (by decide) rfl (q := 86) rfl rfl dX12_putHead_124 ?_
        refine TT_iload_n hK rfl 1 rfl dX12_putHead_127 ?_
        refine TT_iald hK (o := 86) (n := 20) (by decide) rfl (by first | omega | (simp [up, setR] <;> omega)) (by first | omega | (simp [up, setR] <;> omega)) (v := (h 86) b) (rd_ (hF115_5.1 86 (by decide)) rfl) dX12_putHead_128 ?_
        have r6 := ty_86 (i := b) (v := (h 86) b) hT115_5 (rd_ (hF115_5.1 86 (by decide)) rfl) (by omega) (by omega)
        refine TT_iadd hK dX12_putHead_129 ?_
        refine TT_iald hK (o := 92) (n := 350) (by decide) rfl (by first | omega | (simp [up, setR] <;> omega)) (by first | omega | (simp [up, setR] <;> omega)) (v := (h 92) ((35 * b) + ((h 86) b))) (rd_ (hF115_5.1 92 (by decide)) rfl) dX12_putHead_130 ?_
        have r7 := ty_92 (i := (35 * b) + ((h 86) b)) (v := (h 92) ((35 * b) + ((h 86) b))) hT115_5 (rd_ (hF115_5.1 92 (by decide)) rfl) (by omega) (by omega)
        refine TT_aload_n hK rfl 0 rfl dX12_putHead_131 ?_
        refine gf_X12_72 hK (by decide) rfl (q := 92) rfl rfl dX12_putHead_132 ?_
        refine TT_bipush hK (by decide) dX12_putHead_135 ?_
        refine TT_iload_n hK rfl 1 rfl dX12_putHead_137 ?_
        refine TT_imul hK dX12_putHead_138 ?_
        refine TT_aload_n hK rfl 0 rfl dX12_putHead_139 ?_
        refine gf_X12_57 hK (by decide) rfl (q := 87) rfl rfl dX12_putHead_140 ?_
        refine TT_iload_n hK rfl 1 rfl dX12_putHead_143 ?_
        refine TT_iald hK (o := 87) (n := 20) (by decide) rfl (by first | omega | (simp [up, setR] <;> omega)) (by first | omega | (simp [up, setR] <;> omega)) (v := (h 87) b) (rd_ (hF115_5.1 87 (by decide)) rfl) dX12_putHead_144 ?_
        have r8 := ty_87 (i := b) (v := (h 87) b) hT115_5 (rd_ (hF115_5.1 87 (by decide)) rfl) (by omega) (by omega)
        refine TT_iadd hK dX12_putHead_145 ?_
        refine TT_iald hK (o := 92) (n := 350) (by decide) rfl (by first | omega | (simp [up, setR] <;> omega)) (by first | omega | (simp [up, setR] <;> omega)) (v := (h 92) ((35 * b) + ((h 87) b))) (rd_ (hF115_5.1 92 (by decide)) rfl) dX12_putHead_146 ?_
        have r9 := ty_92 (i := (35 * b) + ((h 87) b)) (v := (h 92) ((35 * b) + ((h 87) b))) hT115_5 (rd_ (hF115_5.1 92 (by decide)) rfl) (by omega) (by omega)
        refine TT_isub hK dX12_putHead_147 ?_
        refine TT_nmI (fun sz hsz => ?_)
        refine TT_istore_n hK rfl (lv' := [(3, vI sz), (0, vR 73), (1, vI b), (2, vI n)]) (by decide) rfl dX12_putHead_148 ?_
        have L149_10 : ∀ (k10 : Nat) (lw : Int) (w149_10 : Hp_), TY w149_10 → FRM [73, 88, 100] [42, 43] h w149_10 → ((w149_10 88) b = lw) → (0 ≤ lw ∧ lw ≤ 13) → (8 * (w149_10 73 42) + (w149_10 73 43) ≤ 8 * (h 73 42) + (h 73 43) + 14 + lw) → (h 88 b ≤ lw ∧ lw ≤ h 88 b + (grS (h 92 (35 * b + h 86 b) - h 92 (35 * b + h 87 b)) (h 88 b) (bl n - 1))) → (RBR (w149_10 73 42) (w149_10 73 43) (w149_10 100) (onesS (lw - h 88 b).toNat (cntS n (hd2 (h 83 b) (h 87 b) s)))) → (∃ F : Int → Int, (w149_10 88) = fup (h 88) b (F b)) → ((14 : Int) - lw).toNat < k10 → TT K ly 0 0 149 [(0, vR 73), (1, vI b), (2, vI n), (3, vI sz)] [] w149_10 := by
          intro k10
          induction k10 with
          | zero => intro lw w149_10 hT149_10 hF149_10 hlw hl2 hc3 hlw2 hr4 k88c hk10; exact absurd hk10 (Nat.not_lt_zero _)
          | succ k10 ih10 =>
            intro lw w149_10 hT149_10 hF149_10 hlw hl2 hc3 hlw2 hr4 k88c hk10
            refine TT_iload_n hK rfl 3 rfl dX12_putHead_149 ?_
            refine TT_iconst hK dX12_putHead_150 ?_
            refine TT_aload_n hK rfl 0 rfl dX12_putHead_151 ?_
            refine gf_X12_60 hK (by decide) rfl (q := 88) rfl rfl dX12_putHead_152 ?_
            refine TT_iload_n hK rfl 1 rfl dX12_putHead_155 ?_
            refine TT_iald hK (o := 88) (n := 20) (by decide) rfl (by first | omega | (simp [up, setR] <;> omega)) (by first | omega | (simp [up, setR] <;> omega)) (v := (w149_10 88) b) rfl dX12_putHead_156 ?_
            have r11 := ty_88 (i := b) (v := (w149_10 88) b) hT149_10 rfl (by omega) (by omega)
            refine TT_cgI (b := lw) (by first | exact hlw | rfl) ?_
            refine TT_iload_n hK rfl 2 rfl dX12_putHead_157 ?_
            refine iv_X12_323 hK (s_log_e n w149_10 hT149_10 (by first | omega | (simp [up, setR] <;> omega))) ⟨by decide, by decide⟩ (by decide) rfl rfl (Nat.le_of_ble_eq_true rfl) ⟨by decide, by decide⟩ dX12_putHead_158 ?_
            intro r9 g158_12 hp9
            obtain ⟨⟨hT_12, hG_12⟩, z158_12, hr9, hz_12, lg_12⟩ := hp9
            rw [hr9]
            have hF_12 : FRM [73, 88, 100] [42, 43] h g158_12 := FRM_tr hF149_10 hG_12 (by decide) (by decide)
            have lg_at158 := lg_12
            show TT K ly 0 0 161 [(0, vR 73), (1, vI b), (2, vI n), (3, vI sz)] [vI z158_12, vI lw, vI 1, vI sz] g158_12
            refine TT_cgI (b := bl n - 1) (by exact lg_at158 (by omega)) ?_
            refine TT_iadd hK dX12_putHead_161 ?_
            refine TT_ishl hK (by omega) (by omega) dX12_putHead_162 ?_
            refine TT_nmI (fun q9 hq9 => ?_)
            refine TT_icmp_lt hK (tgt := 185) (irm (by have k9 := shQ (by omega) (by omega) hq9; omega) (by have k9 := shQ (by omega) (by omega) hq9; omega)) (irm (by have k9 := shQ (by omega) (by omega) hq9; omega) (by have k9 := shQ (by omega) (by omega) hq9; omega)) dX12_putHead_163 (by decide) (fun hb163_13 => ?_) (fun hb163_13 => ?_)
            · have k9 := shQ (by omega) (by omega) hq9
              have eq9 : lw = h 88 b + (grS (h 92 (35 * b + h 86 b) - h 92 (35 * b + h 87 b)) (h 88 b) (bl n - 1)) := grS_u hlw2 (bl_a (by omega) (by omega) (by rw [← hsz, show (2 : Int) ^ (lw + (bl n - 1)).toNat = q9 by rw [hq9, Int.one_mul]]; omega))
              refine TT_aload_n hK rfl 0 rfl dX12_putHead_185 ?_
              refine TT_iconst hK dX12_putHead_186 ?_
              refine TT_iconst hK dX12_putHead_187 ?_
              have e14_73_42 : g158_12 73 42 = (w149_10 73) 42 := congrFun (hG_12.1 73 (by decide)) 42
              have e15_73_43 : g158_12 73 43 = (w149_10 73) 43 := congrFun (hG_12.1 73 (by decide)) 43
              have e16_100 : g158_12 100 = w149_10 100 := (hG_12.1 100 (by decide))
              have e17_73_42 : g158_12 73 42 = (w149_10 73) 42 := congrFun (hG_12.1 73 (by decide)) 42
              have e18_73_43 : g158_12 73 43 = (w149_10 73) 43 := congrFun (hG_12.1 73 (by decide)) 43
              refine iv_X12_320 hK (s_putBits_e (onesS (lw - h 88 b).toNat (cntS n (hd2 (h 83 b) (h 87 b) s))) 0 1 g158_12 hT_12 (by first | omega | (simp [up, setR] <;> omega)) (by first | omega | (simp [up, setR] <;> omega)) (by rewrite [e14_73_42, e15_73_43]; first | omega | (simp [up, setR] <;> omega)) (by rewrite [e16_100, e17_73_42, e18_73_43]; exact hr4) (by exact (onesS_n (lw - h 88 b).toNat zz3.1).1) (by first | omega | (simp [up, setR] <;> omega))) (by decide) rfl ⟨by decide, by decide⟩ (by decide) rfl rfl (Nat.le_of_ble_eq_true rfl) ⟨by decide, by decide⟩ dX12_putHead_188 ?_
              intro r9 g188_19 hp9
              obtain ⟨⟨hT_19, hG_19⟩, hr9, p1_19, pb_19⟩ := hp9
              rw [hr9]
              have hF_19 : FRM [73, 88, 100] [42, 43] h g188_19 := FRM_tr hF_12 hG_19 (by decide) (by decide)
              rw [show g158_12 73 42 = (w149_10 73) 42 from congrFun (hG_12.1 73 (by decide)) 42] at p1_19
              rw [show g158_12 73 43 = (w149_10 73) 43 from congrFun (hG_12.1 73 (by decide)) 43] at p1_19
              have pb_at188 := pb_19
              show TT K ly 0 0 191 [(0, vR 73), (1, vI b), (2, vI n), (3, vI sz)] [] g188_19
              refine TT_aload_n hK rfl 0 rfl dX12_putHead_191 ?_
              refine TT_iload_n hK rfl 3 rfl dX12_putHead_192 ?_
              refine TT_aload_n hK rfl 0 rfl dX12_putHead_193 ?_
              refine gf_X12_60 hK (by decide) rfl (q := 88) rfl rfl dX12_putHead_194 ?_
              refine TT_iload_n hK rfl 1 rfl dX12_putHead_197 ?_
              refine TT_iald hK (o := 88) (n := 20) (by decide) rfl (by first | omega | (simp [up, setR] <;> omega)) (by first | omega | (simp [up, setR] <;> omega)) (v := (w149_10 88) b) (rd_ (((hG_19.1 88 (by decide))).trans (hG_12.1 88 (by decide))) rfl) dX12_putHead_198 ?_
              refine TT_cgI (b := lw) (by first | exact hlw | rfl) ?_
              refine TT_iload_n hK rfl 2 rfl dX12_putHead_199 ?_
              refine iv_X12_323 hK (s_log_e n g188_19 hT_19 (by first | omega | (simp [up, setR] <;> omega))) ⟨by decide, by decide⟩ (by decide) rfl rfl (Nat.le_of_ble_eq_true rfl) ⟨by decide, by decide⟩ dX12_putHead_200 ?_
              intro r9 g200_20 hp9
              obtain ⟨⟨hT_20, hG_20⟩, z200_20, hr9, hz_20, lg_20⟩ := hp9
              rw [hr9]
              have hF_20 : FRM [73, 88, 100] [42, 43] h g200_20 := FRM_tr hF_19 hG_20 (by decide) (by decide)
              have lg_at200 := lg_20
              show TT K ly 0 0 203 [(0, vR 73), (1, vI b), (2, vI n), (3, vI sz)] [vI z200_20, vI lw, vI sz, vR 73] g200_20
              refine TT_cgI (b := bl n - 1) (by exact lg_at200 (by omega)) ?_
              refine TT_iadd hK dX12_putHead_203 ?_
              have e21_73_42 : g200_20 73 42 = (g188_19 73) 42 := congrFun (hG_20.1 73 (by decide)) 42
              have e22_73_43 : g200_20 73 43 = (g188_19 73) 43 := congrFun (hG_20.1 73 (by decide)) 43
              have e23_100 : g200_20 100 = g188_19 100 := (hG_20.1 100 (by decide))
              have e24_73_42 : g200_20 73 42 = (g188_19 73) 42 := congrFun (hG_20.1 73 (by decide)) 42
              have e25_73_43 : g200_20 73 43 = (g188_19 73) 43 := congrFun (hG_20.1 73 (by decide)) 43
              refine iv_X12_320 hK (s_putBits_e (putS 0 1 (onesS (lw - h 88 b).toNat (cntS n (hd2 (h 83 b) (h 87 b) s)))) sz (lw + (bl n - 1)) g200_20 hT_20 (by first | omega | (simp [up, setR] <;> omega)) (by first | omega | (simp [up, setR] <;> omega)) (by rewrite [e21_73_42, e22_73_43]; first | omega | (simp [up, setR] <;> omega)) (by rewrite [e23_100, e24_73_42, e25_73_43]; exact pb_at188.1) (by exact pb_at188.2) (by first | omega | (simp [up, setR] <;> omega))) (by decide) rfl ⟨by decide, by decide⟩ (by decide) rfl rfl (Nat.le_of_ble_eq_true rfl) ⟨by decide, by decide⟩ dX12_putHead_204 ?_
              intro r9 g204_26 hp9
              obtain ⟨⟨hT_26, hG_26⟩, hr9, p1_26, pb_26⟩ := hp9
              rw [hr9]
              have hF_26 : FRM [73, 88, 100] [42, 43] h g204_26 := FRM_tr hF_20 hG_26 (by decide) (by decide)
              rw [show g200_20 73 42 = (g188_19 73) 42 from congrFun (hG_20.1 73 (by decide)) 42] at p1_26
              rw [show g200_20 73 43 = (g188_19 73) 43 from congrFun (hG_20.1 73 (by decide)) 43] at p1_26
              have pb_at204 := pb_26
              show TT K ly 0 0 207 [(0, vR 73), (1, vI b), (2, vI n), (3, vI sz)] [] g204_26
              have fin9 := pb_at204.1
              rw [show (lw - h 88 b).toNat = (grS (h 92 (35 * b + h 86 b) - h 92 (35 * b + h 87 b)) (h 88 b) (bl n - 1)).toNat by omega, show (lw + (bl n - 1)).toNat = (h 88 b + (grS (h 92 (35 * b + h 86 b) - h 92 (35 * b + h 87 b)) (h 88 b) (bl n - 1)) + (bl n - 1)).toNat by omega, hsz] at fin9
              have fin8 : w149_10 88 = fup (h 88) b (h 88 b + (grS (h 92 (35 * b + h 86 b) - h 92 (35 * b + h 87 b)) (h 88 b) (bl n - 1))) := by
                  obtain ⟨F9, f9⟩ := k88c
                  have g9 := congrFun f9 b
                  rw [fup_eq] at g9
                  exact f9.trans (by rw [show F9 b = h 88 b + (grS (h 92 (35 * b + h 86 b) - h 92 (35 * b + h 87 b)) (h 88 b) (bl n - 1)) by omega])
              refine TT_vret hK hQ ?_ dX12_putHead_207
              have e27_73_42 : g204_26 73 42 = (g204_26 73) 42 := rfl
              have e28_73_43 : g204_26 73 43 = (g204_26 73) 43 := rfl
              have e29_73_42 : g204_26 73 42 = (g204_26 73) 42 := rfl
              have e30_73_43 : g204_26 73 43 = (g204_26 73) 43 := rfl
              have e31_88 : g204_26 88 = w149_10 88 := ((hG_26.1 88 (by decide))).trans (((hG_20.1 88 (by decide))).trans (((hG_19.1 88 (by decide))).trans (hG_12.1 88 (by decide))))
              exact ⟨⟨hT_26, hF_26⟩, rfl, (by rewrite [e27_73_42, e28_73_43]; omega), (by rewrite [e29_73_42, e30_73_43]; first | (rw [show h 86 b - h 87 b = n from hn.symm]; unfold hdS; rw [if_pos (by omega)]; rw [if_pos (by omega)] at hr1; exact hr1) | (rw [show h 86 b - h 87 b = n from hn.symm]; unfold hdS; rw [if_neg (by omega)]; exact fin9)), (by rewrite [e31_88]; rw [show h 86 b - h 87 b = n from hn.symm]; unfold wdS; first | (rw [if_pos (by omega), k88]; exact fup_fs.symm) | (rw [if_neg (by omega)]; exact fin8))⟩
            · have k9 := shQ (by omega) (by omega) hq9
              have lt9 : lw + (bl n - 1) < bl (h 92 (35 * b + h 86 b) - h 92 (35 * b + h 87 b)) := bl_b (by omega) (by omega) (by rw [← hsz, show (2 : Int) ^ (lw + (bl n - 1)).toNat = q9 by rw [hq9, Int.one_mul]]; omega)
              refine TT_aload_n hK rfl 0 rfl dX12_putHead_166 ?_
              refine TT_iconst hK dX12_putHead_167 ?_
              refine TT_iconst hK dX12_putHead_168 ?_
              have e32_73_42 : g158_12 73 42 = (w149_10 73) 42 := congrFun (hG_12.1 73 (by decide)) 42
              have e33_73_43 : g158_12 73 43 = (w149_10 73) 43 := congrFun (hG_12.1 73 (by decide)) 43
              have e34_100 : g158_12 100 = w149_10 100 := (hG_12.1 100 (by decide))
              have e35_73_42 : g158_12 73 42 = (w149_10 73) 42 := congrFun (hG_12.1 73 (by decide)) 42
              have e36_73_43 : g158_12 73 43 = (w149_10 73) 43 := congrFun (hG_12.1 73 (by decide)) 43
              refine iv_X12_320 hK (s_putBits_e (onesS (lw - h 88 b).toNat (cntS n (hd2 (h 83 b) (h 87 b) s))) 1 1 g158_12 hT_12 (by first | omega | (simp [up, setR] <;> omega)) (by first | omega | (simp [up, setR] <;> omega)) (by rewrite [e32_73_42, e33_73_43]; first | omega | (simp [up, setR] <;> omega)) (by rewrite [e34_100, e35_73_42, e36_73_43]; exact hr4) (by exact (onesS_n (lw - h 88 b).toNat zz3.1).1) (by first | omega | (simp [up, setR] <;> omega))) (by decide) rfl ⟨by decide, by decide⟩ (by decide) rfl rfl (Nat.le_of_ble_eq_true rfl) ⟨by decide, by decide⟩ dX12_putHead_169 ?_
              intro r9 g169_37 hp9
              obtain ⟨⟨hT_37, hG_37⟩, hr9, p1_37, pb_37⟩ := hp9
              rw [hr9]
              have hF_37 : FRM [73, 88, 100] [42, 43] h g169_37 := FRM_tr hF_12 hG_37 (by decide) (by decide)
              rw [show g158_12 73 42 = (w149_10 73) 42 from congrFun (hG_12.1 73 (by decide)) 42] at p1_37
              rw [show g158_12 73 43 = (w149_10 73) 43 from congrFun (hG_12.1 73 (by decide)) 43] at p1_37
              have pb_at169 := pb_37
              show TT K ly 0 0 172 [(0, vR 73), (1, vI b), (2, vI n), (3, vI sz)] [] g169_37
              refine TT_aload_n hK rfl 0 rfl dX12_putHead_172 ?_
              refine gf_X12_60 hK (by decide) rfl (q := 88) rfl rfl dX12_putHead_173 ?_
              refine TT_iload_n hK rfl 1 rfl dX12_putHead_176 ?_
              refine TT_dup2 hK rfl rfl dX12_putHead_177 ?_
              refine TT_iald hK (o := 88) (n := 20) (by decide) rfl (by first | omega | (simp [up, setR] <;> omega)) (by first | omega | (simp [up, setR] <;> omega)) (v := (w149_10 88) b) (rd_ (((hG_37.1 88 (by decide))).trans (hG_12.1 88 (by decide))) rfl) dX12_putHead_178 ?_
              refine TT_cgI (b := lw) (by first | exact hlw | rfl) ?_
              refine TT_iconst hK dX12_putHead_179 ?_
              refine TT_iadd hK dX12_putHead_180 ?_
              refine TT_iast hK (o := 88) (n := 20) (by decide) rfl (by omega) (by omega) dX12_putHead_181 ?_
              refine TT_hp (h' := setO g169_37 88 (fup (w149_10 88) b (lw + 1))) (up_can (((hG_37.1 88 (by decide))).trans (hG_12.1 88 (by decide))) rfl rfl) ?_
              have hT_38 : TY (setO g169_37 88 (fup (w149_10 88) b (lw + 1))) := tu_88 hT_37 (show up g169_37 88 b (lw + 1) = (setO g169_37 88 (fup (w149_10 88) b (lw + 1))) from up_can (((hG_37.1 88 (by decide))).trans (hG_12.1 88 (by decide))) rfl rfl) (by omega)
              have hF_38 : FRM [73, 88, 100] [42, 43] h (setO g169_37 88 (fup (w149_10 88) b (lw + 1))) := FRM_up (show up g169_37 88 b (lw + 1) = (setO g169_37 88 (fup (w149_10 88) b (lw + 1))) from up_can (((hG_37.1 88 (by decide))).trans (hG_12.1 88 (by decide))) rfl rfl) hF_37 (by decide) (by decide)
              refine TT_goto hK (tgt := 149) dX12_putHead_182 (by decide) ?_
              have e39_88 : (setO g169_37 88 (fup (w149_10 88) b (lw + 1))) 88 = fup (w149_10 88) b (lw + 1) := sOf_eq _ _ _
              have e40_73_42 : (setO g169_37 88 (fup (w149_10 88) b (lw + 1))) 73 42 = (g169_37 73) 42 := rd_ (sOf_ne _ _ (by decide)) rfl
              have e41_73_43 : (setO g169_37 88 (fup (w149_10 88) b (lw + 1))) 73 43 = (g169_37 73) 43 := rd_ (sOf_ne _ _ (by decide)) rfl
              have e42_100 : (setO g169_37 88 (fup (w149_10 88) b (lw + 1))) 100 = g169_37 100 := sOf_ne _ _ (by decide)
              have e43_73_42 : (setO g169_37 88 (fup (w149_10 88) b (lw + 1))) 73 42 = (g169_37 73) 42 := rd_ (sOf_ne _ _ (by decide)) rfl
              have e44_73_43 : (setO g169_37 88 (fup (w149_10 88) b (lw + 1))) 73 43 = (g169_37 73) 43 := rd_ (sOf_ne _ _ (by decide)) rfl
              have e45_88 : (setO g169_37 88 (fup (w149_10 88) b (lw + 1))) 88 = fup (w149_10 88) b (lw + 1) := sOf_eq _ _ _
              exact ih10 (lw + 1) (setO g169_37 88 (fup (w149_10 88) b (lw + 1))) hT_38 hF_38 (by rewrite [e39_88]; exact fup_eq _ _ _) (by first | omega | (simp [up, setR] <;> omega)) (by rewrite [e40_73_42, e41_73_43]; first | omega | (simp [up, setR] <;> omega)) (by exact grS_s hlw2 lt9) (by rewrite [e42_100, e43_73_42, e44_73_43]; rw [show (lw + 1 - h 88 b).toNat = (lw - h 88 b).toNat + 1 by omega]; exact pb_at169.1) (by rewrite [e45_88]; obtain ⟨F9, f9⟩ := k88c; rw [f9, fup_same]; exact ⟨fun _ => lw + 1, rfl⟩) (by first | omega | (simp [up, setR] <;> omega))
        refine TT_sub [1, 2, 3, 0] rfl ?_
        have e46_73_42 : w115_5 73 42 = (w115_5 73) 42 := rfl
        have e47_73_43 : w115_5 73 43 = (w115_5 73) 43 := rfl
        have e48_73_42 : w115_5 73 42 = (w115_5 73) 42 := rfl
        have e49_73_43 : w115_5 73 43 = (w115_5 73) 43 := rfl
        have r9 := ty_88 (i := b) (v := (w115_5 88) b) hT115_5 rfl (by omega) (by omega)
        exact L149_10 ((((14 : Int) - ((w115_5 88) b)).toNat) + 1) ((w115_5 88) b) w115_5 hT115_5 hF115_5 (by rfl) (by first | omega | (simp [up, setR] <;> omega)) (by rewrite [e46_73_42, e47_73_43]; first | omega | (simp [up, setR] <;> omega)) (by have e9 := congrFun k88 b; have g9 := grS_0 (h 92 (35 * b + h 86 b) - h 92 (35 * b + h 87 b)) (h 88 b) (bl n - 1); omega) (by rewrite [e48_73_42, e49_73_43]; have e9 := congrFun k88 b; rw [show ((w115_5 88) b - h 88 b).toNat = 0 by omega]; exact hr3) (by rw [k88]; exact ⟨h 88, fup_fs.symm⟩) (Nat.lt_succ_self _)
      have J53_50 : ∀ (w53_50 : Hp_), TY w53_50 → FRM [73, 88, 100] [42, 43] h w53_50 → (8 * (w53_50 73 42) + (w53_50 73 43) ≤ 8 * (h 73 42) + (h 73 43) + 5) → ((w53_50 88) = h 88) → (RBR (w53_50 73 42) (w53_50 73 43) (w53_50 100) (hd2 (h 83 b) (h 87 b) s)) → TT K ly 0 0 53 [(0, vR 73), (1, vI b), (2, vI n)] [] w53_50 := by
        intro w53_50 hT53_50 hF53_50 hc1 k88 hr2
        refine TT_iload_n hK rfl 2 rfl dX12_putHead_53 ?_
        refine TT_iconst hK dX12_putHead_54 ?_
        refine TT_icmp_ge hK (tgt := 76) (irm (by omega) (by omega)) (by decide) dX12_putHead_55 (by decide) (fun hb55_51 => ?_) (fun hb55_51 => ?_)
        · refine TT_iload_n hK rfl 2 rfl dX12_putHead_76 ?_
          refine TT_bipush hK (by decide) dX12_putHead_77 ?_
          refine TT_icmp_ge hK (tgt := 99) (irm (by omega) (by omega)) (by decide) dX12_putHead_79 (by decide) (fun hb79_52 => ?_) (fun hb79_52 => ?_)
          · refine TT_aload_n hK rfl 0 rfl dX12_putHead_99 ?_
            refine TT_bipush hK (by decide) dX12_putHead_100 ?_
            refine TT_iconst hK dX12_putHead_102 ?_
            have e53_73_42 : w53_50 73 42 = (w53_50 73) 42 := rfl
            have e54_73_43 : w53_50 73 43 = (w53_50 73) 43 := rfl
            have e55_73_42 : w53_50 73 42 = (w53_50 73) 42 := rfl
            have e56_73_43 : w53_50 73 43 = (w53_50 73) 43 := rfl
            refine iv_X12_320 hK (s_putBits_e (hd2 (h 83 b) (h 87 b) s) 15 4 w53_50 hT53_50 (by first | omega | (simp [up, setR] <;> omega)) (by first | omega | (simp [up, setR] <;> omega)) (by rewrite [e53_73_42, e54_73_43]; first | omega | (simp [up, setR] <;> omega)) (by rewrite [e55_73_42, e56_73_43]; exact hr2) (by exact zz2.1) (by first | omega | (simp [up, setR] <;> omega))) (by decide) rfl ⟨by decide, by decide⟩ (by decide) rfl rfl (Nat.le_of_ble_eq_true rfl) ⟨by decide, by decide⟩ dX12_putHead_103 ?_
            intro r9 g103_57 hp9
            obtain ⟨⟨hT_57, hG_57⟩, hr9, p1_57, pb_57⟩ := hp9
            rw [hr9]
            have hF_57 : FRM [73, 88, 100] [42, 43] h g103_57 := FRM_tr hF53_50 hG_57 (by decide) (by decide)
            rw [show w53_50 73 42 = (w53_50 73) 42 from rfl] at p1_57
            rw [show w53_50 73 43 = (w53_50 73) 43 from rfl] at p1_57
            have pb_at103 := pb_57
            show TT K ly 0 0 106 [(0, vR 73), (1, vI b), (2, vI n)] [] g103_57
            refine TT_aload_n hK rfl 0 rfl dX12_putHead_106 ?_
            refine TT_iload_n hK rfl 2 rfl dX12_putHead_107 ?_
            refine TT_bipush hK (by decide) dX12_putHead_108 ?_
            refine TT_isub hK dX12_putHead_110 ?_
            refine TT_iconst hK dX12_putHead_111 ?_
            have e58_73_42 : g103_57 73 42 = (g103_57 73) 42 := rfl
            have e59_73_43 : g103_57 73 43 = (g103_57 73) 43 := rfl
            have e60_73_42 : g103_57 73 42 = (g103_57 73) 42 := rfl
            have e61_73_43 : g103_57 73 43 = (g103_57 73) 43 := rfl
            refine iv_X12_320 hK (s_putBits_e (putS 15 4 (hd2 (h 83 b) (h 87 b) s)) (n - 6) 5 g103_57 hT_57 (by first | omega | (simp [up, setR] <;> omega)) (by first | omega | (simp [up, setR] <;> omega)) (by rewrite [e58_73_42, e59_73_43]; first | omega | (simp [up, setR] <;> omega)) (by rewrite [e60_73_42, e61_73_43]; exact pb_at103.1) (by exact pb_at103.2) (by first | omega | (simp [up, setR] <;> omega))) (by decide) rfl ⟨by decide, by decide⟩ (by decide) rfl rfl (Nat.le_of_ble_eq_true rfl) ⟨by decide, by decide⟩ dX12_putHead_112 ?_
            intro r9 g112_62 hp9
            obtain ⟨⟨hT_62, hG_62⟩, hr9, p1_62, pb_62⟩ := hp9
            rw [hr9]
            have hF_62 : FRM [73, 88, 100] [42, 43] h g112_62 := FRM_tr hF_57 hG_62 (by decide) (by decide)
            rw [show g103_57 73 42 = (g103_57 73) 42 from rfl] at p1_62
            rw [show g103_57 73 43 = (g103_57 73) 43 from rfl] at p1_62
            have pb_at112 := pb_62
            show TT K ly 0 0 115 [(0, vR 73), (1, vI b), (2, vI n)] [] g112_62
            have e63_73_42 : g112_62 73 42 = (g112_62 73) 42 := rfl
            have e64_73_43 : g112_62 73 43 = (g112_62 73) 43 := rfl
            have e65_88 : g112_62 88 = w53_50 88 := ((hG_62.1 88 (by decide))).trans (hG_57.1 88 (by decide))
            have e66_73_42 : g112_62 73 42 = (g112_62 73) 42 := rfl
            have e67_73_43 : g112_62 73 43 = (g112_62 73) 43 := rfl
            exact J115_5 g112_62 hT_62 hF_62 (by rewrite [e63_73_42, e64_73_43]; first | omega | (simp [up, setR] <;> omega)) (by rewrite [e65_88]; first | rfl | exact k88) (by rewrite [e66_73_42, e67_73_43]; unfold cntS; first | (rw [if_neg (by omega), if_neg (by omega), if_neg (by omega)]; exact pb_at112.1))
          · refine TT_aload_n hK rfl 0 rfl dX12_putHead_82 ?_
            refine TT_iconst hK dX12_putHead_83 ?_
            refine TT_iconst hK dX12_putHead_84 ?_
            have e68_73_42 : w53_50 73 42 = (w53_50 73) 42 := rfl
            have e69_73_43 : w53_50 73 43 = (w53_50 73) 43 := rfl
            have e70_73_42 : w53_50 73 42 = (w53_50 73) 42 := rfl
            have e71_73_43 : w53_50 73 43 = (w53_50 73) 43 := rfl
            refine iv_X12_320 hK (s_putBits_e (hd2 (h 83 b) (h 87 b) s) 3 2 w53_50 hT53_50 (by first | omega | (simp [up, setR] <;> omega)) (by first | omega | (simp [up, setR] <;> omega)) (by rewrite [e68_73_42, e69_73_43]; first | omega | (simp [up, setR] <;> omega)) (by rewrite [e70_73_42, e71_73_43]; exact hr2) (by exact zz2.1) (by first | omega | (simp [up, setR] <;> omega))) (by decide) rfl ⟨by decide, by decide⟩ (by decide) rfl rfl (Nat.le_of_ble_eq_true rfl) ⟨by decide, by decide⟩ dX12_putHead_85 ?_
            intro r9 g85_72 hp9
            obtain ⟨⟨hT_72, hG_72⟩, hr9, p1_72, pb_72⟩ := hp9
            rw [hr9]
            have hF_72 : FRM [73, 88, 100] [42, 43] h g85_72 := FRM_tr hF53_50 hG_72 (by decide) (by decide)
            rw [show w53_50 73 42 = (w53_50 73) 42 from rfl] at p1_72
            rw [show w53_50 73 43 = (w53_50 73) 43 from rfl] at p1_72
            have pb_at85 := pb_72
            show TT K ly 0 0 88 [(0, vR 73), (1, vI b), (2, vI n)] [] g85_72
            refine TT_aload_n hK rfl 0 rfl dX12_putHead_88 ?_
            refine TT_iload_n hK rfl 2 rfl dX12_putHead_89 ?_
            refine TT_iconst hK dX12_putHead_90 ?_
            refine TT_isub hK dX12_putHead_91 ?_
            refine TT_iconst hK dX12_putHead_92 ?_
            have e73_73_42 : g85_72 73 42 = (g85_72 73) 42 := rfl
            have e74_73_43 : g85_72 73 43 = (g85_72 73) 43 := rfl
            have e75_73_42 : g85_72 73 42 = (g85_72 73) 42 := rfl
            have e76_73_43 : g85_72 73 43 = (g85_72 73) 43 := rfl
            refine iv_X12_320 hK (s_putBits_e (putS 3 2 (hd2 (h 83 b) (h 87 b) s)) (n - 3) 2 g85_72 hT_72 (by first | omega | (simp [up, setR] <;> omega)) (by first | omega | (simp [up, setR] <;> omega)) (by rewrite [e73_73_42, e74_73_43]; first | omega | (simp [up, setR] <;> omega)) (by rewrite [e75_73_42, e76_73_43]; exact pb_at85.1) (by exact pb_at85.2) (by first | omega | (simp [up, setR] <;> omega))) (by decide) rfl ⟨by decide, by decide⟩ (by decide) rfl rfl (Nat.le_of_ble_eq_true rfl) ⟨by decide, by decide⟩ dX12_putHead_93 ?_
            intro r9 g93_77 hp9
            obtain ⟨⟨hT_77, hG_77⟩, hr9, p1_77, pb_77⟩ := hp9
            rw [hr9]
            have hF_77 : FRM [73, 88, 100] [42, 43] h g93_77 := FRM_tr hF_72 hG_77 (by decide) (by decide)
            rw [show g85_72 73 42 = (g85_72 73) 42 from rfl] at p1_77
            rw [show g85_72 73 43 = (g85_72 73) 43 from rfl] at p1_77
            have pb_at93 := pb_77
            show TT K ly 0 0 96 [(0, vR 73), (1, vI b), (2, vI n)] [] g93_77
            refine TT_goto hK (tgt := 115) dX12_putHead_96 (by decide) ?_
            have e78_73_42 : g93_77 73 42 = (g93_77 73) 42 := rfl
            have e79_73_43 : g93_77 73 43 = (g93_77 73) 43 := rfl
            have e80_88 : g93_77 88 = w53_50 88 := ((hG_77.1 88 (by decide))).trans (hG_72.1 88 (by decide))
            have e81_73_42 : g93_77 73 42 = (g93_77 73) 42 := rfl
            have e82_73_43 : g93_77 73 43 = (g93_77 73) 43 := rfl
            exact J115_5 g93_77 hT_77 hF_77 (by rewrite [e78_73_42, e79_73_43]; first | omega | (simp [up, setR] <;> omega)) (by rewrite [e80_88]; first | rfl | exact k88) (by rewrite [e81_73_42, e82_73_43]; unfold cntS; first | (rw [if_neg (by omega), if_neg (by omega), if_pos (by omega)]; exact pb_at93.1))
        · refine TT_aload_n hK rfl 0 rfl dX12_putHead_58 ?_
          refine TT_iload_n hK rfl 2 rfl dX12_putHead_59 ?_
          refine TT_iconst hK dX12_putHead_60 ?_
          refine TT_icmp_ne hK (tgt := 68) (irm (by omega) (by omega)) (by decide) dX12_putHead_61 (by decide) (fun hb61_83 => ?_) (fun hb61_83 => ?_)
          · refine TT_iconst hK dX12_putHead_68 ?_
            refine TT_iload_n hK rfl 2 rfl dX12_putHead_69 ?_
            have e84_73_42 : w53_50 73 42 = (w53_50 73) 42 := rfl
            have e85_73_43 : w53_50 73 43 = (w53_50 73) 43 := rfl
            have e86_73_42 : w53_50 73 42 = (w53_50 73) 42 := rfl
            have e87_73_43 : w53_50 73 43 = (w53_50 73) 43 := rfl
            refine iv_X12_320 hK (s_putBits_e (hd2 (h 83 b) (h 87 b) s) 2 n w53_50 hT53_50 (by first | omega | (simp [up, setR] <;> omega)) (by first | omega | (simp [up, setR] <;> omega)) (by rewrite [e84_73_42, e85_73_43]; first | omega | (simp [up, setR] <;> omega)) (by rewrite [e86_73_42, e87_73_43]; exact hr2) (by exact zz2.1) (by first | omega | (simp [up, setR] <;> omega))) (by decide) rfl ⟨by decide, by decide⟩ (by decide) rfl rfl (Nat.le_of_ble_eq_true rfl) ⟨by decide, by decide⟩ dX12_putHead_70 ?_
            intro r9 g70_88 hp9
            obtain ⟨⟨hT_88, hG_88⟩, hr9, p1_88, pb_88⟩ := hp9
            rw [hr9]
            have hF_88 : FRM [73, 88, 100] [42, 43] h g70_88 := FRM_tr hF53_50 hG_88 (by decide) (by decide)
            rw [show w53_50 73 42 = (w53_50 73) 42 from rfl] at p1_88
            rw [show w53_50 73 43 = (w53_50 73) 43 from rfl] at p1_88
            have pb_at70 := pb_88
            show TT K ly 0 0 73 [(0, vR 73), (1, vI b), (2, vI n)] [] g70_88
            refine TT_goto hK (tgt := 115) dX12_putHead_73 (by decide) ?_
            have e89_73_42 : g70_88 73 42 = (g70_88 73) 42 := rfl
            have e90_73_43 : g70_88 73 43 = (g70_88 73) 43 := rfl
            have e91_88 : g70_88 88 = w53_50 88 := (hG_88.1 88 (by decide))
            have e92_73_42 : g70_88 73 42 = (g70_88 73) 42 := rfl
            have e93_73_43 : g70_88 73 43 = (g70_88 73) 43 := rfl
            exact J115_5 g70_88 hT_88 hF_88 (by rewrite [e89_73_42, e90_73_43]; first | omega | (simp [up, setR] <;> omega)) (by rewrite [e91_88]; first | rfl | exact k88) (by rewrite [e92_73_42, e93_73_43]; unfold cntS; first | (rw [if_pos (by omega)]; rw [show n.toNat = 1 by omega] at pb_at70; exact pb_at70.1) | (rw [if_neg (by omega), if_pos (by omega)]; rw [show n.toNat = 2 by omega] at pb_at70; exact pb_at70.1))
          · refine TT_iconst hK dX12_putHead_64 ?_
            refine TT_goto hK (tgt := 69) dX12_putHead_65 (by decide) ?_
            refine TT_iload_n hK rfl 2 rfl dX12_putHead_69 ?_
            have e94_73_42 : w53_50 73 42 = (w53_50 73) 42 := rfl
            have e95_73_43 : w53_50 73 43 = (w53_50 73) 43 := rfl
            have e96_73_42 : w53_50 73 42 = (w53_50 73) 42 := rfl
            have e97_73_43 : w53_50 73 43 = (w53_50 73) 43 := rfl
            refine iv_X12_320 hK (s_putBits_e (hd2 (h 83 b) (h 87 b) s) 0 n w53_50 hT53_50 (by first | omega | (simp [up, setR] <;> omega)) (by first | omega | (simp [up, setR] <;> omega)) (by rewrite [e94_73_42, e95_73_43]; first | omega | (simp [up, setR] <;> omega)) (by rewrite [e96_73_42, e97_73_43]; exact hr2) (by exact zz2.1) (by first | omega | (simp [up, setR] <;> omega))) (by decide) rfl ⟨by decide, by decide⟩ (by decide) rfl rfl (Nat.le_of_ble_eq_true rfl) ⟨by decide, by decide⟩ dX12_putHead_70 ?_
            intro r9 g70_98 hp9
            obtain ⟨⟨hT_98, hG_98⟩, hr9, p1_98, pb_98⟩ := hp9
            rw [hr9]
            have hF_98 : FRM [73, 88, 100] [42, 43] h g70_98 := FRM_tr hF53_50 hG_98 (by decide) (by decide)
            rw [show w53_50 73 42 = (w53_50 73) 42 from rfl] at p1_98
            rw [show w53_50 73 43 = (w53_50 73) 43 from rfl] at p1_98
            have pb_at70 := pb_98
            show TT K ly 0 0 73 [(0, vR 73), (1, vI b), (2, vI n)] [] g70_98
            refine TT_goto hK (tgt := 115) dX12_putHead_73 (by decide) ?_
            have e99_73_42 : g70_98 73 42 = (g70_98 73) 42 := rfl
            have e100_73_43 : g70_98 73 43 = (g70_98 73) 43 := rfl
            have e101_88 : g70_98 88 = w53_50 88 := (hG_98.1 88 (by decide))
            have e102_73_42 : g70_98 73 42 = (g70_98 73) 42 := rfl
            have e103_73_43 : g70_98 73 43 = (g70_98 73) 43 := rfl
            exact J115_5 g70_98 hT_98 hF_98 (by rewrite [e99_73_42, e100_73_43]; first | omega | (simp [up, setR] <;> omega)) (by rewrite [e101_88]; first | rfl | exact k88) (by rewrite [e102_73_42, e103_73_43]; unfold cntS; first | (rw [if_pos (by omega)]; rw [show n.toNat = 1 by omega] at pb_at70; exact pb_at70.1) | (rw [if_neg (by omega), if_pos (by omega)]; rw [show n.toNat = 2 by omega] at pb_at70; exact pb_at70.1))
      refine TT_aload_n hK rfl 0 rfl dX12_putHead_33 ?_
      refine gf_X12_57 hK (by decide) rfl (q := 87) rfl rfl dX12_putHead_34 ?_
      refine TT_iload_n hK rfl 1 rfl dX12_putHead_37 ?_
      refine TT_iald hK (o := 87) (n := 20) (by decide) rfl (by first | omega | (simp [up, setR] <;> omega)) (by first | omega | (simp [up, setR] <;> omega)) (v := (h 87) b) (rd_ (hF28_3.1 87 (by decide)) rfl) dX12_putHead_38 ?_
      have r104 := ty_87 (i := b) (v := (h 87) b) hT28_3 (rd_ (hF28_3.1 87 (by decide)) rfl) (by omega) (by omega)
      refine TT_if_ne hK (tgt := 53) (irm (by omega) (by omega)) dX12_putHead_39 (by decide) (fun hb39_105 => ?_) (fun hb39_105 => ?_)
      · have e106_73_42 : w28_3 73 42 = (w28_3 73) 42 := rfl
        have e107_73_43 : w28_3 73 43 = (w28_3 73) 43 := rfl
        have e108_73_42 : w28_3 73 42 = (w28_3 73) 42 := rfl
        have e109_73_43 : w28_3 73 43 = (w28_3 73) 43 := rfl
        exact J53_50 w28_3 hT28_3 hF28_3 (by rewrite [e106_73_42, e107_73_43]; first | omega | (simp [up, setR] <;> omega)) (by first | rfl | exact k88) (by rewrite [e108_73_42, e109_73_43]; unfold hd2; first | (rw [if_neg (by omega)]; rw [if_neg (by omega)] at hr1; exact hr1))
      · refine TT_aload_n hK rfl 0 rfl dX12_putHead_42 ?_
        refine TT_aload_n hK rfl 0 rfl dX12_putHead_43 ?_
        refine gf_X12_44 hK (by decide) rfl (q := 83) rfl rfl dX12_putHead_44 ?_
        refine TT_iload_n hK rfl 1 rfl dX12_putHead_47 ?_
        refine TT_iald hK (o := 83) (n := 20) (by decide) rfl (by first | omega | (simp [up, setR] <;> omega)) (by first | omega | (simp [up, setR] <;> omega)) (v := (h 83) b) (rd_ (hF28_3.1 83 (by decide)) rfl) dX12_putHead_48 ?_
        have r110 := ty_83 (i := b) (v := (h 83) b) hT28_3 (rd_ (hF28_3.1 83 (by decide)) rfl) (by omega) (by omega)
        refine TT_iconst hK dX12_putHead_49 ?_
        have e111_73_42 : w28_3 73 42 = (w28_3 73) 42 := rfl
        have e112_73_43 : w28_3 73 43 = (w28_3 73) 43 := rfl
        have e113_73_42 : w28_3 73 42 = (w28_3 73) 42 := rfl
        have e114_73_43 : w28_3 73 43 = (w28_3 73) 43 := rfl
        refine iv_X12_320 hK (s_putBits_e (putS 1 1 s) ((h 83) b) 4 w28_3 hT28_3 (by first | omega | (simp [up, setR] <;> omega)) (by first | omega | (simp [up, setR] <;> omega)) (by rewrite [e111_73_42, e112_73_43]; first | omega | (simp [up, setR] <;> omega)) (by rewrite [e113_73_42, e114_73_43]; rw [if_neg (by omega)] at hr1; exact hr1) (by exact (putS_n 1 1 hpq0).1) (by first | omega | (simp [up, setR] <;> omega))) (by decide) rfl ⟨by decide, by decide⟩ (by decide) rfl rfl (Nat.le_of_ble_eq_true rfl) ⟨by decide, by decide⟩ dX12_putHead_50 ?_
        intro r9 g50_115 hp9
        obtain ⟨⟨hT_115, hG_115⟩, hr9, p1_115, pb_115⟩ := hp9
        rw [hr9]
        have hF_115 : FRM [73, 88, 100] [42, 43] h g50_115 := FRM_tr hF28_3 hG_115 (by decide) (by decide)
        rw [show w28_3 73 42 = (w28_3 73) 42 from rfl] at p1_115
        rw [show w28_3 73 43 = (w28_3 73) 43 from rfl] at p1_115
        have pb_at50 := pb_115
        show TT K ly 0 0 53 [(0, vR 73), (1, vI b), (2, vI n)] [] g50_115
        have e116_73_42 : g50_115 73 42 = (g50_115 73) 42 := rfl
        have e117_73_43 : g50_115 73 43 = (g50_115 73) 43 := rfl
        have e118_88 : g50_115 88 = w28_3 88 := (hG_115.1 88 (by decide))
        have e119_73_42 : g50_115 73 42 = (g50_115 73) 42 := rfl
        have e120_73_43 : g50_115 73 43 = (g50_115 73) 43 := rfl
        exact J53_50 g50_115 hT_115 hF_115 (by rewrite [e116_73_42, e117_73_43]; first | omega | (simp [up, setR] <;> omega)) (by rewrite [e118_88]; first | rfl | exact k88) (by rewrite [e119_73_42, e120_73_43]; unfold hd2; first | (rw [if_pos (by omega)]; exact pb_at50.1) | (rw [if_neg (by omega)]; rw [if_neg (by omega)] at hr1; exact hr1))
    · refine TT_vret hK hQ ?_ dX12_putHead_32
      have e121_73_42 : w28_3 73 42 = (w28_3 73) 42 := rfl
      have e122_73_43 : w28_3 73 43 = (w28_3 73) 43 := rfl
      have e123_73_42 : w28_3 73 42 = (w28_3 73) 42 := rfl
      have e124_73_43 : w28_3 73 43 = (w28_3 73) 43 := rfl
      exact ⟨⟨hT28_3, hF28_3⟩, rfl, (by rewrite [e121_73_42, e122_73_43]; omega), (by rewrite [e123_73_42, e124_73_43]; first | (rw [show h 86 b - h 87 b = n from hn.symm]; unfold hdS; rw [if_pos (by omega)]; rw [if_pos (by omega)] at hr1; exact hr1) | (rw [show h 86 b - h 87 b = n from hn.symm]; unfold hdS; rw [if_neg (by omega)]; exact fin9)), (by rw [show h 86 b - h 87 b = n from hn.symm]; unfold wdS; first | (rw [if_pos (by omega), k88]; exact fup_fs.symm) | (rw [if_neg (by omega)]; exact fin8))⟩
  refine TT_aload_n hK rfl 1 rfl dX12_putHead_14 ?_
  refine TT_iload_n hK rfl 0 rfl dX12_putHead_15 ?_
  refine TT_if_le hK (tgt := 23) (irm (by omega) (by omega)) dX12_putHead_16 (by decide) (fun hb16_125 => ?_) (fun hb16_125 => ?_)
  · refine TT_iconst hK dX12_putHead_23 ?_
    refine TT_iconst hK dX12_putHead_24 ?_
    have e126_73_42 : h 73 42 = (h 73) 42 := rfl
    have e127_73_43 : h 73 43 = (h 73) 43 := rfl
    have e128_73_42 : h 73 42 = (h 73) 42 := rfl
    have e129_73_43 : h 73 43 = (h 73) 43 := rfl
    refine iv_X12_320 hK (s_putBits_e s 0 1 h hT (by first | omega | (simp [up, setR] <;> omega)) (by first | omega | (simp [up, setR] <;> omega)) (by rewrite [e126_73_42, e127_73_43]; first | omega | (simp [up, setR] <;> omega)) (by rewrite [e128_73_42, e129_73_43]; exact hrb) (by exact hpq0) (by first | omega | (simp [up, setR] <;> omega))) (by decide) rfl ⟨by decide, by decide⟩ (by decide) rfl rfl (Nat.le_of_ble_eq_true rfl) ⟨by decide, by decide⟩ dX12_putHead_25 ?_
    intro r9 g25_130 hp9
    obtain ⟨⟨hT_130, hG_130⟩, hr9, p1_130, pb_130⟩ := hp9
    rw [hr9]
    have hF_130 : FRM [73, 88, 100] [42, 43] h g25_130 := FRM_tr hF hG_130 (by decide) (by decide)
    rw [show h 73 42 = (h 73) 42 from rfl] at p1_130
    rw [show h 73 43 = (h 73) 43 from rfl] at p1_130
    have pb_at25 := pb_130
    show TT K ly 0 0 28 [(2, vI n), (0, vR 73), (1, vI b)] [] g25_130
    refine TT_sub [1, 2, 0] rfl ?_
    have e131_73_42 : g25_130 73 42 = (g25_130 73) 42 := rfl
    have e132_73_43 : g25_130 73 43 = (g25_130 73) 43 := rfl
    have e133_88 : g25_130 88 = h 88 := (hG_130.1 88 (by decide))
    have e134_73_42 : g25_130 73 42 = (g25_130 73) 42 := rfl
    have e135_73_43 : g25_130 73 43 = (g25_130 73) 43 := rfl
    exact J28_3 g25_130 hT_130 hF_130 (by rewrite [e131_73_42, e132_73_43]; first | omega | (simp [up, setR] <;> omega)) (by rewrite [e133_88]; first | rfl) (by rewrite [e134_73_42, e135_73_43]; first | (rw [if_pos (by omega)]; exact pb_at25.1) | (rw [if_neg (by omega)]; exact pb_at25.1))
  · refine TT_iconst hK dX12_putHead_19 ?_
    refine TT_goto hK (tgt := 24) dX12_putHead_20 (by decide) ?_
    refine TT_iconst hK dX12_putHead_24 ?_
    have e136_73_42 : h 73 42 = (h 73) 42 := rfl
    have e137_73_43 : h 73 43 = (h 73) 43 := rfl
    have e138_73_42 : h 73 42 = (h 73) 42 := rfl
    have e139_73_43 : h 73 43 = (h 73) 43 := rfl
    refine iv_X12_320 hK (s_putBits_e s 1 1 h hT (by first | omega | (simp [up, setR] <;> omega)) (by first | omega | (simp [up, setR] <;> omega)) (by rewrite [e136_73_42, e137_73_43]; first | omega | (simp [up, setR] <;> omega)) (by rewrite [e138_73_42, e139_73_43]; exact hrb) (by exact hpq0) (by first | omega | (simp [up, setR] <;> omega))) (by decide) rfl ⟨by decide, by decide⟩ (by decide) rfl rfl (Nat.le_of_ble_eq_true rfl) ⟨by decide, by decide⟩ dX12_putHead_25 ?_
    intro r9 g25_140 hp9
    obtain ⟨⟨hT_140, hG_140⟩, hr9, p1_140, pb_140⟩ := hp9
    rw [hr9]
    have hF_140 : FRM [73, 88, 100] [42, 43] h g25_140 := FRM_tr hF hG_140 (by decide) (by decide)
    rw [show h 73 42 = (h 73) 42 from rfl] at p1_140
    rw [show h 73 43 = (h 73) 43 from rfl] at p1_140
    have pb_at25 := pb_140
    show TT K ly 0 0 28 [(2, vI n), (0, vR 73), (1, vI b)] [] g25_140
    refine TT_sub [1, 2, 0] rfl ?_
    have e141_73_42 : g25_140 73 42 = (g25_140 73) 42 := rfl
    have e142_73_43 : g25_140 73 43 = (g25_140 73) 43 := rfl
    have e143_88 : g25_140 88 = h 88 := (hG_140.1 88 (by decide))
    have e144_73_42 : g25_140 73 42 = (g25_140 73) 42 := rfl
    have e145_73_43 : g25_140 73 43 = (g25_140 73) 43 := rfl
    exact J28_3 g25_140 hT_140 hF_140 (by rewrite [e141_73_42, e142_73_43]; first | omega | (simp [up, setR] <;> omega)) (by rewrite [e143_88]; first | rfl) (by rewrite [e144_73_42, e145_73_43]; first | (rw [if_pos (by omega)]; exact pb_at25.1) | (rw [if_neg (by omega)]; exact pb_at25.1))

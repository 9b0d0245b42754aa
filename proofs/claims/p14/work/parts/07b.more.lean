def lcmp_ (a b : Int) : Int := if a < b then -1 else if a = b then 0 else 1
theorem lcmp_lt {a b : Int} (h : lcmp_ a b < 0) : a < b := by unfold lcmp_ at h; (repeat' split at h) <;> omega
theorem lcmp_ge {a b : Int} (h : 0 ≤ lcmp_ a b) : b ≤ a := by unfold lcmp_ at h; (repeat' split at h) <;> omega
theorem lcmp_gt {a b : Int} (h : 0 < lcmp_ a b) : b < a := by unfold lcmp_ at h; (repeat' split at h) <;> omega
theorem lcmp_le {a b : Int} (h : lcmp_ a b ≤ 0) : a ≤ b := by unfold lcmp_ at h; (repeat' split at h) <;> omega
theorem lcmp_eq {a b : Int} (h : lcmp_ a b = 0) : a = b := by unfold lcmp_ at h; (repeat' split at h) <;> omega
theorem lcmp_ne {a b : Int} (h : lcmp_ a b ≠ 0) : a ≠ b := by unfold lcmp_ at h; (repeat' split at h) <;> omega
theorem lcmp_ir (a b : Int) : ir_ (lcmp_ a b) := by unfold lcmp_; (repeat' split) <;> decide
theorem irm {a : Int} (h1 : -2147483648 ≤ a) (h2 : a ≤ 2147483647) : ir_ a := ⟨h1, by omega⟩
theorem lrm {a : Int} (h1 : -9223372036854775808 ≤ a) (h2 : a ≤ 9223372036854775807) : lr_ a := ⟨h1, by omega⟩
/-- a whole number as a long holds it -/
def w64 (z : Int) : Int := (Int64.ofInt z).toInt
theorem w64_of (z : Int) : Int64.ofInt (w64 z) = Int64.ofInt z := Int64.ofInt_toInt _
theorem w64_r (z : Int) : lr_ (w64 z) := lr_of _
theorem w64_id {z : Int} (h : lr_ z) : w64 z = z := lr_to h
section TTM
variable {K : TC_} {own : String} {cc : ByteArray} {nL : Nat} {ret : Option FieldType} {rm : Room} {nn : Nat} {w : Ly_} {kc ks pc : Nat} {lv : List (Nat × PV_)} {st : List PV_} {h : Hp_}
theorem TT_ldc (hK : TOk K own cc nL ret rm nn) {index : Nat} {v : Int} (hw : Cond.constant own index (Int32.ofInt v) ∈ lw_good) (hd : decode cc pc = .ok (.ldc index, 2)) (kk : TT K w kc ks (pc + 2) lv (vI v :: st) h) : TT K w kc ks pc lv st h := by
  obtain ⟨⟨p, l, e, R, s, m, args, below, meth, c, Q⟩, ⟨o1, c1, n1, D, cy, A, n0, ad0⟩⟩ := K
  obtain ⟨rfl, rfl, rfl, hx, hb, hml, hown, hr, hlk, rfl, ⟨y9, b9, r9, hts9⟩, hG, hA, rfl⟩ := hK
  have hts : ∀ w ∈ lw_good, w.before args s = true := fun w hw => hts9 w (List.mem_cons_of_mem _ hw)
  intro ad H locs ls had hP hD hS hl
  exact lv_ldc hx hb hown (hts _ hw) hd (kk ad H locs ls had hP hD hS hl)
theorem TT_ldcw (hK : TOk K own cc nL ret rm nn) {index : Nat} {v : Int} (hw : Cond.constant own index (Int32.ofInt v) ∈ lw_good) (hd : decode cc pc = .ok (.ldc_w index, 3)) (kk : TT K w kc ks (pc + 3) lv (vI v :: st) h) : TT K w kc ks pc lv st h := by
  obtain ⟨⟨p, l, e, R, s, m, args, below, meth, c, Q⟩, ⟨o1, c1, n1, D, cy, A, n0, ad0⟩⟩ := K
  obtain ⟨rfl, rfl, rfl, hx, hb, hml, hown, hr, hlk, rfl, ⟨y9, b9, r9, hts9⟩, hG, hA, rfl⟩ := hK
  have hts : ∀ w ∈ lw_good, w.before args s = true := fun w hw => hts9 w (List.mem_cons_of_mem _ hw)
  intro ad H locs ls had hP hD hS hl
  exact lv_ldcw hx hb hown (hts _ hw) hd (kk ad H locs ls had hP hD hS hl)
theorem TT_ldc2 (hK : TOk K own cc nL ret rm nn) {index : Nat} {v : Int} (hw : Cond.constantLong own index (Int64.ofInt v) ∈ lw_good) (hd : decode cc pc = .ok (.ldc2_w index, 3)) (kk : TT K w kc ks (pc + 3) lv (vJ v :: st) h) : TT K w kc ks pc lv st h := by
  obtain ⟨⟨p, l, e, R, s, m, args, below, meth, c, Q⟩, ⟨o1, c1, n1, D, cy, A, n0, ad0⟩⟩ := K
  obtain ⟨rfl, rfl, rfl, hx, hb, hml, hown, hr, hlk, rfl, ⟨y9, b9, r9, hts9⟩, hG, hA, rfl⟩ := hK
  have hts : ∀ w ∈ lw_good, w.before args s = true := fun w hw => hts9 w (List.mem_cons_of_mem _ hw)
  intro ad H locs ls had hP hD hS hl
  exact lv_ldc2 hx hb hown (hts _ hw) hd (kk ad H locs ls had hP hD hS hl)
theorem TT_lcmp (hK : TOk K own cc nL ret rm nn) {a b : Int} (ha : lr_ a) (hb0 : lr_ b) (hd : decode cc pc = .ok (.lcmp, 1)) (kk : TT K w kc ks (pc + 1) lv (vI (lcmp_ a b) :: st) h) : TT K w kc ks pc lv (vJ b :: vJ a :: st) h := by
  obtain ⟨⟨p, l, e, R, s, m, args, below, meth, c, Q⟩, ⟨o1, c1, n1, D, cy, A, n0, ad0⟩⟩ := K
  obtain ⟨rfl, rfl, rfl, hx, hb, hml, hown, hr, hlk, rfl, ⟨y9, b9, r9, hts9⟩, hG, hA, rfl⟩ := hK
  have hts : ∀ w ∈ lw_good, w.before args s = true := fun w hw => hts9 w (List.mem_cons_of_mem _ hw)
  intro ad H locs ls had hP hD hS hl
  refine W.lcmp hx hb hd ?_
  rw [show lg_cmp (Int64.ofInt a) (Int64.ofInt b) = Int32.ofInt (lcmp_ a b) by
    unfold lg_cmp lcmp_
    by_cases q : b < a
    · rw [if_pos (show Int64.ofInt a > Int64.ofInt b from (lr_lti hb0 ha).mpr q), if_neg (by omega), if_neg (by omega)]; rfl
    · rw [if_neg (show ¬ Int64.ofInt a > Int64.ofInt b from fun z => q ((lr_lti hb0 ha).mp z))]
      by_cases q2 : a = b
      · subst q2; rw [if_pos rfl, if_neg q, if_pos rfl]; rfl
      · rw [if_neg (fun z => q2 ((lr_inj ha hb0).mp z)), if_pos (by omega)]; rfl]
  exact kk ad H locs ls had hP hD hS hl
theorem TT_table (hK : TOk K own cc nL ret rm nn) {z dflt lo hi : Int} {offs : Array Int} {len : Nat} (hz : ir_ z) (hd : decode cc pc = .ok (.tableswitch dflt lo hi offs, len)) (k1 : z < lo ∨ hi < z → ∃ tgt : Nat, (pc : Int) + dflt = (tgt : Int) ∧ TT K w kc ks tgt lv st h) (k2 : lo ≤ z → z ≤ hi → ∃ (off : Int) (tgt : Nat), offs[(z - lo).toNat]? = some off ∧ (pc : Int) + off = (tgt : Int) ∧ TT K w kc ks tgt lv st h) : TT K w kc ks pc lv (vI z :: st) h := by
  obtain ⟨⟨p, l, e, R, s, m, args, below, meth, c, Q⟩, ⟨o1, c1, n1, D, cy, A, n0, ad0⟩⟩ := K
  obtain ⟨rfl, rfl, rfl, hx, hb, hml, hown, hr, hlk, rfl, ⟨y9, b9, r9, hts9⟩, hG, hA, rfl⟩ := hK
  have hts : ∀ w ∈ lw_good, w.before args s = true := fun w hw => hts9 w (List.mem_cons_of_mem _ hw)
  intro ad H locs ls had hP hD hS hl
  have e := ir_to hz
  by_cases q : z < lo ∨ hi < z
  · obtain ⟨tgt, h1, kk⟩ := k1 q
    exact lv_tableOut hx hb hd (by rw [e]; exact q) h1 (kk ad H locs ls had hP hD hS hl)
  · obtain ⟨off, tgt, h1, h2, kk⟩ := k2 (by omega) (by omega)
    exact lv_tableIn hx hb hd (by rw [e]; omega) (by rw [e]; omega) (by rw [e]; exact h1) h2 (kk ad H locs ls had hP hD hS hl)
theorem TT_mminl (hK : TOk K own cc nL ret rm nn) {a b : Int} {index : Nat} (ha : lr_ a) (hb0 : lr_ b) (hw : ∀ w ∈ [Cond.methodLink own index Lib.MathLoose.min_long.x, .static Lib.MathLoose.min_long.x, .initialized "java/lang/Math", .code Lib.MathLoose.min_long.x Lib.MathLoose.min_long.code 4 (some .long)], w ∈ lw_good) (hfr : 1 ≤ rm.frames) (hlo : (st.map pcat).sum + 15 ≤ rm.locals) (hf : kc ≤ rm.cells ∧ ks ≤ rm.slots) (hd : decode cc pc = .ok (.invokestatic index, 3)) (kk : TT K w kc ks (pc + 3) lv (vJ (min a b) :: st) h) : TT K w kc ks pc lv (vJ b :: vJ a :: st) h := by
  obtain ⟨⟨p, l, e, R, s, m, args, below, meth, c, Q⟩, ⟨o1, c1, n1, D, cy, A, n0, ad0⟩⟩ := K
  obtain ⟨rfl, rfl, rfl, hx, hb, hml, hown, hr, hlk, rfl, ⟨y9, b9, r9, hts9⟩, hG, hA, rfl⟩ := hK
  have hts : ∀ w ∈ lw_good, w.before args s = true := fun w hw => hts9 w (List.mem_cons_of_mem _ hw)
  intro ad H locs ls had hP hD hS hl
  refine va_mmin_long hx hb (hml.trans hl.1.symm) hown (hts _ (hw _ (by simp))) (hts _ (hw _ (by simp))) (hts _ (hw _ (by simp))) (hts _ (hw _ (by simp))) hfr (by rw [st_cat]; exact hlo) hf.1 hf.2 hd ?_
  rw [show (if Int64.ofInt b < Int64.ofInt a then Int64.ofInt b else Int64.ofInt a) = Int64.ofInt (min a b) by
    by_cases q : b < a
    · rw [if_pos ((lr_lti hb0 ha).mpr q), Int.min_eq_right (by omega)]
    · rw [if_neg (fun z => q ((lr_lti hb0 ha).mp z)), Int.min_eq_left (by omega)]]
  exact kk ad H locs ls had hP hD hS hl
theorem TT_w64 {a : Int} (kk : TT K w kc ks pc lv (vJ (w64 a) :: st) h) : TT K w kc ks pc lv (vJ a :: st) h := by
  obtain ⟨⟨p, l, e, R, s, m, args, below, meth, c, Q⟩, ⟨o1, c1, n1, D, cy, A, n0, ad0⟩⟩ := K
  intro ad H locs ls had hP hD hS hl
  have := kk ad H locs ls had hP hD hS hl
  have e : cv_ ad (vJ (w64 a)) = cv_ ad (vJ a) := congrArg Value.long (w64_of a)
  rw [List.map_cons, e] at this
  exact this
end TTM

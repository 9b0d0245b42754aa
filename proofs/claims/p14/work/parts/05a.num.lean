/-! whole numbers for ints and longs -/
abbrev ir_ (a : Int) : Prop := -2147483648 ≤ a ∧ a < 2147483648
abbrev lr_ (a : Int) : Prop := -9223372036854775808 ≤ a ∧ a < 9223372036854775808
theorem ir_0 : ir_ 0 := by unfold ir_; omega
theorem iz_0 : Int32.ofInt 0 = 0 := rfl
theorem ir_to {a : Int} (h : ir_ a) : (Int32.ofInt a).toInt = a := Int32.toInt_ofInt_of_le h.1 h.2
theorem lr_to {a : Int} (h : lr_ a) : (Int64.ofInt a).toInt = a := Int64.toInt_ofInt_of_le h.1 h.2
theorem ir_of (x : Int32) : ir_ x.toInt := ⟨x.le_toInt, x.toInt_lt⟩
theorem lr_of (x : Int64) : lr_ x.toInt := ⟨x.le_toInt, x.toInt_lt⟩
theorem ir_inj {a b : Int} (ha : ir_ a) (hb : ir_ b) : Int32.ofInt a = Int32.ofInt b ↔ a = b := ⟨fun h => by rw [← ir_to ha, ← ir_to hb, h], fun h => by rw [h]⟩
theorem ir_lti {a b : Int} (ha : ir_ a) (hb : ir_ b) : Int32.ofInt a < Int32.ofInt b ↔ a < b := by rw [Int32.lt_iff_toInt_lt, ir_to ha, ir_to hb]
theorem ir_lei {a b : Int} (ha : ir_ a) (hb : ir_ b) : Int32.ofInt a ≤ Int32.ofInt b ↔ a ≤ b := by rw [Int32.le_iff_toInt_le, ir_to ha, ir_to hb]
theorem lr_inj {a b : Int} (ha : lr_ a) (hb : lr_ b) : Int64.ofInt a = Int64.ofInt b ↔ a = b := ⟨fun h => by rw [← lr_to ha, ← lr_to hb, h], fun h => by rw [h]⟩
theorem lr_lti {a b : Int} (ha : lr_ a) (hb : lr_ b) : Int64.ofInt a < Int64.ofInt b ↔ a < b := by rw [Int64.lt_iff_toInt_lt, lr_to ha, lr_to hb]
theorem ic_eq_t {a b : Int} (ha : ir_ a) (hb : ir_ b) (h : Int32.ofInt a = Int32.ofInt b) : a = b := (ir_inj ha hb).mp h
theorem ic_eq_f {a b : Int} (ha : ir_ a) (hb : ir_ b) (h : ¬ Int32.ofInt a = Int32.ofInt b) : a ≠ b := fun q => h ((ir_inj ha hb).mpr q)
theorem ic_ne_t {a b : Int} (ha : ir_ a) (hb : ir_ b) (h : ¬ Int32.ofInt a = Int32.ofInt b) : a ≠ b := fun q => h ((ir_inj ha hb).mpr q)
theorem ic_ne_f {a b : Int} (ha : ir_ a) (hb : ir_ b) (h : Int32.ofInt a = Int32.ofInt b) : a = b := (ir_inj ha hb).mp h
theorem ic_lt_t {a b : Int} (ha : ir_ a) (hb : ir_ b) (h : Int32.ofInt a < Int32.ofInt b) : a < b := (ir_lti ha hb).mp h
theorem ic_lt_f {a b : Int} (ha : ir_ a) (hb : ir_ b) (h : ¬ Int32.ofInt a < Int32.ofInt b) : b ≤ a := Int.not_lt.mp fun q => h ((ir_lti ha hb).mpr q)
theorem ic_ge_t {a b : Int} (ha : ir_ a) (hb : ir_ b) (h : Int32.ofInt b ≤ Int32.ofInt a) : b ≤ a := (ir_lei hb ha).mp h
theorem ic_ge_f {a b : Int} (ha : ir_ a) (hb : ir_ b) (h : ¬ Int32.ofInt b ≤ Int32.ofInt a) : a < b := Int.not_le.mp fun q => h ((ir_lei hb ha).mpr q)
theorem ic_gt_t {a b : Int} (ha : ir_ a) (hb : ir_ b) (h : Int32.ofInt b < Int32.ofInt a) : b < a := (ir_lti hb ha).mp h
theorem ic_gt_f {a b : Int} (ha : ir_ a) (hb : ir_ b) (h : ¬ Int32.ofInt b < Int32.ofInt a) : a ≤ b := Int.not_lt.mp fun q => h ((ir_lti hb ha).mpr q)
theorem ic_le_t {a b : Int} (ha : ir_ a) (hb : ir_ b) (h : Int32.ofInt a ≤ Int32.ofInt b) : a ≤ b := (ir_lei ha hb).mp h
theorem ic_le_f {a b : Int} (ha : ir_ a) (hb : ir_ b) (h : ¬ Int32.ofInt a ≤ Int32.ofInt b) : b < a := Int.not_le.mp fun q => h ((ir_lei ha hb).mpr q)
theorem ir_ne0 {b : Int} (hb : ir_ b) (h : 0 < b) : ¬ Int32.ofInt b = 0 := fun q => by
  have := (ir_inj hb ir_0).mp q
  omega
theorem lr_ne0 {b : Int} (hb : lr_ b) (h : 0 < b) : ¬ Int64.ofInt b = 0 := fun q => by
  have := (lr_inj hb (show lr_ 0 by unfold lr_; omega)).mp q
  omega
theorem ir_div {a b : Int} (ha : ir_ a) (hb : ir_ b) (h : 0 < b) : Int32.ofInt (a.tdiv b) = Int32.ofInt a / Int32.ofInt b := by
  have e1 : Int32.minValue.toInt = -2147483648 := by decide
  have e2 : Int32.maxValue.toInt = 2147483647 := by decide
  unfold ir_ at *
  refine Int32.ofInt_tdiv ?_ ?_ ?_ ?_ <;> first | rw [e1] | rw [e2]
  all_goals omega
theorem lr_div {a b : Int} (ha : lr_ a) (hb : lr_ b) (h : 0 < b) : Int64.ofInt (a.tdiv b) = Int64.ofInt a / Int64.ofInt b := by
  have e1 : Int64.minValue.toInt = -9223372036854775808 := by decide
  have e2 : Int64.maxValue.toInt = 9223372036854775807 := by decide
  unfold lr_ at *
  refine Int64.ofInt_tdiv ?_ ?_ ?_ ?_ <;> first | rw [e1] | rw [e2]
  all_goals omega
theorem ir_rem {a b : Int} (ha : ir_ a) (hb : ir_ b) (h : 0 < b) : Int32.ofInt a - Int32.ofInt a / Int32.ofInt b * Int32.ofInt b = Int32.ofInt (a.tmod b) := by
  rw [← ir_div ha hb h, ← Int32.ofInt_mul, ← Int32.ofInt_sub]
  rw [Int.tmod_def, Int.mul_comm b]
theorem lr_rem {a b : Int} (ha : lr_ a) (hb : lr_ b) (h : 0 < b) : Int64.ofInt a - Int64.ofInt a / Int64.ofInt b * Int64.ofInt b = Int64.ofInt (a.tmod b) := by
  rw [← lr_div ha hb h, ← Int64.ofInt_mul, ← Int64.ofInt_sub]
  rw [Int.tmod_def, Int.mul_comm b]
def iand_ (a b : Int) : Int := (Int32.ofInt a &&& Int32.ofInt b).toInt
def ior_ (a b : Int) : Int := (Int32.ofInt a ||| Int32.ofInt b).toInt
def ixor_ (a b : Int) : Int := (Int32.ofInt a ^^^ Int32.ofInt b).toInt
theorem iand__of (a b : Int) : Int32.ofInt (iand_ a b) = Int32.ofInt a &&& Int32.ofInt b := Int32.ofInt_toInt _
theorem ior__of (a b : Int) : Int32.ofInt (ior_ a b) = Int32.ofInt a ||| Int32.ofInt b := Int32.ofInt_toInt _
theorem ixor__of (a b : Int) : Int32.ofInt (ixor_ a b) = Int32.ofInt a ^^^ Int32.ofInt b := Int32.ofInt_toInt _
theorem ir_and (a b : Int) : ir_ (iand_ a b) := ir_of _
theorem ir_or (a b : Int) : ir_ (ior_ a b) := ir_of _
theorem ir_xor (a b : Int) : ir_ (ixor_ a b) := ir_of _
theorem ir_nat {b : Int} (h0 : 0 ≤ b) (h1 : b < 32) : ∃ n : Nat, n < 32 ∧ b = (n : Int) := ⟨b.toNat, by omega, by omega⟩
theorem ir_sm : ∀ n : Fin 32, ((Int32.ofInt ((n : Nat) : Int)).toBitVec.smod 32).toNat = (n : Nat) := by decide
theorem ir_31n : ∀ n : Fin 32, Int32.ofInt ((n : Nat) : Int) &&& 31 = Int32.ofInt ((n : Nat) : Int) := by decide
theorem ir_31 {b : Int} (h0 : 0 ≤ b) (h1 : b < 32) : Int32.ofInt b &&& 31 = Int32.ofInt b := by
  obtain ⟨n, hn, rfl⟩ := ir_nat h0 h1
  exact ir_31n ⟨n, hn⟩
theorem ir_shl {a b : Int} (h0 : 0 ≤ b) (h1 : b < 32) : Int32.ofInt (a * 2 ^ b.toNat) = Int32.ofInt a <<< Int32.ofInt b := by
  obtain ⟨n, hn, rfl⟩ := ir_nat h0 h1
  rw [Int.toNat_natCast]
  apply Int32.toBitVec_inj.mp
  apply BitVec.eq_of_toNat_eq
  rw [pk_shl _ _ n (ir_sm ⟨n, hn⟩), Int32.toBitVec_ofInt, Int32.toBitVec_ofInt, BitVec.toNat_ofInt, BitVec.toNat_ofInt]
  have hM : 0 < (2 : Nat) ^ 32 := by decide
  generalize (2 : Nat) ^ 32 = M at *
  have e1 : (2 : Int) ^ n = ((2 ^ n : Nat) : Int) := by push_cast; rfl
  rw [e1]
  generalize 2 ^ n = k
  have hM' : (0 : Int) < M := by omega
  have q1 := Int.emod_nonneg a (Int.ne_of_gt hM')
  obtain ⟨x, hx⟩ := Int.eq_ofNat_of_zero_le q1
  rw [hx, Int.toNat_natCast]
  have e2 : (a * (k : Int)) % (M : Int) = ((x * k : Nat) : Int) % (M : Int) := by
    rw [Int.natCast_mul, ← hx, Int.emod_def a, Int.sub_mul, Int.mul_assoc, Int.sub_mul_emod_self_left]
  rw [e2, ← Int.natCast_emod, Int.toNat_natCast]
theorem ir_shr {a b : Int} (ha : ir_ a) (h0 : 0 ≤ b) (h1 : b < 32) : Int32.ofInt a >>> Int32.ofInt b = Int32.ofInt (a / 2 ^ b.toNat) := by
  obtain ⟨n, hn, rfl⟩ := ir_nat h0 h1
  rw [Int.toNat_natCast]
  apply Int32.toInt_inj.mp
  rw [pk_shr _ _ n (ir_sm ⟨n, hn⟩), ir_to ha, Int.shiftRight_eq_div_pow, ir_to]
  · push_cast; rfl
  · unfold ir_ at *
    have hp : (0 : Int) < 2 ^ n := Int.pow_pos (by decide)
    constructor
    · exact (Int.le_ediv_iff_mul_le hp).mpr (by
        have : (-2147483648 : Int) * 2 ^ n ≤ -2147483648 * 1 := Int.mul_le_mul_of_nonpos_left (by omega) (by omega)
        omega)
    · exact Int.ediv_lt_of_lt_mul hp (by
        have : (2147483648 : Int) * 1 ≤ 2147483648 * 2 ^ n := Int.mul_le_mul_of_nonneg_left (by omega) (by omega)
        omega)
theorem lr_shl {a b : Int} (h1 : b = 1 ∨ b = 7 ∨ b = 16) : Int64.ofInt a <<< ((Int32.ofInt b).toInt64 &&& 63) = Int64.ofInt (a * 2 ^ b.toNat) := by
  rw [Int64.ofInt_mul]
  apply Int64.toBitVec_inj.mp
  rcases h1 with rfl | rfl | rfl
  · show (Int64.ofInt a).toBitVec <<< 1 = (Int64.ofInt a).toBitVec * BitVec.ofInt 64 (2 ^ 1)
    rw [BitVec.shiftLeft_eq_mul_twoPow]; rfl
  · show (Int64.ofInt a).toBitVec <<< 7 = (Int64.ofInt a).toBitVec * BitVec.ofInt 64 (2 ^ 7)
    rw [BitVec.shiftLeft_eq_mul_twoPow]; rfl
  · show (Int64.ofInt a).toBitVec <<< 16 = (Int64.ofInt a).toBitVec * BitVec.ofInt 64 (2 ^ 16)
    rw [BitVec.shiftLeft_eq_mul_twoPow]; rfl
theorem lr_shr {a b : Int} (ha : lr_ a) (h1 : b = 16) : Int64.ofInt a >>> ((Int32.ofInt b).toInt64 &&& 63) = Int64.ofInt (a / 2 ^ b.toNat) := by
  subst h1
  apply Int64.toInt_inj.mp
  show ((Int64.ofInt a).toBitVec.sshiftRight 16).toInt = _
  rw [BitVec.toInt_sshiftRight]
  show (Int64.ofInt a).toInt >>> 16 = _
  rw [lr_to ha, Int.shiftRight_eq_div_pow, lr_to]
  · rfl
  · show lr_ (a / 65536)
    unfold lr_ at *
    omega
theorem ir_long {a : Int} (h : ir_ a) : (Int32.ofInt a).toInt64 = Int64.ofInt a := by
  have e1 : Int32.minValue.toInt = -2147483648 := by decide
  have e2 : Int32.maxValue.toInt = 2147483647 := by decide
  unfold ir_ at *
  refine Int32.toInt64_ofInt ?_ ?_ <;> first | rw [e1] | rw [e2]
  all_goals omega
/-! locals under the addresses -/
def lvf1 (i : Nat) (q : Nat × PV_) : Bool := !(q.1 == i) && !(q.1 + 1 == i && pcat q.2 == 2)
def lvf2 (i : Nat) (q : Nat × PV_) : Bool := !(q.1 == i) && (!(q.1 == i + 1) && !(q.1 + 1 == i && pcat q.2 == 2))
theorem lvm_at (ad : Nat → Nat) {lv : List (Nat × PV_)} {j i : Nat} {v : PV_} (h : lv[j]? = some (i, v)) : (lv.map fun q => (q.1, cv_ ad q.2))[j]? = some (i, cv_ ad v) := by
  rw [List.getElem?_map, h]; rfl
theorem lvm_st1 (ad : Nat → Nat) {lv lv' : List (Nat × PV_)} {i : Nat} {v : PV_} (h : (i, v) :: lv.filter (lvf1 i) = lv') : (i, cv_ ad v) :: (lv.map fun q => (q.1, cv_ ad q.2)).filter (fun q => !(q.1 == i) && !(q.1 + 1 == i && q.2.category == 2)) = lv'.map fun q => (q.1, cv_ ad q.2) := by
  subst h
  rw [List.filter_map, List.map_cons]
  congr 2
  apply List.filter_congr
  intro q _
  simp only [Function.comp, lvf1, pcat_cv]
theorem lvm_st2 (ad : Nat → Nat) {lv lv' : List (Nat × PV_)} {i : Nat} {v : PV_} (h : (i, v) :: lv.filter (lvf2 i) = lv') : (i, cv_ ad v) :: (lv.map fun q => (q.1, cv_ ad q.2)).filter (fun q => !(q.1 == i) && (!(q.1 == i + 1) && !(q.1 + 1 == i && q.2.category == 2))) = lv'.map fun q => (q.1, cv_ ad q.2) := by
  subst h
  rw [List.filter_map, List.map_cons]
  congr 2
  apply List.filter_congr
  intro q _
  simp only [Function.comp, lvf2, pcat_cv]

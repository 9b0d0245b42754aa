/-! small rows that the generator uses -/
theorem setR_ne (h : Hp_) {o o' : Nat} (a b : Int) (f : Int → Int) (i' : Int) (hn : o' ≠ o) : setR h o a b f o' i' = h o' i' := by simp [setR, hn]
theorem setR_step (h : Hp_) (o : Nat) (a i : Int) (f : Int → Int) (v : Int) (hi : a ≤ i) (hv : v = f i) : up (setR h o a i f) o i v = setR h o a (i + 1) f := by
  subst hv
  funext o' i'
  unfold up setR
  by_cases h1 : o' = o
  · by_cases h2 : i' = i
    · subst h2
      rw [if_pos ⟨h1, rfl⟩, if_pos ⟨h1, hi, by omega⟩]
    · rw [if_neg (fun q => h2 q.2)]
      by_cases h3 : a ≤ i' ∧ i' < i
      · rw [if_pos ⟨h1, h3⟩, if_pos ⟨h1, h3.1, by omega⟩]
      · rw [if_neg (fun q => h3 q.2), if_neg (fun q => h3 ⟨q.2.1, by omega⟩)]
  · rw [if_neg (fun q => h1 q.1), if_neg (fun q => h1 q.1), if_neg (fun q => h1 q.1)]
theorem setR_0 (h : Hp_) (o : Nat) (a : Int) (f : Int → Int) : h = setR h o a a f := by
  funext o' i'
  unfold setR
  rw [if_neg (fun q => by omega)]
theorem setR_in (h : Hp_) (o : Nat) {a b i : Int} (f : Int → Int) (h1 : a ≤ i) (h2 : i < b) : setR h o a b f o i = f i := by simp [setR, h1, h2]
theorem setR_out (h : Hp_) (o : Nat) {a b i : Int} (f : Int → Int) (h1 : i < a ∨ b ≤ i) : setR h o a b f o i = h o i := by
  unfold setR
  rw [if_neg (fun q => by omega)]
theorem iand_m (a : Int) (k : Nat) (hk : k ≤ 30) : iand_ a (2 ^ k - 1) = a % 2 ^ k := by
  have hp : (2 : Nat) ^ k ≤ 2 ^ 30 := Nat.pow_le_pow_right (by decide) hk
  have hp2 : 0 < (2 : Nat) ^ k := Nat.two_pow_pos k
  have e1 : (2 : Int) ^ k = ((2 ^ k : Nat) : Int) := by push_cast; rfl
  have hm : (Int32.ofInt ((2 : Int) ^ k - 1)).toBitVec.toNat = 2 ^ k - 1 := by
    rw [Int32.toBitVec_ofInt, BitVec.toNat_ofInt, e1]
    have e2 : (((2 ^ k : Nat) : Int) - 1) % ((2 ^ 32 : Nat) : Int) = ((2 ^ k : Nat) : Int) - 1 := Int.emod_eq_of_lt (by omega) (by omega)
    rw [e2]; omega
  unfold iand_
  rw [pk_and _ k hm]
  have h3 : (Int32.ofInt a).toBitVec.toNat % 2 ^ k < 2 ^ k := Nat.mod_lt _ hp2
  rw [nI_toInt (by omega), Int32.toBitVec_ofInt, BitVec.toNat_ofInt, e1]
  have hM : (0 : Int) < ((2 ^ 32 : Nat) : Int) := by decide
  have q1 := Int.emod_nonneg a (Int.ne_of_gt hM)
  rw [Int.natCast_emod, Int.toNat_of_nonneg q1]
  have hd : ((2 ^ k : Nat) : Int) ∣ ((2 ^ 32 : Nat) : Int) := by
    exact Int.natCast_dvd_natCast.mpr (Nat.pow_dvd_pow 2 (by omega))
  exact Int.emod_emod_of_dvd a hd
section TTN
variable {K : TC_} {own : String} {cc : ByteArray} {nL : Nat} {ret : Option FieldType} {rm : Room} {nn : Nat} {w : Ly_} {kc ks pc : Nat} {lv : List (Nat × PV_)} {st : List PV_} {h : Hp_}
theorem TT_nmI {e : Int} (k : ∀ x : Int, x = e → TT K w kc ks pc lv (vI x :: st) h) : TT K w kc ks pc lv (vI e :: st) h := k e rfl
theorem TT_nmJ {e : Int} (k : ∀ x : Int, x = e → TT K w kc ks pc lv (vJ x :: st) h) : TT K w kc ks pc lv (vJ e :: st) h := k e rfl
theorem TT_cgI {a b : Int} (e : a = b) (k : TT K w kc ks pc lv (vI b :: st) h) : TT K w kc ks pc lv (vI a :: st) h := e ▸ k
theorem TT_cgJ {a b : Int} (e : a = b) (k : TT K w kc ks pc lv (vJ b :: st) h) : TT K w kc ks pc lv (vJ a :: st) h := e ▸ k
theorem TT_idivn (hK : TOk K own cc nL ret rm nn) {a b : Int} (ha : ir_ a) (hb0 : ir_ b) (h0 : 0 ≤ a) (h1 : 0 < b) (hd : decode cc pc = .ok (.idiv, 1)) (k : TT K w kc ks (pc + 1) lv (vI (a / b) :: st) h) : TT K w kc ks pc lv (vI b :: vI a :: st) h :=
  TT_idiv hK ha hb0 h1 hd (TT_cgI (Int.tdiv_eq_ediv_of_nonneg h0) k)
theorem TT_iremn (hK : TOk K own cc nL ret rm nn) {a b : Int} (ha : ir_ a) (hb0 : ir_ b) (h0 : 0 ≤ a) (h1 : 0 < b) (hd : decode cc pc = .ok (.irem, 1)) (k : TT K w kc ks (pc + 1) lv (vI (a % b) :: st) h) : TT K w kc ks pc lv (vI b :: vI a :: st) h :=
  TT_irem hK ha hb0 h1 hd (TT_cgI (Int.tmod_eq_emod_of_nonneg h0) k)
theorem TT_ldivn (hK : TOk K own cc nL ret rm nn) {a b : Int} (ha : lr_ a) (hb0 : lr_ b) (h0 : 0 ≤ a) (h1 : 0 < b) (hd : decode cc pc = .ok (.ldiv, 1)) (k : TT K w kc ks (pc + 1) lv (vJ (a / b) :: st) h) : TT K w kc ks pc lv (vJ b :: vJ a :: st) h :=
  TT_ldiv hK ha hb0 h1 hd (TT_cgJ (Int.tdiv_eq_ediv_of_nonneg h0) k)
theorem TT_lremn (hK : TOk K own cc nL ret rm nn) {a b : Int} (ha : lr_ a) (hb0 : lr_ b) (h0 : 0 ≤ a) (h1 : 0 < b) (hd : decode cc pc = .ok (.lrem, 1)) (k : TT K w kc ks (pc + 1) lv (vJ (a % b) :: st) h) : TT K w kc ks pc lv (vJ b :: vJ a :: st) h :=
  TT_lrem hK ha hb0 h1 hd (TT_cgJ (Int.tmod_eq_emod_of_nonneg h0) k)
end TTN

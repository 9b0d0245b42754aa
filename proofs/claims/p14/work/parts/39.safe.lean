/-! every number of the heap stays in its range; what isn't named stays as it was -/
def tyL : List (List (Int × Int)) := [[(-2147483648, 2147483647), (-2147483648, 2147483647), (-2147483648, 2147483647), (-2147483648, 2147483647), (-2147483648, 2147483647)], [(-2147483648, 2147483647), (0, 8), (0, 8)], [(0, 255)], [(-2147483648, 2147483647), (0, 8), (0, 8)], [(0, 255)], [(-2147483648, 2147483647), (0, 1024), (0, 8), (-2147483648, 2147483647), (-2147483648, 2147483647)], [(0, 255)], [(-2147483648, 2147483647), (-2147483648, 2147483647), (-2147483648, 2147483647), (-2147483648, 2147483647), (-2147483648, 2147483647), (-2147483648, 2147483647), (-2147483648, 2147483647), (-2147483648, 2147483647), (-2147483648, 2147483647), (-2147483648, 2147483647), (-2147483648, 2147483647), (-2147483648, 2147483647)], [(-2147483648, 2147483647), (-2147483648, 2147483647), (-2147483648, 2147483647), (-2147483648, 2147483647), (-2147483648, 2147483647), (-2147483648, 2147483647), (-2147483648, 2147483647), (0, 8), (0, 8), (0, 3), (0, 10)], [(-2147483648, 2147483647)], [(0, 8)], [(0, 8)], [(0, 8)], [(0, 8)], [(-2147483648, 2147483647)], [(-2147483648, 2147483647)], [(0, 12)], [(0, 1024)], [(-1, 1024)], [(0, 1024)], [(0, 34)], [(-2147483648, 2147483647)], [(-2147483648, 2147483647), (0, 1024), (0, 8), (-2147483648, 2147483647), (-2147483648, 2147483647)], [(0, 255)], [(-2147483648, 2147483647), (-2147483648, 2147483647), (-2147483648, 2147483647), (0, 1024), (0, 34)], [(0, 18)], [(0, 1)], [(0, 1024)], [(-2147483648, 2147483647), (-2147483648, 2147483647), (-2147483648, 2147483647), (-2147483648, 2147483647), (-2147483648, 2147483647), (-2147483648, 2147483647), (0, 8), (0, 8), (0, 2), (-2147483648, 2147483647)], [(-2147483648, 2147483647)], [(-2147483648, 2147483647)], [(-1, 1)], [(0, 1)], [(0, 1)], [(-2147483648, 2147483647), (-2147483648, 2147483647), (0, 1024), (-2147483648, 2147483647), (-2147483648, 2147483647), (0, 12)], [(-2147483648, 2147483647), (-2147483648, 2147483647)], [(0, 46)], [(0, 1)], [(0, 255)], [(-2147483648, 2147483647), (-2147483648, 2147483647), (0, 1024), (0, 1024), (0, 1024), (-2147483648, 2147483647), (0, 8), (-9223372036854775808, 9223372036854775807)], [(-2147483648, 2147483647), (-2147483648, 2147483647)], [(0, 46)], [(0, 1)], [(0, 255)], [(-2147483648, 2147483647), (-2147483648, 2147483647), (-2147483648, 2147483647), (-2147483648, 2147483647), (-2147483648, 2147483647), (-2147483648, 2147483647), (-2147483648, 2147483647), (-2147483648, 2147483647), (-2147483648, 2147483647), (-2147483648, 2147483647), (-2147483648, 2147483647), (-2147483648, 2147483647), (0, 10)], [(-2147483648, 2147483647), (-2147483648, 2147483647), (-2147483648, 2147483647), (-2147483648, 2147483647), (-2147483648, 2147483647), (-2147483648, 2147483647), (-2147483648, 2147483647), (0, 8), (0, 8), (0, 3), (0, 10)], [(-2147483648, 2147483647)], [(0, 8)], [(0, 8)], [(0, 8)], [(0, 8)], [(-2147483648, 2147483647)], [(-2147483648, 2147483647)], [(0, 12)], [(-2147483648, 2147483647)], [(-2147483648, 2147483647)], [(-2147483648, 2147483647)], [(0, 1048576)], [(0, 3)], [(-2147483648, 2147483647)], [(0, 1048576)], [(-2147483648, 2147483647)], [(-2147483648, 2147483647), (-2147483648, 2147483647), (0, 1024), (0, 1024), (0, 1024), (-2147483648, 2147483647), (0, 8), (-9223372036854775808, 9223372036854775807)], [(-2147483648, 2147483647), (-2147483648, 2147483647)], [(0, 46)], [(0, 1)], [(0, 255)], [(-2147483648, 2147483647), (-2147483648, 2147483647), (-2147483648, 2147483647), (-2147483648, 2147483647), (-2147483648, 2147483647), (-2147483648, 2147483647), (0, 8), (0, 8), (0, 2), (-2147483648, 2147483647)], [(-2147483648, 2147483647)], [(-2147483648, 2147483647)], [(-1, 1)], [(0, 1)], [(0, 1)], [(-2147483648, 2147483647), (-2147483648, 2147483647), (0, 1), (1, 8), (1, 8), (-2147483648, 2147483647), (-2147483648, 2147483647), (-2147483648, 2147483647), (-2147483648, 2147483647), (-2147483648, 2147483647), (-2147483648, 2147483647), (-2147483648, 2147483647), (-2147483648, 2147483647), (-2147483648, 2147483647), (-2147483648, 2147483647), (-2147483648, 2147483647), (-2147483648, 2147483647), (-2147483648, 2147483647), (0, 10), (-2147483648, 2147483647), (-2147483648, 2147483647), (-2147483648, 2147483647), (-2147483648, 2147483647), (-2147483648, 2147483647), (-2147483648, 2147483647), (-2147483648, 2147483647), (0, 19), (-2147483648, 2147483647), (0, 1), (0, 2), (-2147483648, 2147483647), (-2147483648, 2147483647), (0, 131072), (-9223372036854775808, 9223372036854775807), (0, 12), (-2147483648, 2147483647), (0, 3200), (-2147483648, 2147483647), (0, 4400), (0, 4400), (-2147483648, 2147483647), (0, 4400), (0, 4400), (0, 7), (0, 4400), (0, 1), (-2147483648, 2147483647), (-2147483648, 2147483647), (-2147483648, 2147483647), (-2147483648, 2147483647), (0, 1), (0, 8), (0, 8), (-2147483648, 2147483647), (-2147483648, 2147483647), (0, 10)], [(1, 22017)], [(0, 4646)], [(0, 255)], [(-2147483648, 2147483647)], [(-2147483648, 2147483647)], [(-2147483648, 2147483647)], [(0, 8)], [(0, 8)], [(0, 2)], [(0, 15)], [(-2147483648, 2147483647)], [(0, 1)], [(-2147483648, 2147483647)], [(-2147483648, 2147483647)], [(-2147483648, 2147483647)], [(-2147483648, 2147483647)], [(0, 4400)], [(0, 4400)], [(0, 4400)], [(-1, 1)], [(0, 1)], [(0, 1)], [(0, 46)], [(0, 1)], [(-2147483648, 2147483647)], [(-2147483648, 2147483647)], [(-2147483648, 2147483647)], [(0, 4400)], [(0, 4400)], [(0, 3)], [(0, 536870912)], [(0, 255)], [(-2147483648, 2147483647)], [(-9223372036854775808, 9223372036854775807)]]
def splL (o : Nat) (i : Int) : Option (Int × Int) := if o = 83 ∧ i < 10 then some (0, 12) else if o = 84 ∧ i < 640 then some (0, 4095) else if o = 86 ∧ i < 10 then some (0, 34) else if o = 87 ∧ i < 10 then some (0, 34) else if o = 88 ∧ i < 10 then some (0, 13) else none
def tyr (o : Nat) (i : Int) : Int × Int := if let some p := splL o i then p else if (sh o).1 < 12 then (tyL.getD o []).getD i.toNat (0, 0) else (tyL.getD o []).getD 0 (0, 0)
def nsl (o : Nat) : Int := if (sh o).1 < 12 then ((fn_ (sh o).1 : Nat) : Int) else (((sh o).2 : Nat) : Int)
def TY (h : Hp_) : Prop := ∀ (o : Nat) (i : Int), o < 108 → 0 ≤ i → i < nsl o → (tyr o i).1 ≤ h o i ∧ h o i ≤ (tyr o i).2
def FR (ws : List Nat) (h h' : Hp_) : Prop := ∀ o, o ∉ ws → h' o = h o
theorem FR_rf (ws : List Nat) (h : Hp_) : FR ws h h := fun _ _ => rfl
theorem FR_up {ws : List Nat} {h h1 h2 : Hp_} {o : Nat} {i v : Int} (e : up h1 o i v = h2) (hF : FR ws h h1) (ho : o ∈ ws) : FR ws h h2 := by
  intro q hq
  rw [← e]
  have : q ≠ o := fun z => hq (z ▸ ho)
  rw [show up h1 o i v q = h1 q from funext fun j => up_ne h1 i v j this]
  exact hF q hq
theorem FR_tr {ws ws2 : List Nat} {h h1 h2 : Hp_} (hF : FR ws h h1) (hG : FR ws2 h1 h2) (hs : ∀ o ∈ ws2, o ∈ ws) : FR ws h h2 := fun q hq => (hG q (fun z => hq (hs q z))).trans (hF q hq)
theorem TY_up {h h2 : Hp_} {o : Nat} {i v : Int} (hT : TY h) (e : up h o i v = h2) (hv : o < 108 → 0 ≤ i → i < nsl o → (tyr o i).1 ≤ v ∧ v ≤ (tyr o i).2) : TY h2 := by
  intro q j h0 h1 h3
  rw [← e]
  unfold up
  by_cases z : q = o ∧ j = i
  · rw [if_pos z]
    obtain ⟨rfl, rfl⟩ := z
    exact hv h0 h1 h3
  · rw [if_neg z]
    exact hT q j h0 h1 h3
section TW
variable {K : TC_} {w : Ly_} {kc ks pc : Nat} {lv : List (Nat × PV_)} {st : List PV_} {h : Hp_}
theorem TT_w32 {a : Int} (kk : ∀ x : Int, -2147483648 ≤ x ∧ x ≤ 2147483647 → TT K w kc ks pc lv (vI x :: st) h) : TT K w kc ks pc lv (vI a :: st) h := by
  have k1 := kk (Int32.ofInt a).toInt (by have := ir_of (Int32.ofInt a); exact ⟨this.1, by have := this.2; omega⟩)
  obtain ⟨⟨p, l, e, R, s, m, args, below, meth, c, Q⟩, ⟨o1, c1, n1, D, cy, A, n0, ad0⟩⟩ := K
  intro ad H locs ls had hP hD hS hl
  have k2 := k1 ad H locs ls had hP hD hS hl
  have e1 : cv_ ad (vI (Int32.ofInt a).toInt) = cv_ ad (vI a) := by
    show Value.int (Int32.ofInt (Int32.ofInt a).toInt) = Value.int (Int32.ofInt a)
    rw [Int32.ofInt_toInt]
  rw [List.map_cons, e1] at k2
  exact k2
theorem TT_w64f {a : Int} (kk : ∀ x : Int, -9223372036854775808 ≤ x ∧ x ≤ 9223372036854775807 → TT K w kc ks pc lv (vJ x :: st) h) : TT K w kc ks pc lv (vJ a :: st) h := by
  have k1 := kk (Int64.ofInt a).toInt (by have := lr_of (Int64.ofInt a); exact ⟨this.1, by have := this.2; omega⟩)
  obtain ⟨⟨p, l, e, R, s, m, args, below, meth, c, Q⟩, ⟨o1, c1, n1, D, cy, A, n0, ad0⟩⟩ := K
  intro ad H locs ls had hP hD hS hl
  have k2 := k1 ad H locs ls had hP hD hS hl
  have e1 : cv_ ad (vJ (Int64.ofInt a).toInt) = cv_ ad (vJ a) := by
    show Value.long (Int64.ofInt (Int64.ofInt a).toInt) = Value.long (Int64.ofInt a)
    rw [Int64.ofInt_toInt]
  rw [List.map_cons, e1] at k2
  exact k2
variable {own : String} {cc : ByteArray} {nL : Nat} {ret : Option FieldType} {rm : Room} {nn : Nat}
theorem TT_ishr_a (hK : TOk K own cc nL ret rm nn) {a b : Int} (hd : decode cc pc = .ok (.ishr, 1)) (kk : ∀ x : Int, -2147483648 ≤ x ∧ x ≤ 2147483647 → TT K w kc ks (pc + 1) lv (vI x :: st) h) : TT K w kc ks pc lv (vI b :: vI a :: st) h := by
  have k := kk (Int32.ofInt a >>> (Int32.ofInt b &&& 31)).toInt (by have := ir_of (Int32.ofInt a >>> (Int32.ofInt b &&& 31)); exact ⟨this.1, by have := this.2; omega⟩)
  obtain ⟨⟨p, l, e, R, s, m, args, below, meth, c, Q⟩, ⟨o1, c1, n1, D, cy, A, n0, ad0⟩⟩ := K
  obtain ⟨rfl, rfl, rfl, hx, hb, hml, hown, hr, hlk, hR, hts, hG, hA, hnn⟩ := hK
  intro ad H locs ls had hP hD hS hl
  refine lv_ishr hx hb hd ?_
  rw [← Int32.ofInt_toInt (Int32.ofInt a >>> (Int32.ofInt b &&& 31))]
  exact k ad H locs ls had hP hD hS hl
theorem TT_ishl_a (hK : TOk K own cc nL ret rm nn) {a b : Int} (hd : decode cc pc = .ok (.ishl, 1)) (kk : ∀ x : Int, -2147483648 ≤ x ∧ x ≤ 2147483647 → TT K w kc ks (pc + 1) lv (vI x :: st) h) : TT K w kc ks pc lv (vI b :: vI a :: st) h := by
  have k := kk (Int32.ofInt a <<< (Int32.ofInt b &&& 31)).toInt (by have := ir_of (Int32.ofInt a <<< (Int32.ofInt b &&& 31)); exact ⟨this.1, by have := this.2; omega⟩)
  obtain ⟨⟨p, l, e, R, s, m, args, below, meth, c, Q⟩, ⟨o1, c1, n1, D, cy, A, n0, ad0⟩⟩ := K
  obtain ⟨rfl, rfl, rfl, hx, hb, hml, hown, hr, hlk, hR, hts, hG, hA, hnn⟩ := hK
  intro ad H locs ls had hP hD hS hl
  refine lv_ishl hx hb hd ?_
  rw [← Int32.ofInt_toInt (Int32.ofInt a <<< (Int32.ofInt b &&& 31))]
  exact k ad H locs ls had hP hD hS hl
end TW
def BDQ (l w t g : Int → Int) : Prop := ∀ b, 0 ≤ b → b < 10 → l b + w b ≤ 8 ∧ t b + g b ≤ 8
theorem BDQ_up {l w t g : Int → Int} {b x bw y bh : Int} (hq : BDQ l w t g) (h1 : x + bw ≤ 8) (h2 : y + bh ≤ 8) : BDQ (fup l b x) (fup w b bw) (fup t b y) (fup g b bh) := by
  intro j h0 h3
  have := hq j h0 h3
  by_cases e : j = b
  · subst e
    rw [fup_eq, fup_eq, fup_eq, fup_eq]
    exact ⟨h1, h2⟩
  · rw [fup_ne _ _ e, fup_ne _ _ e, fup_ne _ _ e, fup_ne _ _ e]
    exact this
theorem tab_46 (i : Nat) (j : Int) (hi : i = 1 ∨ i = 2) (h0 : 0 ≤ j) (h1 : j ≤ 46) : 0 ≤ (stT i).getD j.toNat 0 ∧ (stT i).getD j.toNat 0 ≤ 46 := by
  have key : ∀ n : Fin 47, (0 ≤ (stT 1).getD n 0 ∧ (stT 1).getD n 0 ≤ 46) ∧ (0 ≤ (stT 2).getD n 0 ∧ (stT 2).getD n 0 ≤ 46) := by decide +kernel
  have := key ⟨j.toNat, by omega⟩
  rcases hi with rfl | rfl
  · exact this.1
  · exact this.2
theorem tab_any (i : Nat) (j : Int) (hi : i = 0) (h0 : 0 ≤ j) (h1 : j ≤ 46) : 0 ≤ (stT i).getD j.toNat 0 ∧ (stT i).getD j.toNat 0 ≤ 22017 := by
  have key : ∀ n : Fin 47, 0 ≤ (stT 0).getD n 0 ∧ (stT 0).getD n 0 ≤ 22017 := by decide +kernel
  subst hi
  exact key ⟨j.toNat, by omega⟩
theorem ixor_01 {a b : Int} (ha : 0 ≤ a ∧ a ≤ 1) (hb : 0 ≤ b ∧ b ≤ 1) : ixor_ a b = if a = b then 0 else 1 := by
  have h1 : a = 0 ∨ a = 1 := by omega
  have h2 : b = 0 ∨ b = 1 := by omega
  rcases h1 with rfl | rfl <;> rcases h2 with rfl | rfl <;> decide
theorem ior_r {a b : Int} (k : Nat) (hk : k ≤ 30) (ha : 0 ≤ a ∧ a < 2 ^ k) (hb : 0 ≤ b ∧ b < 2 ^ k) : 0 ≤ ior_ a b ∧ ior_ a b < 2 ^ k := by
  have hp : (2 : Nat) ^ k ≤ 2 ^ 30 := Nat.pow_le_pow_right (by decide) hk
  have e1 : (2 : Int) ^ k = ((2 ^ k : Nat) : Int) := by push_cast; rfl
  rw [e1] at *
  have q : ∀ x : Int, 0 ≤ x → x < ((2 ^ k : Nat) : Int) → (Int32.ofInt x).toBitVec.toNat < 2 ^ k := by
    intro x h0 h1
    rw [Int32.toBitVec_ofInt, BitVec.toNat_ofInt, Int.emod_eq_of_lt h0 (by have : (2 : Nat) ^ 32 = 4294967296 := (by decide); omega)]
    omega
  have h3 : (Int32.ofInt a ||| Int32.ofInt b).toBitVec.toNat < 2 ^ k := by
    rw [Int32.toBitVec_or, BitVec.toNat_or]
    exact Nat.or_lt_two_pow (q a ha.1 ha.2) (q b hb.1 hb.2)
  have h4 : (Int32.ofInt a ||| Int32.ofInt b).toInt = ((Int32.ofInt a ||| Int32.ofInt b).toBitVec.toNat : Int) := BitVec.toInt_eq_toNat_of_lt (by omega)
  unfold ior_
  rw [h4]
  omega
theorem sdA {n l p z : Int} (hl : 0 ≤ l ∧ l ≤ 3) (hp : p = 1 * 2 ^ l.toNat) (hz : z = (n + p - 1) / 2 ^ l.toNat) : (l = 0 → z = n) ∧ (l = 1 → z = (n + 1) / 2) ∧ (l = 2 → z = (n + 3) / 4) ∧ (l = 3 → z = (n + 7) / 8) := by
  rcases (show l = 0 ∨ l = 1 ∨ l = 2 ∨ l = 3 by omega) with rfl | rfl | rfl | rfl
  · rw [show (2 : Int) ^ (0 : Int).toNat = 1 from rfl] at hp hz; omega
  · rw [show (2 : Int) ^ (1 : Int).toNat = 2 from rfl] at hp hz; omega
  · rw [show (2 : Int) ^ (2 : Int).toNat = 4 from rfl] at hp hz; omega
  · rw [show (2 : Int) ^ (3 : Int).toNat = 8 from rfl] at hp hz; omega
theorem sdP {l p : Int} (hl : 0 ≤ l ∧ l ≤ 3) (hp : p = 1 * 2 ^ l.toNat) : 1 ≤ p ∧ p ≤ 8 := by
  rcases (show l = 0 ∨ l = 1 ∨ l = 2 ∨ l = 3 by omega) with rfl | rfl | rfl | rfl
  · rw [show (2 : Int) ^ (0 : Int).toNat = 1 from rfl] at hp; omega
  · rw [show (2 : Int) ^ (1 : Int).toNat = 2 from rfl] at hp; omega
  · rw [show (2 : Int) ^ (2 : Int).toNat = 4 from rfl] at hp; omega
  · rw [show (2 : Int) ^ (3 : Int).toNat = 8 from rfl] at hp; omega
theorem ior_255 {a b : Int} (ha : 0 ≤ a ∧ a ≤ 255) (hb : 0 ≤ b ∧ b ≤ 255) : 0 ≤ ior_ a b ∧ ior_ a b ≤ 255 := by
  have h1 : (2 : Int) ^ 8 = 256 := by decide
  have := ior_r (a := a) (b := b) 8 (by decide) (by omega) (by omega)
  omega
theorem ior_4095 {a b : Int} (ha : 0 ≤ a ∧ a ≤ 4095) (hb : 0 ≤ b ∧ b ≤ 4095) : 0 ≤ ior_ a b ∧ ior_ a b ≤ 4095 := by
  have h1 : (2 : Int) ^ 12 = 4096 := by decide
  have := ior_r (a := a) (b := b) 12 (by decide) (by omega) (by omega)
  omega
theorem sh7 {y f : Int} (hy : 0 ≤ y ∧ y ≤ 1) (hf : 0 ≤ f ∧ f ≤ 7) : 0 ≤ y * 2 ^ f.toNat ∧ y * 2 ^ f.toNat ≤ 128 := by
  have key : ∀ n : Fin 8, (0 : Int) ≤ 2 ^ n.val ∧ (2 : Int) ^ n.val ≤ 128 := by decide
  have k := key ⟨f.toNat, by omega⟩
  rcases (show y = 0 ∨ y = 1 by omega) with rfl | rfl
  · rw [Int.zero_mul]; decide
  · rw [Int.one_mul]; exact k
def SDA (n l z : Int) : Prop := (l = 0 → z = n) ∧ (l = 1 → z = (n + 1) / 2) ∧ (l = 2 → z = (n + 3) / 4) ∧ (l = 3 → z = (n + 7) / 8)
theorem SDA_le {n l z z' : Int} (hn : 0 ≤ n) (hl : 1 ≤ l ∧ l ≤ 3) (h1 : SDA n (l - 1) z) (h2 : SDA n l z') : z' ≤ z := by
  unfold SDA at h1 h2
  rcases (show l = 1 ∨ l = 2 ∨ l = 3 by omega) with rfl | rfl | rfl <;> omega
theorem us_1 (a : Nat) (n : Nat) (h : a ≤ 2147483647) (hn : n = 1 ∨ n = 2 ∨ n = 4 ∨ n = 8 ∨ n = 16) : ((Int32.ofInt ((a : Nat) : Int)).toUInt32 >>> ((Int32.ofInt ((n : Nat) : Int)).toUInt32 &&& Int32.toUInt32 31)).toInt32 = Int32.ofInt (((a / 2 ^ n : Nat)) : Int) := by
  have ha : (Int32.ofInt ((a : Nat) : Int)).toBitVec.toNat = a := by
    rw [Int32.toBitVec_ofInt, BitVec.toNat_ofInt]
    omega
  have hb : (Int32.ofInt (((a / 2 ^ n : Nat)) : Int)).toBitVec.toNat = a / 2 ^ n := by
    have h2 : a / 2 ^ n ≤ a := Nat.div_le_self _ _
    generalize a / 2 ^ n = z at h2 ⊢
    rw [Int32.toBitVec_ofInt, BitVec.toNat_ofInt]
    omega
  apply Int32.toBitVec_inj.mp
  apply BitVec.eq_of_toNat_eq
  rw [hb]
  rcases hn with rfl | rfl | rfl | rfl | rfl
  all_goals
    first
    | (show ((Int32.ofInt ((a : Nat) : Int)).toBitVec >>> 1).toNat = _; rw [BitVec.toNat_ushiftRight, ha, Nat.shiftRight_eq_div_pow])
    | (show ((Int32.ofInt ((a : Nat) : Int)).toBitVec >>> 2).toNat = _; rw [BitVec.toNat_ushiftRight, ha, Nat.shiftRight_eq_div_pow])
    | (show ((Int32.ofInt ((a : Nat) : Int)).toBitVec >>> 4).toNat = _; rw [BitVec.toNat_ushiftRight, ha, Nat.shiftRight_eq_div_pow])
    | (show ((Int32.ofInt ((a : Nat) : Int)).toBitVec >>> 8).toNat = _; rw [BitVec.toNat_ushiftRight, ha, Nat.shiftRight_eq_div_pow])
    | (show ((Int32.ofInt ((a : Nat) : Int)).toBitVec >>> 16).toNat = _; rw [BitVec.toNat_ushiftRight, ha, Nat.shiftRight_eq_div_pow])
section US
variable {own : String} {cc : ByteArray} {nL : Nat} {ret : Option FieldType} {pc : Nat}
theorem TT_iushr {K : TC_} {rm : Room} {nn : Nat} {w : Ly_} {kc ks : Nat} {lv : List (Nat × PV_)} {st : List PV_} {h : Hp_} (hK : TOk K own cc nL ret rm nn) {a n : Nat} (ha : a ≤ 2147483647) (hn : n = 1 ∨ n = 2 ∨ n = 4 ∨ n = 8 ∨ n = 16) (hd : decode cc pc = .ok (.iushr, 1)) (k : TT K w kc ks (pc + 1) lv (vI ((a / 2 ^ n : Nat) : Int) :: st) h) : TT K w kc ks pc lv (vI ((n : Nat) : Int) :: vI ((a : Nat) : Int) :: st) h := by
  obtain ⟨⟨p, l, e, R, s, m, args, below, meth, c, Q⟩, ⟨o1, c1, n1, D, cy, A, n0, ad0⟩⟩ := K
  obtain ⟨rfl, rfl, rfl, hx, hb, hml, hown, hr, hlk, hR, hts, hG, hA, hnn⟩ := hK
  intro ad H locs ls had hP hD hS hl
  refine lv_iushr hx hb hd (us_1 a n ha hn) ?_
  exact k ad H locs ls had hP hD hS hl
theorem TT_iushr_i {K : TC_} {rm : Room} {nn : Nat} {w : Ly_} {kc ks : Nat} {lv : List (Nat × PV_)} {st : List PV_} {h : Hp_} (hK : TOk K own cc nL ret rm nn) {a b : Int} {n : Nat} (ha : 0 ≤ a ∧ a ≤ 2147483647) (hb : b = ((n : Nat) : Int)) (hn : n = 1 ∨ n = 2 ∨ n = 4 ∨ n = 8 ∨ n = 16) (hd : decode cc pc = .ok (.iushr, 1)) (k : ∀ x : Int, 0 ≤ x ∧ x ≤ a → TT K w kc ks (pc + 1) lv (vI x :: st) h) : TT K w kc ks pc lv (vI b :: vI a :: st) h := by
  obtain ⟨m, rfl⟩ := Int.eq_ofNat_of_zero_le ha.1
  subst hb
  have h2 : m / 2 ^ n ≤ m := Nat.div_le_self _ _
  have k2 := k (((m / 2 ^ n : Nat)) : Int) (by generalize m / 2 ^ n = z at h2 ⊢; omega)
  exact TT_iushr hK (by omega) hn hd k2
end US
theorem pu1 {a n z m : Int} (hm : m = a * z) (ha : 1 ≤ a ∧ a ≤ n) (hn : n ≤ 3) (hz : 0 ≤ z ∧ z ≤ 34) : (0 ≤ m ∧ m ≤ 102) ∧ (0 ≤ m / n ∧ m / n ≤ 34) := by
  have h1 : a = 1 ∨ a = 2 ∨ a = 3 := by omega
  have h2 : n = 1 ∨ n = 2 ∨ n = 3 := by omega
  rcases h1 with rfl | rfl | rfl <;> rcases h2 with rfl | rfl | rfl <;> omega
theorem pu2 {a l m : Int} (hm : m = a * (l + 1)) (ha : 1 ≤ a ∧ a ≤ 3) (hl : 0 ≤ l ∧ l ≤ 3) : 1 ≤ m ∧ m ≤ 12 := by
  have h1 : a = 1 ∨ a = 2 ∨ a = 3 := by omega
  rcases h1 with rfl | rfl | rfl <;> omega
theorem pu3 (k : Int) {l : Int} (hl : 0 ≤ l ∧ l ≤ 3) : 0 ≤ k % (l + 1) ∧ k % (l + 1) ≤ 3 := by
  have := Int.emod_nonneg k (show l + 1 ≠ 0 by omega)
  have := Int.emod_lt_of_pos k (show 0 < l + 1 by omega)
  omega
theorem ty_1_1 {h : Hp_} {v : Int} (hT : TY h) (e : h 1 1 = v) : 0 ≤ v ∧ v ≤ 8 := e ▸ hT 1 1 (by decide) (by decide) (by decide)
theorem tu_1_1 {h h2 : Hp_} {v : Int} (hT : TY h) (e : up h 1 1 v = h2) (hv : 0 ≤ v ∧ v ≤ 8) : TY h2 := TY_up hT e (fun _ _ _ => hv)
theorem ty_1_2 {h : Hp_} {v : Int} (hT : TY h) (e : h 1 2 = v) : 0 ≤ v ∧ v ≤ 8 := e ▸ hT 1 2 (by decide) (by decide) (by decide)
theorem tu_1_2 {h h2 : Hp_} {v : Int} (hT : TY h) (e : up h 1 2 v = h2) (hv : 0 ≤ v ∧ v ≤ 8) : TY h2 := TY_up hT e (fun _ _ _ => hv)
theorem ty_2 {h : Hp_} {i v : Int} (hT : TY h) (e : h 2 i = v) (h0 : 0 ≤ i) (h1 : i < 64) : 0 ≤ v ∧ v ≤ 255 := e ▸ hT 2 i (by decide) h0 h1
theorem tu_2 {h h2 : Hp_} {i v : Int} (hT : TY h) (e : up h 2 i v = h2) (hv : 0 ≤ v ∧ v ≤ 255) : TY h2 := TY_up hT e (fun _ _ _ => hv)
theorem ty_3_1 {h : Hp_} {v : Int} (hT : TY h) (e : h 3 1 = v) : 0 ≤ v ∧ v ≤ 8 := e ▸ hT 3 1 (by decide) (by decide) (by decide)
theorem tu_3_1 {h h2 : Hp_} {v : Int} (hT : TY h) (e : up h 3 1 v = h2) (hv : 0 ≤ v ∧ v ≤ 8) : TY h2 := TY_up hT e (fun _ _ _ => hv)
theorem ty_3_2 {h : Hp_} {v : Int} (hT : TY h) (e : h 3 2 = v) : 0 ≤ v ∧ v ≤ 8 := e ▸ hT 3 2 (by decide) (by decide) (by decide)
theorem tu_3_2 {h h2 : Hp_} {v : Int} (hT : TY h) (e : up h 3 2 v = h2) (hv : 0 ≤ v ∧ v ≤ 8) : TY h2 := TY_up hT e (fun _ _ _ => hv)
theorem ty_4 {h : Hp_} {i v : Int} (hT : TY h) (e : h 4 i = v) (h0 : 0 ≤ i) (h1 : i < 64) : 0 ≤ v ∧ v ≤ 255 := e ▸ hT 4 i (by decide) h0 h1
theorem tu_4 {h h2 : Hp_} {i v : Int} (hT : TY h) (e : up h 4 i v = h2) (hv : 0 ≤ v ∧ v ≤ 255) : TY h2 := TY_up hT e (fun _ _ _ => hv)
theorem ty_5_1 {h : Hp_} {v : Int} (hT : TY h) (e : h 5 1 = v) : 0 ≤ v ∧ v ≤ 1024 := e ▸ hT 5 1 (by decide) (by decide) (by decide)
theorem tu_5_1 {h h2 : Hp_} {v : Int} (hT : TY h) (e : up h 5 1 v = h2) (hv : 0 ≤ v ∧ v ≤ 1024) : TY h2 := TY_up hT e (fun _ _ _ => hv)
theorem ty_5_2 {h : Hp_} {v : Int} (hT : TY h) (e : h 5 2 = v) : 0 ≤ v ∧ v ≤ 8 := e ▸ hT 5 2 (by decide) (by decide) (by decide)
theorem tu_5_2 {h h2 : Hp_} {v : Int} (hT : TY h) (e : up h 5 2 v = h2) (hv : 0 ≤ v ∧ v ≤ 8) : TY h2 := TY_up hT e (fun _ _ _ => hv)
theorem ty_5_3 {h : Hp_} {v : Int} (hT : TY h) (e : h 5 3 = v) : -2147483648 ≤ v ∧ v ≤ 2147483647 := e ▸ hT 5 3 (by decide) (by decide) (by decide)
theorem tu_5_3 {h h2 : Hp_} {v : Int} (hT : TY h) (e : up h 5 3 v = h2) (hv : -2147483648 ≤ v ∧ v ≤ 2147483647) : TY h2 := TY_up hT e (fun _ _ _ => hv)
theorem ty_5_4 {h : Hp_} {v : Int} (hT : TY h) (e : h 5 4 = v) : -2147483648 ≤ v ∧ v ≤ 2147483647 := e ▸ hT 5 4 (by decide) (by decide) (by decide)
theorem tu_5_4 {h h2 : Hp_} {v : Int} (hT : TY h) (e : up h 5 4 v = h2) (hv : -2147483648 ≤ v ∧ v ≤ 2147483647) : TY h2 := TY_up hT e (fun _ _ _ => hv)
theorem ty_6 {h : Hp_} {i v : Int} (hT : TY h) (e : h 6 i = v) (h0 : 0 ≤ i) (h1 : i < 1024) : 0 ≤ v ∧ v ≤ 255 := e ▸ hT 6 i (by decide) h0 h1
theorem tu_6 {h h2 : Hp_} {i v : Int} (hT : TY h) (e : up h 6 i v = h2) (hv : 0 ≤ v ∧ v ≤ 255) : TY h2 := TY_up hT e (fun _ _ _ => hv)
theorem ty_8_7 {h : Hp_} {v : Int} (hT : TY h) (e : h 8 7 = v) : 0 ≤ v ∧ v ≤ 8 := e ▸ hT 8 7 (by decide) (by decide) (by decide)
theorem tu_8_7 {h h2 : Hp_} {v : Int} (hT : TY h) (e : up h 8 7 v = h2) (hv : 0 ≤ v ∧ v ≤ 8) : TY h2 := TY_up hT e (fun _ _ _ => hv)
theorem ty_8_8 {h : Hp_} {v : Int} (hT : TY h) (e : h 8 8 = v) : 0 ≤ v ∧ v ≤ 8 := e ▸ hT 8 8 (by decide) (by decide) (by decide)
theorem tu_8_8 {h h2 : Hp_} {v : Int} (hT : TY h) (e : up h 8 8 v = h2) (hv : 0 ≤ v ∧ v ≤ 8) : TY h2 := TY_up hT e (fun _ _ _ => hv)
theorem ty_8_9 {h : Hp_} {v : Int} (hT : TY h) (e : h 8 9 = v) : 0 ≤ v ∧ v ≤ 3 := e ▸ hT 8 9 (by decide) (by decide) (by decide)
theorem tu_8_9 {h h2 : Hp_} {v : Int} (hT : TY h) (e : up h 8 9 v = h2) (hv : 0 ≤ v ∧ v ≤ 3) : TY h2 := TY_up hT e (fun _ _ _ => hv)
theorem ty_8_10 {h : Hp_} {v : Int} (hT : TY h) (e : h 8 10 = v) : 0 ≤ v ∧ v ≤ 10 := e ▸ hT 8 10 (by decide) (by decide) (by decide)
theorem tu_8_10 {h h2 : Hp_} {v : Int} (hT : TY h) (e : up h 8 10 v = h2) (hv : 0 ≤ v ∧ v ≤ 10) : TY h2 := TY_up hT e (fun _ _ _ => hv)
theorem ty_9 {h : Hp_} {i v : Int} (hT : TY h) (e : h 9 i = v) (h0 : 0 ≤ i) (h1 : i < 64) : -2147483648 ≤ v ∧ v ≤ 2147483647 := e ▸ hT 9 i (by decide) h0 h1
theorem tu_9 {h h2 : Hp_} {i v : Int} (hT : TY h) (e : up h 9 i v = h2) (hv : -2147483648 ≤ v ∧ v ≤ 2147483647) : TY h2 := TY_up hT e (fun _ _ _ => hv)
theorem ty_10 {h : Hp_} {i v : Int} (hT : TY h) (e : h 10 i = v) (h0 : 0 ≤ i) (h1 : i < 10) : 0 ≤ v ∧ v ≤ 8 := e ▸ hT 10 i (by decide) h0 h1
theorem tu_10 {h h2 : Hp_} {i v : Int} (hT : TY h) (e : up h 10 i v = h2) (hv : 0 ≤ v ∧ v ≤ 8) : TY h2 := TY_up hT e (fun _ _ _ => hv)
theorem ty_11 {h : Hp_} {i v : Int} (hT : TY h) (e : h 11 i = v) (h0 : 0 ≤ i) (h1 : i < 10) : 0 ≤ v ∧ v ≤ 8 := e ▸ hT 11 i (by decide) h0 h1
theorem tu_11 {h h2 : Hp_} {i v : Int} (hT : TY h) (e : up h 11 i v = h2) (hv : 0 ≤ v ∧ v ≤ 8) : TY h2 := TY_up hT e (fun _ _ _ => hv)
theorem ty_12 {h : Hp_} {i v : Int} (hT : TY h) (e : h 12 i = v) (h0 : 0 ≤ i) (h1 : i < 10) : 0 ≤ v ∧ v ≤ 8 := e ▸ hT 12 i (by decide) h0 h1
theorem tu_12 {h h2 : Hp_} {i v : Int} (hT : TY h) (e : up h 12 i v = h2) (hv : 0 ≤ v ∧ v ≤ 8) : TY h2 := TY_up hT e (fun _ _ _ => hv)
theorem ty_13 {h : Hp_} {i v : Int} (hT : TY h) (e : h 13 i = v) (h0 : 0 ≤ i) (h1 : i < 10) : 0 ≤ v ∧ v ≤ 8 := e ▸ hT 13 i (by decide) h0 h1
theorem tu_13 {h h2 : Hp_} {i v : Int} (hT : TY h) (e : up h 13 i v = h2) (hv : 0 ≤ v ∧ v ≤ 8) : TY h2 := TY_up hT e (fun _ _ _ => hv)
theorem ty_14 {h : Hp_} {i v : Int} (hT : TY h) (e : h 14 i = v) (h0 : 0 ≤ i) (h1 : i < 8) : -2147483648 ≤ v ∧ v ≤ 2147483647 := e ▸ hT 14 i (by decide) h0 h1
theorem tu_14 {h h2 : Hp_} {i v : Int} (hT : TY h) (e : up h 14 i v = h2) (hv : -2147483648 ≤ v ∧ v ≤ 2147483647) : TY h2 := TY_up hT e (fun _ _ _ => hv)
theorem ty_15 {h : Hp_} {i v : Int} (hT : TY h) (e : h 15 i = v) (h0 : 0 ≤ i) (h1 : i < 8) : -2147483648 ≤ v ∧ v ≤ 2147483647 := e ▸ hT 15 i (by decide) h0 h1
theorem tu_15 {h h2 : Hp_} {i v : Int} (hT : TY h) (e : up h 15 i v = h2) (hv : -2147483648 ≤ v ∧ v ≤ 2147483647) : TY h2 := TY_up hT e (fun _ _ _ => hv)
theorem ty_16 {h : Hp_} {i v : Int} (hT : TY h) (e : h 16 i = v) (h0 : 0 ≤ i) (h1 : i < 10) : 0 ≤ v ∧ v ≤ 12 := e ▸ hT 16 i (by decide) h0 h1
theorem tu_16 {h h2 : Hp_} {i v : Int} (hT : TY h) (e : up h 16 i v = h2) (hv : 0 ≤ v ∧ v ≤ 12) : TY h2 := TY_up hT e (fun _ _ _ => hv)
theorem ty_17 {h : Hp_} {i v : Int} (hT : TY h) (e : h 17 i = v) (h0 : 0 ≤ i) (h1 : i < 10) : 0 ≤ v ∧ v ≤ 1024 := e ▸ hT 17 i (by decide) h0 h1
theorem tu_17 {h h2 : Hp_} {i v : Int} (hT : TY h) (e : up h 17 i v = h2) (hv : 0 ≤ v ∧ v ≤ 1024) : TY h2 := TY_up hT e (fun _ _ _ => hv)
theorem ty_18 {h : Hp_} {i v : Int} (hT : TY h) (e : h 18 i = v) (h0 : 0 ≤ i) (h1 : i < 10) : -1 ≤ v ∧ v ≤ 1024 := e ▸ hT 18 i (by decide) h0 h1
theorem tu_18 {h h2 : Hp_} {i v : Int} (hT : TY h) (e : up h 18 i v = h2) (hv : -1 ≤ v ∧ v ≤ 1024) : TY h2 := TY_up hT e (fun _ _ _ => hv)
theorem ty_19 {h : Hp_} {i v : Int} (hT : TY h) (e : h 19 i = v) (h0 : 0 ≤ i) (h1 : i < 350) : 0 ≤ v ∧ v ≤ 1024 := e ▸ hT 19 i (by decide) h0 h1
theorem tu_19 {h h2 : Hp_} {i v : Int} (hT : TY h) (e : up h 19 i v = h2) (hv : 0 ≤ v ∧ v ≤ 1024) : TY h2 := TY_up hT e (fun _ _ _ => hv)
theorem ty_20 {h : Hp_} {i v : Int} (hT : TY h) (e : h 20 i = v) (h0 : 0 ≤ i) (h1 : i < 10) : 0 ≤ v ∧ v ≤ 34 := e ▸ hT 20 i (by decide) h0 h1
theorem tu_20 {h h2 : Hp_} {i v : Int} (hT : TY h) (e : up h 20 i v = h2) (hv : 0 ≤ v ∧ v ≤ 34) : TY h2 := TY_up hT e (fun _ _ _ => hv)
theorem ty_21 {h : Hp_} {i v : Int} (hT : TY h) (e : h 21 i = v) (h0 : 0 ≤ i) (h1 : i < 10) : -2147483648 ≤ v ∧ v ≤ 2147483647 := e ▸ hT 21 i (by decide) h0 h1
theorem tu_21 {h h2 : Hp_} {i v : Int} (hT : TY h) (e : up h 21 i v = h2) (hv : -2147483648 ≤ v ∧ v ≤ 2147483647) : TY h2 := TY_up hT e (fun _ _ _ => hv)
theorem ty_22_1 {h : Hp_} {v : Int} (hT : TY h) (e : h 22 1 = v) : 0 ≤ v ∧ v ≤ 1024 := e ▸ hT 22 1 (by decide) (by decide) (by decide)
theorem tu_22_1 {h h2 : Hp_} {v : Int} (hT : TY h) (e : up h 22 1 v = h2) (hv : 0 ≤ v ∧ v ≤ 1024) : TY h2 := TY_up hT e (fun _ _ _ => hv)
theorem ty_22_2 {h : Hp_} {v : Int} (hT : TY h) (e : h 22 2 = v) : 0 ≤ v ∧ v ≤ 8 := e ▸ hT 22 2 (by decide) (by decide) (by decide)
theorem tu_22_2 {h h2 : Hp_} {v : Int} (hT : TY h) (e : up h 22 2 v = h2) (hv : 0 ≤ v ∧ v ≤ 8) : TY h2 := TY_up hT e (fun _ _ _ => hv)
theorem ty_22_3 {h : Hp_} {v : Int} (hT : TY h) (e : h 22 3 = v) : -2147483648 ≤ v ∧ v ≤ 2147483647 := e ▸ hT 22 3 (by decide) (by decide) (by decide)
theorem tu_22_3 {h h2 : Hp_} {v : Int} (hT : TY h) (e : up h 22 3 v = h2) (hv : -2147483648 ≤ v ∧ v ≤ 2147483647) : TY h2 := TY_up hT e (fun _ _ _ => hv)
theorem ty_22_4 {h : Hp_} {v : Int} (hT : TY h) (e : h 22 4 = v) : -2147483648 ≤ v ∧ v ≤ 2147483647 := e ▸ hT 22 4 (by decide) (by decide) (by decide)
theorem tu_22_4 {h h2 : Hp_} {v : Int} (hT : TY h) (e : up h 22 4 v = h2) (hv : -2147483648 ≤ v ∧ v ≤ 2147483647) : TY h2 := TY_up hT e (fun _ _ _ => hv)
theorem ty_23 {h : Hp_} {i v : Int} (hT : TY h) (e : h 23 i = v) (h0 : 0 ≤ i) (h1 : i < 1024) : 0 ≤ v ∧ v ≤ 255 := e ▸ hT 23 i (by decide) h0 h1
theorem tu_23 {h h2 : Hp_} {i v : Int} (hT : TY h) (e : up h 23 i v = h2) (hv : 0 ≤ v ∧ v ≤ 255) : TY h2 := TY_up hT e (fun _ _ _ => hv)
theorem ty_24_3 {h : Hp_} {v : Int} (hT : TY h) (e : h 24 3 = v) : 0 ≤ v ∧ v ≤ 1024 := e ▸ hT 24 3 (by decide) (by decide) (by decide)
theorem tu_24_3 {h h2 : Hp_} {v : Int} (hT : TY h) (e : up h 24 3 v = h2) (hv : 0 ≤ v ∧ v ≤ 1024) : TY h2 := TY_up hT e (fun _ _ _ => hv)
theorem ty_24_4 {h : Hp_} {v : Int} (hT : TY h) (e : h 24 4 = v) : 0 ≤ v ∧ v ≤ 34 := e ▸ hT 24 4 (by decide) (by decide) (by decide)
theorem tu_24_4 {h h2 : Hp_} {v : Int} (hT : TY h) (e : up h 24 4 v = h2) (hv : 0 ≤ v ∧ v ≤ 34) : TY h2 := TY_up hT e (fun _ _ _ => hv)
theorem ty_25 {h : Hp_} {i v : Int} (hT : TY h) (e : h 25 i = v) (h0 : 0 ≤ i) (h1 : i < 1024) : 0 ≤ v ∧ v ≤ 18 := e ▸ hT 25 i (by decide) h0 h1
theorem tu_25 {h h2 : Hp_} {i v : Int} (hT : TY h) (e : up h 25 i v = h2) (hv : 0 ≤ v ∧ v ≤ 18) : TY h2 := TY_up hT e (fun _ _ _ => hv)
theorem ty_26 {h : Hp_} {i v : Int} (hT : TY h) (e : h 26 i = v) (h0 : 0 ≤ i) (h1 : i < 1024) : 0 ≤ v ∧ v ≤ 1 := e ▸ hT 26 i (by decide) h0 h1
theorem tu_26 {h h2 : Hp_} {i v : Int} (hT : TY h) (e : up h 26 i v = h2) (hv : 0 ≤ v ∧ v ≤ 1) : TY h2 := TY_up hT e (fun _ _ _ => hv)
theorem ty_27 {h : Hp_} {i v : Int} (hT : TY h) (e : h 27 i = v) (h0 : 0 ≤ i) (h1 : i < 34) : 0 ≤ v ∧ v ≤ 1024 := e ▸ hT 27 i (by decide) h0 h1
theorem tu_27 {h h2 : Hp_} {i v : Int} (hT : TY h) (e : up h 27 i v = h2) (hv : 0 ≤ v ∧ v ≤ 1024) : TY h2 := TY_up hT e (fun _ _ _ => hv)
theorem ty_28_6 {h : Hp_} {v : Int} (hT : TY h) (e : h 28 6 = v) : 0 ≤ v ∧ v ≤ 8 := e ▸ hT 28 6 (by decide) (by decide) (by decide)
theorem tu_28_6 {h h2 : Hp_} {v : Int} (hT : TY h) (e : up h 28 6 v = h2) (hv : 0 ≤ v ∧ v ≤ 8) : TY h2 := TY_up hT e (fun _ _ _ => hv)
theorem ty_28_7 {h : Hp_} {v : Int} (hT : TY h) (e : h 28 7 = v) : 0 ≤ v ∧ v ≤ 8 := e ▸ hT 28 7 (by decide) (by decide) (by decide)
theorem tu_28_7 {h h2 : Hp_} {v : Int} (hT : TY h) (e : up h 28 7 v = h2) (hv : 0 ≤ v ∧ v ≤ 8) : TY h2 := TY_up hT e (fun _ _ _ => hv)
theorem ty_28_8 {h : Hp_} {v : Int} (hT : TY h) (e : h 28 8 = v) : 0 ≤ v ∧ v ≤ 2 := e ▸ hT 28 8 (by decide) (by decide) (by decide)
theorem tu_28_8 {h h2 : Hp_} {v : Int} (hT : TY h) (e : up h 28 8 v = h2) (hv : 0 ≤ v ∧ v ≤ 2) : TY h2 := TY_up hT e (fun _ _ _ => hv)
theorem ty_28_9 {h : Hp_} {v : Int} (hT : TY h) (e : h 28 9 = v) : -2147483648 ≤ v ∧ v ≤ 2147483647 := e ▸ hT 28 9 (by decide) (by decide) (by decide)
theorem tu_28_9 {h h2 : Hp_} {v : Int} (hT : TY h) (e : up h 28 9 v = h2) (hv : -2147483648 ≤ v ∧ v ≤ 2147483647) : TY h2 := TY_up hT e (fun _ _ _ => hv)
theorem ty_29 {h : Hp_} {i v : Int} (hT : TY h) (e : h 29 i = v) (h0 : 0 ≤ i) (h1 : i < 100) : -2147483648 ≤ v ∧ v ≤ 2147483647 := e ▸ hT 29 i (by decide) h0 h1
theorem tu_29 {h h2 : Hp_} {i v : Int} (hT : TY h) (e : up h 29 i v = h2) (hv : -2147483648 ≤ v ∧ v ≤ 2147483647) : TY h2 := TY_up hT e (fun _ _ _ => hv)
theorem ty_30 {h : Hp_} {i v : Int} (hT : TY h) (e : h 30 i = v) (h0 : 0 ≤ i) (h1 : i < 100) : -2147483648 ≤ v ∧ v ≤ 2147483647 := e ▸ hT 30 i (by decide) h0 h1
theorem tu_30 {h h2 : Hp_} {i v : Int} (hT : TY h) (e : up h 30 i v = h2) (hv : -2147483648 ≤ v ∧ v ≤ 2147483647) : TY h2 := TY_up hT e (fun _ _ _ => hv)
theorem ty_31 {h : Hp_} {i v : Int} (hT : TY h) (e : h 31 i = v) (h0 : 0 ≤ i) (h1 : i < 100) : -1 ≤ v ∧ v ≤ 1 := e ▸ hT 31 i (by decide) h0 h1
theorem tu_31 {h h2 : Hp_} {i v : Int} (hT : TY h) (e : up h 31 i v = h2) (hv : -1 ≤ v ∧ v ≤ 1) : TY h2 := TY_up hT e (fun _ _ _ => hv)
theorem ty_32 {h : Hp_} {i v : Int} (hT : TY h) (e : h 32 i = v) (h0 : 0 ≤ i) (h1 : i < 100) : 0 ≤ v ∧ v ≤ 1 := e ▸ hT 32 i (by decide) h0 h1
theorem tu_32 {h h2 : Hp_} {i v : Int} (hT : TY h) (e : up h 32 i v = h2) (hv : 0 ≤ v ∧ v ≤ 1) : TY h2 := TY_up hT e (fun _ _ _ => hv)
theorem ty_33 {h : Hp_} {i v : Int} (hT : TY h) (e : h 33 i = v) (h0 : 0 ≤ i) (h1 : i < 100) : 0 ≤ v ∧ v ≤ 1 := e ▸ hT 33 i (by decide) h0 h1
theorem tu_33 {h h2 : Hp_} {i v : Int} (hT : TY h) (e : up h 33 i v = h2) (hv : 0 ≤ v ∧ v ≤ 1) : TY h2 := TY_up hT e (fun _ _ _ => hv)
theorem ty_34_2 {h : Hp_} {v : Int} (hT : TY h) (e : h 34 2 = v) : 0 ≤ v ∧ v ≤ 1024 := e ▸ hT 34 2 (by decide) (by decide) (by decide)
theorem tu_34_2 {h h2 : Hp_} {v : Int} (hT : TY h) (e : up h 34 2 v = h2) (hv : 0 ≤ v ∧ v ≤ 1024) : TY h2 := TY_up hT e (fun _ _ _ => hv)
theorem ty_34_3 {h : Hp_} {v : Int} (hT : TY h) (e : h 34 3 = v) : -2147483648 ≤ v ∧ v ≤ 2147483647 := e ▸ hT 34 3 (by decide) (by decide) (by decide)
theorem tu_34_3 {h h2 : Hp_} {v : Int} (hT : TY h) (e : up h 34 3 v = h2) (hv : -2147483648 ≤ v ∧ v ≤ 2147483647) : TY h2 := TY_up hT e (fun _ _ _ => hv)
theorem ty_34_4 {h : Hp_} {v : Int} (hT : TY h) (e : h 34 4 = v) : -2147483648 ≤ v ∧ v ≤ 2147483647 := e ▸ hT 34 4 (by decide) (by decide) (by decide)
theorem tu_34_4 {h h2 : Hp_} {v : Int} (hT : TY h) (e : up h 34 4 v = h2) (hv : -2147483648 ≤ v ∧ v ≤ 2147483647) : TY h2 := TY_up hT e (fun _ _ _ => hv)
theorem ty_34_5 {h : Hp_} {v : Int} (hT : TY h) (e : h 34 5 = v) : 0 ≤ v ∧ v ≤ 12 := e ▸ hT 34 5 (by decide) (by decide) (by decide)
theorem tu_34_5 {h h2 : Hp_} {v : Int} (hT : TY h) (e : up h 34 5 v = h2) (hv : 0 ≤ v ∧ v ≤ 12) : TY h2 := TY_up hT e (fun _ _ _ => hv)
theorem ty_36 {h : Hp_} {i v : Int} (hT : TY h) (e : h 36 i = v) (h0 : 0 ≤ i) (h1 : i < 19) : 0 ≤ v ∧ v ≤ 46 := e ▸ hT 36 i (by decide) h0 h1
theorem tu_36 {h h2 : Hp_} {i v : Int} (hT : TY h) (e : up h 36 i v = h2) (hv : 0 ≤ v ∧ v ≤ 46) : TY h2 := TY_up hT e (fun _ _ _ => hv)
theorem ty_37 {h : Hp_} {i v : Int} (hT : TY h) (e : h 37 i = v) (h0 : 0 ≤ i) (h1 : i < 19) : 0 ≤ v ∧ v ≤ 1 := e ▸ hT 37 i (by decide) h0 h1
theorem tu_37 {h h2 : Hp_} {i v : Int} (hT : TY h) (e : up h 37 i v = h2) (hv : 0 ≤ v ∧ v ≤ 1) : TY h2 := TY_up hT e (fun _ _ _ => hv)
theorem ty_38 {h : Hp_} {i v : Int} (hT : TY h) (e : h 38 i = v) (h0 : 0 ≤ i) (h1 : i < 1024) : 0 ≤ v ∧ v ≤ 255 := e ▸ hT 38 i (by decide) h0 h1
theorem tu_38 {h h2 : Hp_} {i v : Int} (hT : TY h) (e : up h 38 i v = h2) (hv : 0 ≤ v ∧ v ≤ 255) : TY h2 := TY_up hT e (fun _ _ _ => hv)
theorem ty_39_2 {h : Hp_} {v : Int} (hT : TY h) (e : h 39 2 = v) : 0 ≤ v ∧ v ≤ 1024 := e ▸ hT 39 2 (by decide) (by decide) (by decide)
theorem tu_39_2 {h h2 : Hp_} {v : Int} (hT : TY h) (e : up h 39 2 v = h2) (hv : 0 ≤ v ∧ v ≤ 1024) : TY h2 := TY_up hT e (fun _ _ _ => hv)
theorem ty_39_3 {h : Hp_} {v : Int} (hT : TY h) (e : h 39 3 = v) : 0 ≤ v ∧ v ≤ 1024 := e ▸ hT 39 3 (by decide) (by decide) (by decide)
theorem tu_39_3 {h h2 : Hp_} {v : Int} (hT : TY h) (e : up h 39 3 v = h2) (hv : 0 ≤ v ∧ v ≤ 1024) : TY h2 := TY_up hT e (fun _ _ _ => hv)
theorem ty_39_4 {h : Hp_} {v : Int} (hT : TY h) (e : h 39 4 = v) : 0 ≤ v ∧ v ≤ 1024 := e ▸ hT 39 4 (by decide) (by decide) (by decide)
theorem tu_39_4 {h h2 : Hp_} {v : Int} (hT : TY h) (e : up h 39 4 v = h2) (hv : 0 ≤ v ∧ v ≤ 1024) : TY h2 := TY_up hT e (fun _ _ _ => hv)
theorem ty_39_5 {h : Hp_} {v : Int} (hT : TY h) (e : h 39 5 = v) : -2147483648 ≤ v ∧ v ≤ 2147483647 := e ▸ hT 39 5 (by decide) (by decide) (by decide)
theorem tu_39_5 {h h2 : Hp_} {v : Int} (hT : TY h) (e : up h 39 5 v = h2) (hv : -2147483648 ≤ v ∧ v ≤ 2147483647) : TY h2 := TY_up hT e (fun _ _ _ => hv)
theorem ty_39_6 {h : Hp_} {v : Int} (hT : TY h) (e : h 39 6 = v) : 0 ≤ v ∧ v ≤ 8 := e ▸ hT 39 6 (by decide) (by decide) (by decide)
theorem tu_39_6 {h h2 : Hp_} {v : Int} (hT : TY h) (e : up h 39 6 v = h2) (hv : 0 ≤ v ∧ v ≤ 8) : TY h2 := TY_up hT e (fun _ _ _ => hv)
theorem ty_39_7 {h : Hp_} {v : Int} (hT : TY h) (e : h 39 7 = v) : -9223372036854775808 ≤ v ∧ v ≤ 9223372036854775807 := e ▸ hT 39 7 (by decide) (by decide) (by decide)
theorem tu_39_7 {h h2 : Hp_} {v : Int} (hT : TY h) (e : up h 39 7 v = h2) (hv : -9223372036854775808 ≤ v ∧ v ≤ 9223372036854775807) : TY h2 := TY_up hT e (fun _ _ _ => hv)
theorem ty_41 {h : Hp_} {i v : Int} (hT : TY h) (e : h 41 i = v) (h0 : 0 ≤ i) (h1 : i < 19) : 0 ≤ v ∧ v ≤ 46 := e ▸ hT 41 i (by decide) h0 h1
theorem tu_41 {h h2 : Hp_} {i v : Int} (hT : TY h) (e : up h 41 i v = h2) (hv : 0 ≤ v ∧ v ≤ 46) : TY h2 := TY_up hT e (fun _ _ _ => hv)
theorem ty_42 {h : Hp_} {i v : Int} (hT : TY h) (e : h 42 i = v) (h0 : 0 ≤ i) (h1 : i < 19) : 0 ≤ v ∧ v ≤ 1 := e ▸ hT 42 i (by decide) h0 h1
theorem tu_42 {h h2 : Hp_} {i v : Int} (hT : TY h) (e : up h 42 i v = h2) (hv : 0 ≤ v ∧ v ≤ 1) : TY h2 := TY_up hT e (fun _ _ _ => hv)
theorem ty_43 {h : Hp_} {i v : Int} (hT : TY h) (e : h 43 i = v) (h0 : 0 ≤ i) (h1 : i < 1024) : 0 ≤ v ∧ v ≤ 255 := e ▸ hT 43 i (by decide) h0 h1
theorem tu_43 {h h2 : Hp_} {i v : Int} (hT : TY h) (e : up h 43 i v = h2) (hv : 0 ≤ v ∧ v ≤ 255) : TY h2 := TY_up hT e (fun _ _ _ => hv)
theorem ty_44_12 {h : Hp_} {v : Int} (hT : TY h) (e : h 44 12 = v) : 0 ≤ v ∧ v ≤ 10 := e ▸ hT 44 12 (by decide) (by decide) (by decide)
theorem tu_44_12 {h h2 : Hp_} {v : Int} (hT : TY h) (e : up h 44 12 v = h2) (hv : 0 ≤ v ∧ v ≤ 10) : TY h2 := TY_up hT e (fun _ _ _ => hv)
theorem ty_45_7 {h : Hp_} {v : Int} (hT : TY h) (e : h 45 7 = v) : 0 ≤ v ∧ v ≤ 8 := e ▸ hT 45 7 (by decide) (by decide) (by decide)
theorem tu_45_7 {h h2 : Hp_} {v : Int} (hT : TY h) (e : up h 45 7 v = h2) (hv : 0 ≤ v ∧ v ≤ 8) : TY h2 := TY_up hT e (fun _ _ _ => hv)
theorem ty_45_8 {h : Hp_} {v : Int} (hT : TY h) (e : h 45 8 = v) : 0 ≤ v ∧ v ≤ 8 := e ▸ hT 45 8 (by decide) (by decide) (by decide)
theorem tu_45_8 {h h2 : Hp_} {v : Int} (hT : TY h) (e : up h 45 8 v = h2) (hv : 0 ≤ v ∧ v ≤ 8) : TY h2 := TY_up hT e (fun _ _ _ => hv)
theorem ty_45_9 {h : Hp_} {v : Int} (hT : TY h) (e : h 45 9 = v) : 0 ≤ v ∧ v ≤ 3 := e ▸ hT 45 9 (by decide) (by decide) (by decide)
theorem tu_45_9 {h h2 : Hp_} {v : Int} (hT : TY h) (e : up h 45 9 v = h2) (hv : 0 ≤ v ∧ v ≤ 3) : TY h2 := TY_up hT e (fun _ _ _ => hv)
theorem ty_45_10 {h : Hp_} {v : Int} (hT : TY h) (e : h 45 10 = v) : 0 ≤ v ∧ v ≤ 10 := e ▸ hT 45 10 (by decide) (by decide) (by decide)
theorem tu_45_10 {h h2 : Hp_} {v : Int} (hT : TY h) (e : up h 45 10 v = h2) (hv : 0 ≤ v ∧ v ≤ 10) : TY h2 := TY_up hT e (fun _ _ _ => hv)
theorem ty_46 {h : Hp_} {i v : Int} (hT : TY h) (e : h 46 i = v) (h0 : 0 ≤ i) (h1 : i < 64) : -2147483648 ≤ v ∧ v ≤ 2147483647 := e ▸ hT 46 i (by decide) h0 h1
theorem tu_46 {h h2 : Hp_} {i v : Int} (hT : TY h) (e : up h 46 i v = h2) (hv : -2147483648 ≤ v ∧ v ≤ 2147483647) : TY h2 := TY_up hT e (fun _ _ _ => hv)
theorem ty_47 {h : Hp_} {i v : Int} (hT : TY h) (e : h 47 i = v) (h0 : 0 ≤ i) (h1 : i < 10) : 0 ≤ v ∧ v ≤ 8 := e ▸ hT 47 i (by decide) h0 h1
theorem tu_47 {h h2 : Hp_} {i v : Int} (hT : TY h) (e : up h 47 i v = h2) (hv : 0 ≤ v ∧ v ≤ 8) : TY h2 := TY_up hT e (fun _ _ _ => hv)
theorem ty_48 {h : Hp_} {i v : Int} (hT : TY h) (e : h 48 i = v) (h0 : 0 ≤ i) (h1 : i < 10) : 0 ≤ v ∧ v ≤ 8 := e ▸ hT 48 i (by decide) h0 h1
theorem tu_48 {h h2 : Hp_} {i v : Int} (hT : TY h) (e : up h 48 i v = h2) (hv : 0 ≤ v ∧ v ≤ 8) : TY h2 := TY_up hT e (fun _ _ _ => hv)
theorem ty_49 {h : Hp_} {i v : Int} (hT : TY h) (e : h 49 i = v) (h0 : 0 ≤ i) (h1 : i < 10) : 0 ≤ v ∧ v ≤ 8 := e ▸ hT 49 i (by decide) h0 h1
theorem tu_49 {h h2 : Hp_} {i v : Int} (hT : TY h) (e : up h 49 i v = h2) (hv : 0 ≤ v ∧ v ≤ 8) : TY h2 := TY_up hT e (fun _ _ _ => hv)
theorem ty_50 {h : Hp_} {i v : Int} (hT : TY h) (e : h 50 i = v) (h0 : 0 ≤ i) (h1 : i < 10) : 0 ≤ v ∧ v ≤ 8 := e ▸ hT 50 i (by decide) h0 h1
theorem tu_50 {h h2 : Hp_} {i v : Int} (hT : TY h) (e : up h 50 i v = h2) (hv : 0 ≤ v ∧ v ≤ 8) : TY h2 := TY_up hT e (fun _ _ _ => hv)
theorem ty_51 {h : Hp_} {i v : Int} (hT : TY h) (e : h 51 i = v) (h0 : 0 ≤ i) (h1 : i < 8) : -2147483648 ≤ v ∧ v ≤ 2147483647 := e ▸ hT 51 i (by decide) h0 h1
theorem tu_51 {h h2 : Hp_} {i v : Int} (hT : TY h) (e : up h 51 i v = h2) (hv : -2147483648 ≤ v ∧ v ≤ 2147483647) : TY h2 := TY_up hT e (fun _ _ _ => hv)
theorem ty_52 {h : Hp_} {i v : Int} (hT : TY h) (e : h 52 i = v) (h0 : 0 ≤ i) (h1 : i < 8) : -2147483648 ≤ v ∧ v ≤ 2147483647 := e ▸ hT 52 i (by decide) h0 h1
theorem tu_52 {h h2 : Hp_} {i v : Int} (hT : TY h) (e : up h 52 i v = h2) (hv : -2147483648 ≤ v ∧ v ≤ 2147483647) : TY h2 := TY_up hT e (fun _ _ _ => hv)
theorem ty_53 {h : Hp_} {i v : Int} (hT : TY h) (e : h 53 i = v) (h0 : 0 ≤ i) (h1 : i < 10) : 0 ≤ v ∧ v ≤ 12 := e ▸ hT 53 i (by decide) h0 h1
theorem tu_53 {h h2 : Hp_} {i v : Int} (hT : TY h) (e : up h 53 i v = h2) (hv : 0 ≤ v ∧ v ≤ 12) : TY h2 := TY_up hT e (fun _ _ _ => hv)
theorem ty_54 {h : Hp_} {i v : Int} (hT : TY h) (e : h 54 i = v) (h0 : 0 ≤ i) (h1 : i < 10) : -2147483648 ≤ v ∧ v ≤ 2147483647 := e ▸ hT 54 i (by decide) h0 h1
theorem tu_54 {h h2 : Hp_} {i v : Int} (hT : TY h) (e : up h 54 i v = h2) (hv : -2147483648 ≤ v ∧ v ≤ 2147483647) : TY h2 := TY_up hT e (fun _ _ _ => hv)
theorem ty_55 {h : Hp_} {i v : Int} (hT : TY h) (e : h 55 i = v) (h0 : 0 ≤ i) (h1 : i < 10) : -2147483648 ≤ v ∧ v ≤ 2147483647 := e ▸ hT 55 i (by decide) h0 h1
theorem tu_55 {h h2 : Hp_} {i v : Int} (hT : TY h) (e : up h 55 i v = h2) (hv : -2147483648 ≤ v ∧ v ≤ 2147483647) : TY h2 := TY_up hT e (fun _ _ _ => hv)
theorem ty_56 {h : Hp_} {i v : Int} (hT : TY h) (e : h 56 i = v) (h0 : 0 ≤ i) (h1 : i < 10) : -2147483648 ≤ v ∧ v ≤ 2147483647 := e ▸ hT 56 i (by decide) h0 h1
theorem tu_56 {h h2 : Hp_} {i v : Int} (hT : TY h) (e : up h 56 i v = h2) (hv : -2147483648 ≤ v ∧ v ≤ 2147483647) : TY h2 := TY_up hT e (fun _ _ _ => hv)
theorem ty_57 {h : Hp_} {i v : Int} (hT : TY h) (e : h 57 i = v) (h0 : 0 ≤ i) (h1 : i < 10) : 0 ≤ v ∧ v ≤ 1048576 := e ▸ hT 57 i (by decide) h0 h1
theorem tu_57 {h h2 : Hp_} {i v : Int} (hT : TY h) (e : up h 57 i v = h2) (hv : 0 ≤ v ∧ v ≤ 1048576) : TY h2 := TY_up hT e (fun _ _ _ => hv)
theorem ty_58 {h : Hp_} {i v : Int} (hT : TY h) (e : h 58 i = v) (h0 : 0 ≤ i) (h1 : i < 10) : 0 ≤ v ∧ v ≤ 3 := e ▸ hT 58 i (by decide) h0 h1
theorem tu_58 {h h2 : Hp_} {i v : Int} (hT : TY h) (e : up h 58 i v = h2) (hv : 0 ≤ v ∧ v ≤ 3) : TY h2 := TY_up hT e (fun _ _ _ => hv)
theorem ty_59 {h : Hp_} {i v : Int} (hT : TY h) (e : h 59 i = v) (h0 : 0 ≤ i) (h1 : i < 30) : -2147483648 ≤ v ∧ v ≤ 2147483647 := e ▸ hT 59 i (by decide) h0 h1
theorem tu_59 {h h2 : Hp_} {i v : Int} (hT : TY h) (e : up h 59 i v = h2) (hv : -2147483648 ≤ v ∧ v ≤ 2147483647) : TY h2 := TY_up hT e (fun _ _ _ => hv)
theorem ty_60 {h : Hp_} {i v : Int} (hT : TY h) (e : h 60 i = v) (h0 : 0 ≤ i) (h1 : i < 30) : 0 ≤ v ∧ v ≤ 1048576 := e ▸ hT 60 i (by decide) h0 h1
theorem tu_60 {h h2 : Hp_} {i v : Int} (hT : TY h) (e : up h 60 i v = h2) (hv : 0 ≤ v ∧ v ≤ 1048576) : TY h2 := TY_up hT e (fun _ _ _ => hv)
theorem ty_61 {h : Hp_} {i v : Int} (hT : TY h) (e : h 61 i = v) (h0 : 0 ≤ i) (h1 : i < 10) : -2147483648 ≤ v ∧ v ≤ 2147483647 := e ▸ hT 61 i (by decide) h0 h1
theorem tu_61 {h h2 : Hp_} {i v : Int} (hT : TY h) (e : up h 61 i v = h2) (hv : -2147483648 ≤ v ∧ v ≤ 2147483647) : TY h2 := TY_up hT e (fun _ _ _ => hv)
theorem ty_62_2 {h : Hp_} {v : Int} (hT : TY h) (e : h 62 2 = v) : 0 ≤ v ∧ v ≤ 1024 := e ▸ hT 62 2 (by decide) (by decide) (by decide)
theorem tu_62_2 {h h2 : Hp_} {v : Int} (hT : TY h) (e : up h 62 2 v = h2) (hv : 0 ≤ v ∧ v ≤ 1024) : TY h2 := TY_up hT e (fun _ _ _ => hv)
theorem ty_62_3 {h : Hp_} {v : Int} (hT : TY h) (e : h 62 3 = v) : 0 ≤ v ∧ v ≤ 1024 := e ▸ hT 62 3 (by decide) (by decide) (by decide)
theorem tu_62_3 {h h2 : Hp_} {v : Int} (hT : TY h) (e : up h 62 3 v = h2) (hv : 0 ≤ v ∧ v ≤ 1024) : TY h2 := TY_up hT e (fun _ _ _ => hv)
theorem ty_62_4 {h : Hp_} {v : Int} (hT : TY h) (e : h 62 4 = v) : 0 ≤ v ∧ v ≤ 1024 := e ▸ hT 62 4 (by decide) (by decide) (by decide)
theorem tu_62_4 {h h2 : Hp_} {v : Int} (hT : TY h) (e : up h 62 4 v = h2) (hv : 0 ≤ v ∧ v ≤ 1024) : TY h2 := TY_up hT e (fun _ _ _ => hv)
theorem ty_62_5 {h : Hp_} {v : Int} (hT : TY h) (e : h 62 5 = v) : -2147483648 ≤ v ∧ v ≤ 2147483647 := e ▸ hT 62 5 (by decide) (by decide) (by decide)
theorem tu_62_5 {h h2 : Hp_} {v : Int} (hT : TY h) (e : up h 62 5 v = h2) (hv : -2147483648 ≤ v ∧ v ≤ 2147483647) : TY h2 := TY_up hT e (fun _ _ _ => hv)
theorem ty_62_6 {h : Hp_} {v : Int} (hT : TY h) (e : h 62 6 = v) : 0 ≤ v ∧ v ≤ 8 := e ▸ hT 62 6 (by decide) (by decide) (by decide)
theorem tu_62_6 {h h2 : Hp_} {v : Int} (hT : TY h) (e : up h 62 6 v = h2) (hv : 0 ≤ v ∧ v ≤ 8) : TY h2 := TY_up hT e (fun _ _ _ => hv)
theorem ty_62_7 {h : Hp_} {v : Int} (hT : TY h) (e : h 62 7 = v) : -9223372036854775808 ≤ v ∧ v ≤ 9223372036854775807 := e ▸ hT 62 7 (by decide) (by decide) (by decide)
theorem tu_62_7 {h h2 : Hp_} {v : Int} (hT : TY h) (e : up h 62 7 v = h2) (hv : -9223372036854775808 ≤ v ∧ v ≤ 9223372036854775807) : TY h2 := TY_up hT e (fun _ _ _ => hv)
theorem ty_64 {h : Hp_} {i v : Int} (hT : TY h) (e : h 64 i = v) (h0 : 0 ≤ i) (h1 : i < 19) : 0 ≤ v ∧ v ≤ 46 := e ▸ hT 64 i (by decide) h0 h1
theorem tu_64 {h h2 : Hp_} {i v : Int} (hT : TY h) (e : up h 64 i v = h2) (hv : 0 ≤ v ∧ v ≤ 46) : TY h2 := TY_up hT e (fun _ _ _ => hv)
theorem ty_65 {h : Hp_} {i v : Int} (hT : TY h) (e : h 65 i = v) (h0 : 0 ≤ i) (h1 : i < 19) : 0 ≤ v ∧ v ≤ 1 := e ▸ hT 65 i (by decide) h0 h1
theorem tu_65 {h h2 : Hp_} {i v : Int} (hT : TY h) (e : up h 65 i v = h2) (hv : 0 ≤ v ∧ v ≤ 1) : TY h2 := TY_up hT e (fun _ _ _ => hv)
theorem ty_66 {h : Hp_} {i v : Int} (hT : TY h) (e : h 66 i = v) (h0 : 0 ≤ i) (h1 : i < 1024) : 0 ≤ v ∧ v ≤ 255 := e ▸ hT 66 i (by decide) h0 h1
theorem tu_66 {h h2 : Hp_} {i v : Int} (hT : TY h) (e : up h 66 i v = h2) (hv : 0 ≤ v ∧ v ≤ 255) : TY h2 := TY_up hT e (fun _ _ _ => hv)
theorem ty_67_6 {h : Hp_} {v : Int} (hT : TY h) (e : h 67 6 = v) : 0 ≤ v ∧ v ≤ 8 := e ▸ hT 67 6 (by decide) (by decide) (by decide)
theorem tu_67_6 {h h2 : Hp_} {v : Int} (hT : TY h) (e : up h 67 6 v = h2) (hv : 0 ≤ v ∧ v ≤ 8) : TY h2 := TY_up hT e (fun _ _ _ => hv)
theorem ty_67_7 {h : Hp_} {v : Int} (hT : TY h) (e : h 67 7 = v) : 0 ≤ v ∧ v ≤ 8 := e ▸ hT 67 7 (by decide) (by decide) (by decide)
theorem tu_67_7 {h h2 : Hp_} {v : Int} (hT : TY h) (e : up h 67 7 v = h2) (hv : 0 ≤ v ∧ v ≤ 8) : TY h2 := TY_up hT e (fun _ _ _ => hv)
theorem ty_67_8 {h : Hp_} {v : Int} (hT : TY h) (e : h 67 8 = v) : 0 ≤ v ∧ v ≤ 2 := e ▸ hT 67 8 (by decide) (by decide) (by decide)
theorem tu_67_8 {h h2 : Hp_} {v : Int} (hT : TY h) (e : up h 67 8 v = h2) (hv : 0 ≤ v ∧ v ≤ 2) : TY h2 := TY_up hT e (fun _ _ _ => hv)
theorem ty_67_9 {h : Hp_} {v : Int} (hT : TY h) (e : h 67 9 = v) : -2147483648 ≤ v ∧ v ≤ 2147483647 := e ▸ hT 67 9 (by decide) (by decide) (by decide)
theorem tu_67_9 {h h2 : Hp_} {v : Int} (hT : TY h) (e : up h 67 9 v = h2) (hv : -2147483648 ≤ v ∧ v ≤ 2147483647) : TY h2 := TY_up hT e (fun _ _ _ => hv)
theorem ty_68 {h : Hp_} {i v : Int} (hT : TY h) (e : h 68 i = v) (h0 : 0 ≤ i) (h1 : i < 100) : -2147483648 ≤ v ∧ v ≤ 2147483647 := e ▸ hT 68 i (by decide) h0 h1
theorem tu_68 {h h2 : Hp_} {i v : Int} (hT : TY h) (e : up h 68 i v = h2) (hv : -2147483648 ≤ v ∧ v ≤ 2147483647) : TY h2 := TY_up hT e (fun _ _ _ => hv)
theorem ty_69 {h : Hp_} {i v : Int} (hT : TY h) (e : h 69 i = v) (h0 : 0 ≤ i) (h1 : i < 100) : -2147483648 ≤ v ∧ v ≤ 2147483647 := e ▸ hT 69 i (by decide) h0 h1
theorem tu_69 {h h2 : Hp_} {i v : Int} (hT : TY h) (e : up h 69 i v = h2) (hv : -2147483648 ≤ v ∧ v ≤ 2147483647) : TY h2 := TY_up hT e (fun _ _ _ => hv)
theorem ty_70 {h : Hp_} {i v : Int} (hT : TY h) (e : h 70 i = v) (h0 : 0 ≤ i) (h1 : i < 100) : -1 ≤ v ∧ v ≤ 1 := e ▸ hT 70 i (by decide) h0 h1
theorem tu_70 {h h2 : Hp_} {i v : Int} (hT : TY h) (e : up h 70 i v = h2) (hv : -1 ≤ v ∧ v ≤ 1) : TY h2 := TY_up hT e (fun _ _ _ => hv)
theorem ty_71 {h : Hp_} {i v : Int} (hT : TY h) (e : h 71 i = v) (h0 : 0 ≤ i) (h1 : i < 100) : 0 ≤ v ∧ v ≤ 1 := e ▸ hT 71 i (by decide) h0 h1
theorem tu_71 {h h2 : Hp_} {i v : Int} (hT : TY h) (e : up h 71 i v = h2) (hv : 0 ≤ v ∧ v ≤ 1) : TY h2 := TY_up hT e (fun _ _ _ => hv)
theorem ty_72 {h : Hp_} {i v : Int} (hT : TY h) (e : h 72 i = v) (h0 : 0 ≤ i) (h1 : i < 100) : 0 ≤ v ∧ v ≤ 1 := e ▸ hT 72 i (by decide) h0 h1
theorem tu_72 {h h2 : Hp_} {i v : Int} (hT : TY h) (e : up h 72 i v = h2) (hv : 0 ≤ v ∧ v ≤ 1) : TY h2 := TY_up hT e (fun _ _ _ => hv)
theorem ty_73_2 {h : Hp_} {v : Int} (hT : TY h) (e : h 73 2 = v) : 0 ≤ v ∧ v ≤ 1 := e ▸ hT 73 2 (by decide) (by decide) (by decide)
theorem tu_73_2 {h h2 : Hp_} {v : Int} (hT : TY h) (e : up h 73 2 v = h2) (hv : 0 ≤ v ∧ v ≤ 1) : TY h2 := TY_up hT e (fun _ _ _ => hv)
theorem ty_73_3 {h : Hp_} {v : Int} (hT : TY h) (e : h 73 3 = v) : 1 ≤ v ∧ v ≤ 8 := e ▸ hT 73 3 (by decide) (by decide) (by decide)
theorem tu_73_3 {h h2 : Hp_} {v : Int} (hT : TY h) (e : up h 73 3 v = h2) (hv : 1 ≤ v ∧ v ≤ 8) : TY h2 := TY_up hT e (fun _ _ _ => hv)
theorem ty_73_4 {h : Hp_} {v : Int} (hT : TY h) (e : h 73 4 = v) : 1 ≤ v ∧ v ≤ 8 := e ▸ hT 73 4 (by decide) (by decide) (by decide)
theorem tu_73_4 {h h2 : Hp_} {v : Int} (hT : TY h) (e : up h 73 4 v = h2) (hv : 1 ≤ v ∧ v ≤ 8) : TY h2 := TY_up hT e (fun _ _ _ => hv)
theorem ty_73_18 {h : Hp_} {v : Int} (hT : TY h) (e : h 73 18 = v) : 0 ≤ v ∧ v ≤ 10 := e ▸ hT 73 18 (by decide) (by decide) (by decide)
theorem tu_73_18 {h h2 : Hp_} {v : Int} (hT : TY h) (e : up h 73 18 v = h2) (hv : 0 ≤ v ∧ v ≤ 10) : TY h2 := TY_up hT e (fun _ _ _ => hv)
theorem ty_73_26 {h : Hp_} {v : Int} (hT : TY h) (e : h 73 26 = v) : 0 ≤ v ∧ v ≤ 19 := e ▸ hT 73 26 (by decide) (by decide) (by decide)
theorem tu_73_26 {h h2 : Hp_} {v : Int} (hT : TY h) (e : up h 73 26 v = h2) (hv : 0 ≤ v ∧ v ≤ 19) : TY h2 := TY_up hT e (fun _ _ _ => hv)
theorem ty_73_27 {h : Hp_} {v : Int} (hT : TY h) (e : h 73 27 = v) : -2147483648 ≤ v ∧ v ≤ 2147483647 := e ▸ hT 73 27 (by decide) (by decide) (by decide)
theorem tu_73_27 {h h2 : Hp_} {v : Int} (hT : TY h) (e : up h 73 27 v = h2) (hv : -2147483648 ≤ v ∧ v ≤ 2147483647) : TY h2 := TY_up hT e (fun _ _ _ => hv)
theorem ty_73_28 {h : Hp_} {v : Int} (hT : TY h) (e : h 73 28 = v) : 0 ≤ v ∧ v ≤ 1 := e ▸ hT 73 28 (by decide) (by decide) (by decide)
theorem tu_73_28 {h h2 : Hp_} {v : Int} (hT : TY h) (e : up h 73 28 v = h2) (hv : 0 ≤ v ∧ v ≤ 1) : TY h2 := TY_up hT e (fun _ _ _ => hv)
theorem ty_73_29 {h : Hp_} {v : Int} (hT : TY h) (e : h 73 29 = v) : 0 ≤ v ∧ v ≤ 2 := e ▸ hT 73 29 (by decide) (by decide) (by decide)
theorem tu_73_29 {h h2 : Hp_} {v : Int} (hT : TY h) (e : up h 73 29 v = h2) (hv : 0 ≤ v ∧ v ≤ 2) : TY h2 := TY_up hT e (fun _ _ _ => hv)
theorem ty_73_32 {h : Hp_} {v : Int} (hT : TY h) (e : h 73 32 = v) : 0 ≤ v ∧ v ≤ 131072 := e ▸ hT 73 32 (by decide) (by decide) (by decide)
theorem tu_73_32 {h h2 : Hp_} {v : Int} (hT : TY h) (e : up h 73 32 v = h2) (hv : 0 ≤ v ∧ v ≤ 131072) : TY h2 := TY_up hT e (fun _ _ _ => hv)
theorem ty_73_33 {h : Hp_} {v : Int} (hT : TY h) (e : h 73 33 = v) : -9223372036854775808 ≤ v ∧ v ≤ 9223372036854775807 := e ▸ hT 73 33 (by decide) (by decide) (by decide)
theorem tu_73_33 {h h2 : Hp_} {v : Int} (hT : TY h) (e : up h 73 33 v = h2) (hv : -9223372036854775808 ≤ v ∧ v ≤ 9223372036854775807) : TY h2 := TY_up hT e (fun _ _ _ => hv)
theorem ty_73_34 {h : Hp_} {v : Int} (hT : TY h) (e : h 73 34 = v) : 0 ≤ v ∧ v ≤ 12 := e ▸ hT 73 34 (by decide) (by decide) (by decide)
theorem tu_73_34 {h h2 : Hp_} {v : Int} (hT : TY h) (e : up h 73 34 v = h2) (hv : 0 ≤ v ∧ v ≤ 12) : TY h2 := TY_up hT e (fun _ _ _ => hv)
theorem ty_73_36 {h : Hp_} {v : Int} (hT : TY h) (e : h 73 36 = v) : 0 ≤ v ∧ v ≤ 3200 := e ▸ hT 73 36 (by decide) (by decide) (by decide)
theorem tu_73_36 {h h2 : Hp_} {v : Int} (hT : TY h) (e : up h 73 36 v = h2) (hv : 0 ≤ v ∧ v ≤ 3200) : TY h2 := TY_up hT e (fun _ _ _ => hv)
theorem ty_73_38 {h : Hp_} {v : Int} (hT : TY h) (e : h 73 38 = v) : 0 ≤ v ∧ v ≤ 4400 := e ▸ hT 73 38 (by decide) (by decide) (by decide)
theorem tu_73_38 {h h2 : Hp_} {v : Int} (hT : TY h) (e : up h 73 38 v = h2) (hv : 0 ≤ v ∧ v ≤ 4400) : TY h2 := TY_up hT e (fun _ _ _ => hv)
theorem ty_73_39 {h : Hp_} {v : Int} (hT : TY h) (e : h 73 39 = v) : 0 ≤ v ∧ v ≤ 4400 := e ▸ hT 73 39 (by decide) (by decide) (by decide)
theorem tu_73_39 {h h2 : Hp_} {v : Int} (hT : TY h) (e : up h 73 39 v = h2) (hv : 0 ≤ v ∧ v ≤ 4400) : TY h2 := TY_up hT e (fun _ _ _ => hv)
theorem ty_73_41 {h : Hp_} {v : Int} (hT : TY h) (e : h 73 41 = v) : 0 ≤ v ∧ v ≤ 4400 := e ▸ hT 73 41 (by decide) (by decide) (by decide)
theorem tu_73_41 {h h2 : Hp_} {v : Int} (hT : TY h) (e : up h 73 41 v = h2) (hv : 0 ≤ v ∧ v ≤ 4400) : TY h2 := TY_up hT e (fun _ _ _ => hv)
theorem ty_73_42 {h : Hp_} {v : Int} (hT : TY h) (e : h 73 42 = v) : 0 ≤ v ∧ v ≤ 4400 := e ▸ hT 73 42 (by decide) (by decide) (by decide)
theorem tu_73_42 {h h2 : Hp_} {v : Int} (hT : TY h) (e : up h 73 42 v = h2) (hv : 0 ≤ v ∧ v ≤ 4400) : TY h2 := TY_up hT e (fun _ _ _ => hv)
theorem ty_73_43 {h : Hp_} {v : Int} (hT : TY h) (e : h 73 43 = v) : 0 ≤ v ∧ v ≤ 7 := e ▸ hT 73 43 (by decide) (by decide) (by decide)
theorem tu_73_43 {h h2 : Hp_} {v : Int} (hT : TY h) (e : up h 73 43 v = h2) (hv : 0 ≤ v ∧ v ≤ 7) : TY h2 := TY_up hT e (fun _ _ _ => hv)
theorem ty_73_44 {h : Hp_} {v : Int} (hT : TY h) (e : h 73 44 = v) : 0 ≤ v ∧ v ≤ 4400 := e ▸ hT 73 44 (by decide) (by decide) (by decide)
theorem tu_73_44 {h h2 : Hp_} {v : Int} (hT : TY h) (e : up h 73 44 v = h2) (hv : 0 ≤ v ∧ v ≤ 4400) : TY h2 := TY_up hT e (fun _ _ _ => hv)
theorem ty_73_45 {h : Hp_} {v : Int} (hT : TY h) (e : h 73 45 = v) : 0 ≤ v ∧ v ≤ 1 := e ▸ hT 73 45 (by decide) (by decide) (by decide)
theorem tu_73_45 {h h2 : Hp_} {v : Int} (hT : TY h) (e : up h 73 45 v = h2) (hv : 0 ≤ v ∧ v ≤ 1) : TY h2 := TY_up hT e (fun _ _ _ => hv)
theorem ty_73_50 {h : Hp_} {v : Int} (hT : TY h) (e : h 73 50 = v) : 0 ≤ v ∧ v ≤ 1 := e ▸ hT 73 50 (by decide) (by decide) (by decide)
theorem tu_73_50 {h h2 : Hp_} {v : Int} (hT : TY h) (e : up h 73 50 v = h2) (hv : 0 ≤ v ∧ v ≤ 1) : TY h2 := TY_up hT e (fun _ _ _ => hv)
theorem ty_73_51 {h : Hp_} {v : Int} (hT : TY h) (e : h 73 51 = v) : 0 ≤ v ∧ v ≤ 8 := e ▸ hT 73 51 (by decide) (by decide) (by decide)
theorem tu_73_51 {h h2 : Hp_} {v : Int} (hT : TY h) (e : up h 73 51 v = h2) (hv : 0 ≤ v ∧ v ≤ 8) : TY h2 := TY_up hT e (fun _ _ _ => hv)
theorem ty_73_52 {h : Hp_} {v : Int} (hT : TY h) (e : h 73 52 = v) : 0 ≤ v ∧ v ≤ 8 := e ▸ hT 73 52 (by decide) (by decide) (by decide)
theorem tu_73_52 {h h2 : Hp_} {v : Int} (hT : TY h) (e : up h 73 52 v = h2) (hv : 0 ≤ v ∧ v ≤ 8) : TY h2 := TY_up hT e (fun _ _ _ => hv)
theorem ty_73_55 {h : Hp_} {v : Int} (hT : TY h) (e : h 73 55 = v) : 0 ≤ v ∧ v ≤ 10 := e ▸ hT 73 55 (by decide) (by decide) (by decide)
theorem tu_73_55 {h h2 : Hp_} {v : Int} (hT : TY h) (e : up h 73 55 v = h2) (hv : 0 ≤ v ∧ v ≤ 10) : TY h2 := TY_up hT e (fun _ _ _ => hv)
theorem ty_74 {h : Hp_} {i v : Int} (hT : TY h) (e : h 74 i = v) (h0 : 0 ≤ i) (h1 : i < 47) : 1 ≤ v ∧ v ≤ 22017 := e ▸ hT 74 i (by decide) h0 h1
theorem tu_74 {h h2 : Hp_} {i v : Int} (hT : TY h) (e : up h 74 i v = h2) (hv : 1 ≤ v ∧ v ≤ 22017) : TY h2 := TY_up hT e (fun _ _ _ => hv)
theorem ty_75 {h : Hp_} {i v : Int} (hT : TY h) (e : h 75 i = v) (h0 : 0 ≤ i) (h1 : i < 47) : 0 ≤ v ∧ v ≤ 4646 := e ▸ hT 75 i (by decide) h0 h1
theorem tu_75 {h h2 : Hp_} {i v : Int} (hT : TY h) (e : up h 75 i v = h2) (hv : 0 ≤ v ∧ v ≤ 4646) : TY h2 := TY_up hT e (fun _ _ _ => hv)
theorem ty_76 {h : Hp_} {i v : Int} (hT : TY h) (e : h 76 i = v) (h0 : 0 ≤ i) (h1 : i < 64) : 0 ≤ v ∧ v ≤ 255 := e ▸ hT 76 i (by decide) h0 h1
theorem tu_76 {h h2 : Hp_} {i v : Int} (hT : TY h) (e : up h 76 i v = h2) (hv : 0 ≤ v ∧ v ≤ 255) : TY h2 := TY_up hT e (fun _ _ _ => hv)
theorem ty_77 {h : Hp_} {i v : Int} (hT : TY h) (e : h 77 i = v) (h0 : 0 ≤ i) (h1 : i < 64) : -2147483648 ≤ v ∧ v ≤ 2147483647 := e ▸ hT 77 i (by decide) h0 h1
theorem tu_77 {h h2 : Hp_} {i v : Int} (hT : TY h) (e : up h 77 i v = h2) (hv : -2147483648 ≤ v ∧ v ≤ 2147483647) : TY h2 := TY_up hT e (fun _ _ _ => hv)
theorem ty_78 {h : Hp_} {i v : Int} (hT : TY h) (e : h 78 i = v) (h0 : 0 ≤ i) (h1 : i < 8) : -2147483648 ≤ v ∧ v ≤ 2147483647 := e ▸ hT 78 i (by decide) h0 h1
theorem tu_78 {h h2 : Hp_} {i v : Int} (hT : TY h) (e : up h 78 i v = h2) (hv : -2147483648 ≤ v ∧ v ≤ 2147483647) : TY h2 := TY_up hT e (fun _ _ _ => hv)
theorem ty_79 {h : Hp_} {i v : Int} (hT : TY h) (e : h 79 i = v) (h0 : 0 ≤ i) (h1 : i < 8) : -2147483648 ≤ v ∧ v ≤ 2147483647 := e ▸ hT 79 i (by decide) h0 h1
theorem tu_79 {h h2 : Hp_} {i v : Int} (hT : TY h) (e : up h 79 i v = h2) (hv : -2147483648 ≤ v ∧ v ≤ 2147483647) : TY h2 := TY_up hT e (fun _ _ _ => hv)
theorem ty_80 {h : Hp_} {i v : Int} (hT : TY h) (e : h 80 i = v) (h0 : 0 ≤ i) (h1 : i < 20) : 0 ≤ v ∧ v ≤ 8 := e ▸ hT 80 i (by decide) h0 h1
theorem tu_80 {h h2 : Hp_} {i v : Int} (hT : TY h) (e : up h 80 i v = h2) (hv : 0 ≤ v ∧ v ≤ 8) : TY h2 := TY_up hT e (fun _ _ _ => hv)
theorem ty_81 {h : Hp_} {i v : Int} (hT : TY h) (e : h 81 i = v) (h0 : 0 ≤ i) (h1 : i < 20) : 0 ≤ v ∧ v ≤ 8 := e ▸ hT 81 i (by decide) h0 h1
theorem tu_81 {h h2 : Hp_} {i v : Int} (hT : TY h) (e : up h 81 i v = h2) (hv : 0 ≤ v ∧ v ≤ 8) : TY h2 := TY_up hT e (fun _ _ _ => hv)
theorem ty_82 {h : Hp_} {i v : Int} (hT : TY h) (e : h 82 i = v) (h0 : 0 ≤ i) (h1 : i < 20) : 0 ≤ v ∧ v ≤ 2 := e ▸ hT 82 i (by decide) h0 h1
theorem tu_82 {h h2 : Hp_} {i v : Int} (hT : TY h) (e : up h 82 i v = h2) (hv : 0 ≤ v ∧ v ≤ 2) : TY h2 := TY_up hT e (fun _ _ _ => hv)
theorem ty_83 {h : Hp_} {i v : Int} (hT : TY h) (e : h 83 i = v) (h0 : 0 ≤ i) (h1 : i < 20) : (0 ≤ v ∧ v ≤ 15) ∧ (i < 10 → 0 ≤ v ∧ v ≤ 12) := by
  have k := hT 83 i (by decide) h0 h1
  rw [e] at k
  unfold tyr splL at k
  by_cases q : i < 10
  · simp [q] at k
    exact ⟨by omega, fun _ => by omega⟩
  · simp [q, tyL, sh, shL] at k
    exact ⟨by omega, fun z => absurd z q⟩
theorem tu_83 {h h2 : Hp_} {i v : Int} (hT : TY h) (e : up h 83 i v = h2) (hv : (0 ≤ v ∧ v ≤ 15) ∧ (i < 10 → 0 ≤ v ∧ v ≤ 12)) : TY h2 := TY_up hT e (fun _ _ _ => by
  unfold tyr splL
  by_cases q : i < 10
  · simp [q]
    exact hv.2 q
  · simp [q, tyL, sh, shL]
    omega)
theorem ty_84 {h : Hp_} {i v : Int} (hT : TY h) (e : h 84 i = v) (h0 : 0 ≤ i) (h1 : i < 1280) : (-2147483648 ≤ v ∧ v ≤ 2147483647) ∧ (i < 640 → 0 ≤ v ∧ v ≤ 4095) := by
  have k := hT 84 i (by decide) h0 h1
  rw [e] at k
  unfold tyr splL at k
  by_cases q : i < 640
  · simp [q] at k
    exact ⟨by omega, fun _ => by omega⟩
  · simp [q, tyL, sh, shL] at k
    exact ⟨by omega, fun z => absurd z q⟩
theorem tu_84 {h h2 : Hp_} {i v : Int} (hT : TY h) (e : up h 84 i v = h2) (hv : (-2147483648 ≤ v ∧ v ≤ 2147483647) ∧ (i < 640 → 0 ≤ v ∧ v ≤ 4095)) : TY h2 := TY_up hT e (fun _ _ _ => by
  unfold tyr splL
  by_cases q : i < 640
  · simp [q]
    exact hv.2 q
  · simp [q, tyL, sh, shL]
    omega)
theorem ty_85 {h : Hp_} {i v : Int} (hT : TY h) (e : h 85 i = v) (h0 : 0 ≤ i) (h1 : i < 1280) : 0 ≤ v ∧ v ≤ 1 := e ▸ hT 85 i (by decide) h0 h1
theorem tu_85 {h h2 : Hp_} {i v : Int} (hT : TY h) (e : up h 85 i v = h2) (hv : 0 ≤ v ∧ v ≤ 1) : TY h2 := TY_up hT e (fun _ _ _ => hv)
theorem ty_86 {h : Hp_} {i v : Int} (hT : TY h) (e : h 86 i = v) (h0 : 0 ≤ i) (h1 : i < 20) : (-2147483648 ≤ v ∧ v ≤ 2147483647) ∧ (i < 10 → 0 ≤ v ∧ v ≤ 34) := by
  have k := hT 86 i (by decide) h0 h1
  rw [e] at k
  unfold tyr splL at k
  by_cases q : i < 10
  · simp [q] at k
    exact ⟨by omega, fun _ => by omega⟩
  · simp [q, tyL, sh, shL] at k
    exact ⟨by omega, fun z => absurd z q⟩
theorem tu_86 {h h2 : Hp_} {i v : Int} (hT : TY h) (e : up h 86 i v = h2) (hv : (-2147483648 ≤ v ∧ v ≤ 2147483647) ∧ (i < 10 → 0 ≤ v ∧ v ≤ 34)) : TY h2 := TY_up hT e (fun _ _ _ => by
  unfold tyr splL
  by_cases q : i < 10
  · simp [q]
    exact hv.2 q
  · simp [q, tyL, sh, shL]
    omega)
theorem ty_87 {h : Hp_} {i v : Int} (hT : TY h) (e : h 87 i = v) (h0 : 0 ≤ i) (h1 : i < 20) : (-2147483648 ≤ v ∧ v ≤ 2147483647) ∧ (i < 10 → 0 ≤ v ∧ v ≤ 34) := by
  have k := hT 87 i (by decide) h0 h1
  rw [e] at k
  unfold tyr splL at k
  by_cases q : i < 10
  · simp [q] at k
    exact ⟨by omega, fun _ => by omega⟩
  · simp [q, tyL, sh, shL] at k
    exact ⟨by omega, fun z => absurd z q⟩
theorem tu_87 {h h2 : Hp_} {i v : Int} (hT : TY h) (e : up h 87 i v = h2) (hv : (-2147483648 ≤ v ∧ v ≤ 2147483647) ∧ (i < 10 → 0 ≤ v ∧ v ≤ 34)) : TY h2 := TY_up hT e (fun _ _ _ => by
  unfold tyr splL
  by_cases q : i < 10
  · simp [q]
    exact hv.2 q
  · simp [q, tyL, sh, shL]
    omega)
theorem ty_88 {h : Hp_} {i v : Int} (hT : TY h) (e : h 88 i = v) (h0 : 0 ≤ i) (h1 : i < 20) : (-2147483648 ≤ v ∧ v ≤ 2147483647) ∧ (i < 10 → 0 ≤ v ∧ v ≤ 13) := by
  have k := hT 88 i (by decide) h0 h1
  rw [e] at k
  unfold tyr splL at k
  by_cases q : i < 10
  · simp [q] at k
    exact ⟨by omega, fun _ => by omega⟩
  · simp [q, tyL, sh, shL] at k
    exact ⟨by omega, fun z => absurd z q⟩
theorem tu_88 {h h2 : Hp_} {i v : Int} (hT : TY h) (e : up h 88 i v = h2) (hv : (-2147483648 ≤ v ∧ v ≤ 2147483647) ∧ (i < 10 → 0 ≤ v ∧ v ≤ 13)) : TY h2 := TY_up hT e (fun _ _ _ => by
  unfold tyr splL
  by_cases q : i < 10
  · simp [q]
    exact hv.2 q
  · simp [q, tyL, sh, shL]
    omega)
theorem ty_89 {h : Hp_} {i v : Int} (hT : TY h) (e : h 89 i = v) (h0 : 0 ≤ i) (h1 : i < 4400) : -2147483648 ≤ v ∧ v ≤ 2147483647 := e ▸ hT 89 i (by decide) h0 h1
theorem tu_89 {h h2 : Hp_} {i v : Int} (hT : TY h) (e : up h 89 i v = h2) (hv : -2147483648 ≤ v ∧ v ≤ 2147483647) : TY h2 := TY_up hT e (fun _ _ _ => hv)
theorem ty_90 {h : Hp_} {i v : Int} (hT : TY h) (e : h 90 i = v) (h0 : 0 ≤ i) (h1 : i < 10) : 0 ≤ v ∧ v ≤ 4400 := e ▸ hT 90 i (by decide) h0 h1
theorem tu_90 {h h2 : Hp_} {i v : Int} (hT : TY h) (e : up h 90 i v = h2) (hv : 0 ≤ v ∧ v ≤ 4400) : TY h2 := TY_up hT e (fun _ _ _ => hv)
theorem ty_91 {h : Hp_} {i v : Int} (hT : TY h) (e : h 91 i = v) (h0 : 0 ≤ i) (h1 : i < 10) : 0 ≤ v ∧ v ≤ 4400 := e ▸ hT 91 i (by decide) h0 h1
theorem tu_91 {h h2 : Hp_} {i v : Int} (hT : TY h) (e : up h 91 i v = h2) (hv : 0 ≤ v ∧ v ≤ 4400) : TY h2 := TY_up hT e (fun _ _ _ => hv)
theorem ty_92 {h : Hp_} {i v : Int} (hT : TY h) (e : h 92 i = v) (h0 : 0 ≤ i) (h1 : i < 350) : 0 ≤ v ∧ v ≤ 4400 := e ▸ hT 92 i (by decide) h0 h1
theorem tu_92 {h h2 : Hp_} {i v : Int} (hT : TY h) (e : up h 92 i v = h2) (hv : 0 ≤ v ∧ v ≤ 4400) : TY h2 := TY_up hT e (fun _ _ _ => hv)
theorem ty_93 {h : Hp_} {i v : Int} (hT : TY h) (e : h 93 i = v) (h0 : 0 ≤ i) (h1 : i < 100) : -1 ≤ v ∧ v ≤ 1 := e ▸ hT 93 i (by decide) h0 h1
theorem tu_93 {h h2 : Hp_} {i v : Int} (hT : TY h) (e : up h 93 i v = h2) (hv : -1 ≤ v ∧ v ≤ 1) : TY h2 := TY_up hT e (fun _ _ _ => hv)
theorem ty_94 {h : Hp_} {i v : Int} (hT : TY h) (e : h 94 i = v) (h0 : 0 ≤ i) (h1 : i < 64) : 0 ≤ v ∧ v ≤ 1 := e ▸ hT 94 i (by decide) h0 h1
theorem tu_94 {h h2 : Hp_} {i v : Int} (hT : TY h) (e : up h 94 i v = h2) (hv : 0 ≤ v ∧ v ≤ 1) : TY h2 := TY_up hT e (fun _ _ _ => hv)
theorem ty_95 {h : Hp_} {i v : Int} (hT : TY h) (e : h 95 i = v) (h0 : 0 ≤ i) (h1 : i < 64) : 0 ≤ v ∧ v ≤ 1 := e ▸ hT 95 i (by decide) h0 h1
theorem tu_95 {h h2 : Hp_} {i v : Int} (hT : TY h) (e : up h 95 i v = h2) (hv : 0 ≤ v ∧ v ≤ 1) : TY h2 := TY_up hT e (fun _ _ _ => hv)
theorem ty_96 {h : Hp_} {i v : Int} (hT : TY h) (e : h 96 i = v) (h0 : 0 ≤ i) (h1 : i < 19) : 0 ≤ v ∧ v ≤ 46 := e ▸ hT 96 i (by decide) h0 h1
theorem tu_96 {h h2 : Hp_} {i v : Int} (hT : TY h) (e : up h 96 i v = h2) (hv : 0 ≤ v ∧ v ≤ 46) : TY h2 := TY_up hT e (fun _ _ _ => hv)
theorem ty_97 {h : Hp_} {i v : Int} (hT : TY h) (e : h 97 i = v) (h0 : 0 ≤ i) (h1 : i < 19) : 0 ≤ v ∧ v ≤ 1 := e ▸ hT 97 i (by decide) h0 h1
theorem tu_97 {h h2 : Hp_} {i v : Int} (hT : TY h) (e : up h 97 i v = h2) (hv : 0 ≤ v ∧ v ≤ 1) : TY h2 := TY_up hT e (fun _ _ _ => hv)
theorem ty_98 {h : Hp_} {i v : Int} (hT : TY h) (e : h 98 i = v) (h0 : 0 ≤ i) (h1 : i < 3200) : -2147483648 ≤ v ∧ v ≤ 2147483647 := e ▸ hT 98 i (by decide) h0 h1
theorem tu_98 {h h2 : Hp_} {i v : Int} (hT : TY h) (e : up h 98 i v = h2) (hv : -2147483648 ≤ v ∧ v ≤ 2147483647) : TY h2 := TY_up hT e (fun _ _ _ => hv)
theorem ty_99 {h : Hp_} {i v : Int} (hT : TY h) (e : h 99 i = v) (h0 : 0 ≤ i) (h1 : i < 4400) : -2147483648 ≤ v ∧ v ≤ 2147483647 := e ▸ hT 99 i (by decide) h0 h1
theorem tu_99 {h h2 : Hp_} {i v : Int} (hT : TY h) (e : up h 99 i v = h2) (hv : -2147483648 ≤ v ∧ v ≤ 2147483647) : TY h2 := TY_up hT e (fun _ _ _ => hv)
theorem ty_100 {h : Hp_} {i v : Int} (hT : TY h) (e : h 100 i = v) (h0 : 0 ≤ i) (h1 : i < 4700) : -2147483648 ≤ v ∧ v ≤ 2147483647 := e ▸ hT 100 i (by decide) h0 h1
theorem tu_100 {h h2 : Hp_} {i v : Int} (hT : TY h) (e : up h 100 i v = h2) (hv : -2147483648 ≤ v ∧ v ≤ 2147483647) : TY h2 := TY_up hT e (fun _ _ _ => hv)
theorem ty_101 {h : Hp_} {i v : Int} (hT : TY h) (e : h 101 i = v) (h0 : 0 ≤ i) (h1 : i < 30) : 0 ≤ v ∧ v ≤ 4400 := e ▸ hT 101 i (by decide) h0 h1
theorem tu_101 {h h2 : Hp_} {i v : Int} (hT : TY h) (e : up h 101 i v = h2) (hv : 0 ≤ v ∧ v ≤ 4400) : TY h2 := TY_up hT e (fun _ _ _ => hv)
theorem ty_102 {h : Hp_} {i v : Int} (hT : TY h) (e : h 102 i = v) (h0 : 0 ≤ i) (h1 : i < 30) : 0 ≤ v ∧ v ≤ 4400 := e ▸ hT 102 i (by decide) h0 h1
theorem tu_102 {h h2 : Hp_} {i v : Int} (hT : TY h) (e : up h 102 i v = h2) (hv : 0 ≤ v ∧ v ≤ 4400) : TY h2 := TY_up hT e (fun _ _ _ => hv)
theorem ty_103 {h : Hp_} {i v : Int} (hT : TY h) (e : h 103 i = v) (h0 : 0 ≤ i) (h1 : i < 10) : 0 ≤ v ∧ v ≤ 3 := e ▸ hT 103 i (by decide) h0 h1
theorem tu_103 {h h2 : Hp_} {i v : Int} (hT : TY h) (e : up h 103 i v = h2) (hv : 0 ≤ v ∧ v ≤ 3) : TY h2 := TY_up hT e (fun _ _ _ => hv)
theorem ty_104 {h : Hp_} {i v : Int} (hT : TY h) (e : h 104 i = v) (h0 : 0 ≤ i) (h1 : i < 10) : 0 ≤ v ∧ v ≤ 536870912 := e ▸ hT 104 i (by decide) h0 h1
theorem tu_104 {h h2 : Hp_} {i v : Int} (hT : TY h) (e : up h 104 i v = h2) (hv : 0 ≤ v ∧ v ≤ 536870912) : TY h2 := TY_up hT e (fun _ _ _ => hv)
theorem ty_105 {h : Hp_} {i v : Int} (hT : TY h) (e : h 105 i = v) (h0 : 0 ≤ i) (h1 : i < 64) : 0 ≤ v ∧ v ≤ 255 := e ▸ hT 105 i (by decide) h0 h1
theorem tu_105 {h h2 : Hp_} {i v : Int} (hT : TY h) (e : up h 105 i v = h2) (hv : 0 ≤ v ∧ v ≤ 255) : TY h2 := TY_up hT e (fun _ _ _ => hv)
theorem ty_106 {h : Hp_} {i v : Int} (hT : TY h) (e : h 106 i = v) (h0 : 0 ≤ i) (h1 : i < 10) : -2147483648 ≤ v ∧ v ≤ 2147483647 := e ▸ hT 106 i (by decide) h0 h1
theorem tu_106 {h h2 : Hp_} {i v : Int} (hT : TY h) (e : up h 106 i v = h2) (hv : -2147483648 ≤ v ∧ v ≤ 2147483647) : TY h2 := TY_up hT e (fun _ _ _ => hv)
theorem ty_107 {h : Hp_} {i v : Int} (hT : TY h) (e : h 107 i = v) (h0 : 0 ≤ i) (h1 : i < 1) : -9223372036854775808 ≤ v ∧ v ≤ 9223372036854775807 := e ▸ hT 107 i (by decide) h0 h1
theorem tu_107 {h h2 : Hp_} {i v : Int} (hT : TY h) (e : up h 107 i v = h2) (hv : -9223372036854775808 ≤ v ∧ v ≤ 9223372036854775807) : TY h2 := TY_up hT e (fun _ _ _ => hv)

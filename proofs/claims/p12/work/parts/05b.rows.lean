section TTP
variable {K : TC_} {own : String} {cc : ByteArray} {nL : Nat} {ret : Option FieldType} {rm : Room} {nn : Nat} {w : Ly_} {kc ks pc : Nat} {lv : List (Nat × PV_)} {st : List PV_} {h : Hp_}
theorem TT_iconst (hK : TOk K own cc nL ret rm nn) {n : Int} (hd : decode cc pc = .ok (.iconst n, 1)) (k : TT K w kc ks (pc + 1) lv (vI n :: st) h) : TT K w kc ks pc lv (st) h := by
  obtain ⟨⟨p, l, e, R, s, m, args, below, meth, c, Q⟩, ⟨o1, c1, n1, D, cy, A, n0, ad0⟩⟩ := K
  obtain ⟨rfl, rfl, rfl, hx, hb, hml, hown, hr, hlk, hR, hts, hG, hA, hnn⟩ := hK
  intro ad H locs ls had hP hD hS hl
  refine lv_iconst hx hb hd rfl ?_
  exact k ad H locs ls had hP hD hS hl
theorem TT_bipush (hK : TOk K own cc nL ret rm nn) {n : Int} (hn : (Int8.ofInt n).toInt32 = Int32.ofInt n) (hd : decode cc pc = .ok (.bipush n, 2)) (k : TT K w kc ks (pc + 2) lv (vI n :: st) h) : TT K w kc ks pc lv (st) h := by
  obtain ⟨⟨p, l, e, R, s, m, args, below, meth, c, Q⟩, ⟨o1, c1, n1, D, cy, A, n0, ad0⟩⟩ := K
  obtain ⟨rfl, rfl, rfl, hx, hb, hml, hown, hr, hlk, hR, hts, hG, hA, hnn⟩ := hK
  intro ad H locs ls had hP hD hS hl
  refine lv_bipush hx hb hd hn ?_
  exact k ad H locs ls had hP hD hS hl
theorem TT_sipush (hK : TOk K own cc nL ret rm nn) {n : Int} (hn : (Int16.ofInt n).toInt32 = Int32.ofInt n) (hd : decode cc pc = .ok (.sipush n, 3)) (k : TT K w kc ks (pc + 3) lv (vI n :: st) h) : TT K w kc ks pc lv (st) h := by
  obtain ⟨⟨p, l, e, R, s, m, args, below, meth, c, Q⟩, ⟨o1, c1, n1, D, cy, A, n0, ad0⟩⟩ := K
  obtain ⟨rfl, rfl, rfl, hx, hb, hml, hown, hr, hlk, hR, hts, hG, hA, hnn⟩ := hK
  intro ad H locs ls had hP hD hS hl
  refine lv_sipush hx hb hd hn ?_
  exact k ad H locs ls had hP hD hS hl
theorem TT_lconst (hK : TOk K own cc nL ret rm nn) {n : Fin 2} {v : Int} (hn : Int64.ofNat (n : Nat) = Int64.ofInt v) (hd : decode cc pc = .ok (.lconst n, 1)) (k : TT K w kc ks (pc + 1) lv (vJ v :: st) h) : TT K w kc ks pc lv (st) h := by
  obtain ⟨⟨p, l, e, R, s, m, args, below, meth, c, Q⟩, ⟨o1, c1, n1, D, cy, A, n0, ad0⟩⟩ := K
  obtain ⟨rfl, rfl, rfl, hx, hb, hml, hown, hr, hlk, hR, hts, hG, hA, hnn⟩ := hK
  intro ad H locs ls had hP hD hS hl
  refine lv_lconst hx hb hd hn ?_
  exact k ad H locs ls had hP hD hS hl
theorem TT_iadd (hK : TOk K own cc nL ret rm nn) {a b : Int} (hd : decode cc pc = .ok (.iadd, 1)) (k : TT K w kc ks (pc + 1) lv (vI (a + b) :: st) h) : TT K w kc ks pc lv (vI b :: vI a :: st) h := by
  obtain ⟨⟨p, l, e, R, s, m, args, below, meth, c, Q⟩, ⟨o1, c1, n1, D, cy, A, n0, ad0⟩⟩ := K
  obtain ⟨rfl, rfl, rfl, hx, hb, hml, hown, hr, hlk, hR, hts, hG, hA, hnn⟩ := hK
  intro ad H locs ls had hP hD hS hl
  refine lv_iadd hx hb hd ?_
  rw [← Int32.ofInt_add]
  exact k ad H locs ls had hP hD hS hl
theorem TT_isub (hK : TOk K own cc nL ret rm nn) {a b : Int} (hd : decode cc pc = .ok (.isub, 1)) (k : TT K w kc ks (pc + 1) lv (vI (a - b) :: st) h) : TT K w kc ks pc lv (vI b :: vI a :: st) h := by
  obtain ⟨⟨p, l, e, R, s, m, args, below, meth, c, Q⟩, ⟨o1, c1, n1, D, cy, A, n0, ad0⟩⟩ := K
  obtain ⟨rfl, rfl, rfl, hx, hb, hml, hown, hr, hlk, hR, hts, hG, hA, hnn⟩ := hK
  intro ad H locs ls had hP hD hS hl
  refine lv_isub hx hb hd ?_
  rw [← Int32.ofInt_sub]
  exact k ad H locs ls had hP hD hS hl
theorem TT_imul (hK : TOk K own cc nL ret rm nn) {a b : Int} (hd : decode cc pc = .ok (.imul, 1)) (k : TT K w kc ks (pc + 1) lv (vI (a * b) :: st) h) : TT K w kc ks pc lv (vI b :: vI a :: st) h := by
  obtain ⟨⟨p, l, e, R, s, m, args, below, meth, c, Q⟩, ⟨o1, c1, n1, D, cy, A, n0, ad0⟩⟩ := K
  obtain ⟨rfl, rfl, rfl, hx, hb, hml, hown, hr, hlk, hR, hts, hG, hA, hnn⟩ := hK
  intro ad H locs ls had hP hD hS hl
  refine lv_imul hx hb hd ?_
  rw [← Int32.ofInt_mul]
  exact k ad H locs ls had hP hD hS hl
theorem TT_ineg (hK : TOk K own cc nL ret rm nn) {a : Int} (hd : decode cc pc = .ok (.ineg, 1)) (k : TT K w kc ks (pc + 1) lv (vI (-a) :: st) h) : TT K w kc ks pc lv (vI a :: st) h := by
  obtain ⟨⟨p, l, e, R, s, m, args, below, meth, c, Q⟩, ⟨o1, c1, n1, D, cy, A, n0, ad0⟩⟩ := K
  obtain ⟨rfl, rfl, rfl, hx, hb, hml, hown, hr, hlk, hR, hts, hG, hA, hnn⟩ := hK
  intro ad H locs ls had hP hD hS hl
  refine lv_ineg hx hb hd ?_
  first | rw [← Int32.ofInt_neg] | rw [show (0 - Int32.ofInt a : Int32) = Int32.ofInt (-a) by rw [Int32.ofInt_neg]; exact Int32.zero_sub _]
  exact k ad H locs ls had hP hD hS hl
theorem TT_ladd (hK : TOk K own cc nL ret rm nn) {a b : Int} (hd : decode cc pc = .ok (.ladd, 1)) (k : TT K w kc ks (pc + 1) lv (vJ (a + b) :: st) h) : TT K w kc ks pc lv (vJ b :: vJ a :: st) h := by
  obtain ⟨⟨p, l, e, R, s, m, args, below, meth, c, Q⟩, ⟨o1, c1, n1, D, cy, A, n0, ad0⟩⟩ := K
  obtain ⟨rfl, rfl, rfl, hx, hb, hml, hown, hr, hlk, hR, hts, hG, hA, hnn⟩ := hK
  intro ad H locs ls had hP hD hS hl
  refine lv_ladd hx hb hd ?_
  rw [← Int64.ofInt_add]
  exact k ad H locs ls had hP hD hS hl
theorem TT_lsub (hK : TOk K own cc nL ret rm nn) {a b : Int} (hd : decode cc pc = .ok (.lsub, 1)) (k : TT K w kc ks (pc + 1) lv (vJ (a - b) :: st) h) : TT K w kc ks pc lv (vJ b :: vJ a :: st) h := by
  obtain ⟨⟨p, l, e, R, s, m, args, below, meth, c, Q⟩, ⟨o1, c1, n1, D, cy, A, n0, ad0⟩⟩ := K
  obtain ⟨rfl, rfl, rfl, hx, hb, hml, hown, hr, hlk, hR, hts, hG, hA, hnn⟩ := hK
  intro ad H locs ls had hP hD hS hl
  refine lv_lsub hx hb hd ?_
  rw [← Int64.ofInt_sub]
  exact k ad H locs ls had hP hD hS hl
theorem TT_lmul (hK : TOk K own cc nL ret rm nn) {a b : Int} (hd : decode cc pc = .ok (.lmul, 1)) (k : TT K w kc ks (pc + 1) lv (vJ (a * b) :: st) h) : TT K w kc ks pc lv (vJ b :: vJ a :: st) h := by
  obtain ⟨⟨p, l, e, R, s, m, args, below, meth, c, Q⟩, ⟨o1, c1, n1, D, cy, A, n0, ad0⟩⟩ := K
  obtain ⟨rfl, rfl, rfl, hx, hb, hml, hown, hr, hlk, hR, hts, hG, hA, hnn⟩ := hK
  intro ad H locs ls had hP hD hS hl
  refine lv_lmul hx hb hd ?_
  rw [← Int64.ofInt_mul]
  exact k ad H locs ls had hP hD hS hl
theorem TT_idiv (hK : TOk K own cc nL ret rm nn) {a b : Int} (ha : ir_ a) (hb0 : ir_ b) (hb1 : 0 < b) (hd : decode cc pc = .ok (.idiv, 1)) (k : TT K w kc ks (pc + 1) lv (vI (a.tdiv b) :: st) h) : TT K w kc ks pc lv (vI b :: vI a :: st) h := by
  obtain ⟨⟨p, l, e, R, s, m, args, below, meth, c, Q⟩, ⟨o1, c1, n1, D, cy, A, n0, ad0⟩⟩ := K
  obtain ⟨rfl, rfl, rfl, hx, hb, hml, hown, hr, hlk, hR, hts, hG, hA, hnn⟩ := hK
  intro ad H locs ls had hP hD hS hl
  refine lv_idiv hx hb hd (ir_ne0 hb0 hb1) ?_
  rw [← ir_div ha hb0 hb1]
  exact k ad H locs ls had hP hD hS hl
theorem TT_irem (hK : TOk K own cc nL ret rm nn) {a b : Int} (ha : ir_ a) (hb0 : ir_ b) (hb1 : 0 < b) (hd : decode cc pc = .ok (.irem, 1)) (k : TT K w kc ks (pc + 1) lv (vI (a.tmod b) :: st) h) : TT K w kc ks pc lv (vI b :: vI a :: st) h := by
  obtain ⟨⟨p, l, e, R, s, m, args, below, meth, c, Q⟩, ⟨o1, c1, n1, D, cy, A, n0, ad0⟩⟩ := K
  obtain ⟨rfl, rfl, rfl, hx, hb, hml, hown, hr, hlk, hR, hts, hG, hA, hnn⟩ := hK
  intro ad H locs ls had hP hD hS hl
  refine lv_irem hx hb hd (ir_ne0 hb0 hb1) ?_
  rw [ir_rem ha hb0 hb1]
  exact k ad H locs ls had hP hD hS hl
theorem TT_ldiv (hK : TOk K own cc nL ret rm nn) {a b : Int} (ha : lr_ a) (hb0 : lr_ b) (hb1 : 0 < b) (hd : decode cc pc = .ok (.ldiv, 1)) (k : TT K w kc ks (pc + 1) lv (vJ (a.tdiv b) :: st) h) : TT K w kc ks pc lv (vJ b :: vJ a :: st) h := by
  obtain ⟨⟨p, l, e, R, s, m, args, below, meth, c, Q⟩, ⟨o1, c1, n1, D, cy, A, n0, ad0⟩⟩ := K
  obtain ⟨rfl, rfl, rfl, hx, hb, hml, hown, hr, hlk, hR, hts, hG, hA, hnn⟩ := hK
  intro ad H locs ls had hP hD hS hl
  refine lv_ldiv hx hb hd (lr_ne0 hb0 hb1) ?_
  rw [← lr_div ha hb0 hb1]
  exact k ad H locs ls had hP hD hS hl
theorem TT_lrem (hK : TOk K own cc nL ret rm nn) {a b : Int} (ha : lr_ a) (hb0 : lr_ b) (hb1 : 0 < b) (hd : decode cc pc = .ok (.lrem, 1)) (k : TT K w kc ks (pc + 1) lv (vJ (a.tmod b) :: st) h) : TT K w kc ks pc lv (vJ b :: vJ a :: st) h := by
  obtain ⟨⟨p, l, e, R, s, m, args, below, meth, c, Q⟩, ⟨o1, c1, n1, D, cy, A, n0, ad0⟩⟩ := K
  obtain ⟨rfl, rfl, rfl, hx, hb, hml, hown, hr, hlk, hR, hts, hG, hA, hnn⟩ := hK
  intro ad H locs ls had hP hD hS hl
  refine lv_lrem hx hb hd (lr_ne0 hb0 hb1) ?_
  rw [lr_rem ha hb0 hb1]
  exact k ad H locs ls had hP hD hS hl
theorem TT_iand (hK : TOk K own cc nL ret rm nn) {a b : Int} (hd : decode cc pc = .ok (.iand, 1)) (k : TT K w kc ks (pc + 1) lv (vI (iand_ a b) :: st) h) : TT K w kc ks pc lv (vI b :: vI a :: st) h := by
  obtain ⟨⟨p, l, e, R, s, m, args, below, meth, c, Q⟩, ⟨o1, c1, n1, D, cy, A, n0, ad0⟩⟩ := K
  obtain ⟨rfl, rfl, rfl, hx, hb, hml, hown, hr, hlk, hR, hts, hG, hA, hnn⟩ := hK
  intro ad H locs ls had hP hD hS hl
  refine lv_iand hx hb hd ?_
  rw [← iand__of]
  exact k ad H locs ls had hP hD hS hl
theorem TT_ior (hK : TOk K own cc nL ret rm nn) {a b : Int} (hd : decode cc pc = .ok (.ior, 1)) (k : TT K w kc ks (pc + 1) lv (vI (ior_ a b) :: st) h) : TT K w kc ks pc lv (vI b :: vI a :: st) h := by
  obtain ⟨⟨p, l, e, R, s, m, args, below, meth, c, Q⟩, ⟨o1, c1, n1, D, cy, A, n0, ad0⟩⟩ := K
  obtain ⟨rfl, rfl, rfl, hx, hb, hml, hown, hr, hlk, hR, hts, hG, hA, hnn⟩ := hK
  intro ad H locs ls had hP hD hS hl
  refine lv_ior hx hb hd ?_
  rw [← ior__of]
  exact k ad H locs ls had hP hD hS hl
theorem TT_ixor (hK : TOk K own cc nL ret rm nn) {a b : Int} (hd : decode cc pc = .ok (.ixor, 1)) (k : TT K w kc ks (pc + 1) lv (vI (ixor_ a b) :: st) h) : TT K w kc ks pc lv (vI b :: vI a :: st) h := by
  obtain ⟨⟨p, l, e, R, s, m, args, below, meth, c, Q⟩, ⟨o1, c1, n1, D, cy, A, n0, ad0⟩⟩ := K
  obtain ⟨rfl, rfl, rfl, hx, hb, hml, hown, hr, hlk, hR, hts, hG, hA, hnn⟩ := hK
  intro ad H locs ls had hP hD hS hl
  refine lv_ixor hx hb hd ?_
  rw [← ixor__of]
  exact k ad H locs ls had hP hD hS hl
theorem TT_ishl (hK : TOk K own cc nL ret rm nn) {a b : Int} (hb0 : 0 ≤ b) (hb1 : b < 32) (hd : decode cc pc = .ok (.ishl, 1)) (k : TT K w kc ks (pc + 1) lv (vI (a * 2 ^ b.toNat) :: st) h) : TT K w kc ks pc lv (vI b :: vI a :: st) h := by
  obtain ⟨⟨p, l, e, R, s, m, args, below, meth, c, Q⟩, ⟨o1, c1, n1, D, cy, A, n0, ad0⟩⟩ := K
  obtain ⟨rfl, rfl, rfl, hx, hb, hml, hown, hr, hlk, hR, hts, hG, hA, hnn⟩ := hK
  intro ad H locs ls had hP hD hS hl
  refine lv_ishl hx hb hd ?_
  rw [ir_31 hb0 hb1, ← ir_shl hb0 hb1]
  exact k ad H locs ls had hP hD hS hl
theorem TT_ishr (hK : TOk K own cc nL ret rm nn) {a b : Int} (ha : ir_ a) (hb0 : 0 ≤ b) (hb1 : b < 32) (hd : decode cc pc = .ok (.ishr, 1)) (k : TT K w kc ks (pc + 1) lv (vI (a / 2 ^ b.toNat) :: st) h) : TT K w kc ks pc lv (vI b :: vI a :: st) h := by
  obtain ⟨⟨p, l, e, R, s, m, args, below, meth, c, Q⟩, ⟨o1, c1, n1, D, cy, A, n0, ad0⟩⟩ := K
  obtain ⟨rfl, rfl, rfl, hx, hb, hml, hown, hr, hlk, hR, hts, hG, hA, hnn⟩ := hK
  intro ad H locs ls had hP hD hS hl
  refine lv_ishr hx hb hd ?_
  rw [ir_31 hb0 hb1, ir_shr ha hb0 hb1]
  exact k ad H locs ls had hP hD hS hl
theorem TT_lshl (hK : TOk K own cc nL ret rm nn) {a b : Int} (hb1 : b = 1 ∨ b = 7 ∨ b = 16) (hd : decode cc pc = .ok (.lshl, 1)) (k : TT K w kc ks (pc + 1) lv (vJ (a * 2 ^ b.toNat) :: st) h) : TT K w kc ks pc lv (vI b :: vJ a :: st) h := by
  obtain ⟨⟨p, l, e, R, s, m, args, below, meth, c, Q⟩, ⟨o1, c1, n1, D, cy, A, n0, ad0⟩⟩ := K
  obtain ⟨rfl, rfl, rfl, hx, hb, hml, hown, hr, hlk, hR, hts, hG, hA, hnn⟩ := hK
  intro ad H locs ls had hP hD hS hl
  refine lv_lshl hx hb hd (lr_shl hb1) ?_
  exact k ad H locs ls had hP hD hS hl
theorem TT_lshr (hK : TOk K own cc nL ret rm nn) {a b : Int} (ha : lr_ a) (hb1 : b = 16) (hd : decode cc pc = .ok (.lshr, 1)) (k : TT K w kc ks (pc + 1) lv (vJ (a / 2 ^ b.toNat) :: st) h) : TT K w kc ks pc lv (vI b :: vJ a :: st) h := by
  obtain ⟨⟨p, l, e, R, s, m, args, below, meth, c, Q⟩, ⟨o1, c1, n1, D, cy, A, n0, ad0⟩⟩ := K
  obtain ⟨rfl, rfl, rfl, hx, hb, hml, hown, hr, hlk, hR, hts, hG, hA, hnn⟩ := hK
  intro ad H locs ls had hP hD hS hl
  refine lv_lshr hx hb hd (lr_shr ha hb1) ?_
  exact k ad H locs ls had hP hD hS hl
theorem TT_i2l (hK : TOk K own cc nL ret rm nn) {a : Int} (ha : ir_ a) (hd : decode cc pc = .ok (.i2l, 1)) (k : TT K w kc ks (pc + 1) lv (vJ a :: st) h) : TT K w kc ks pc lv (vI a :: st) h := by
  obtain ⟨⟨p, l, e, R, s, m, args, below, meth, c, Q⟩, ⟨o1, c1, n1, D, cy, A, n0, ad0⟩⟩ := K
  obtain ⟨rfl, rfl, rfl, hx, hb, hml, hown, hr, hlk, hR, hts, hG, hA, hnn⟩ := hK
  intro ad H locs ls had hP hD hS hl
  refine lv_i2l hx hb hd (ir_long ha) ?_
  exact k ad H locs ls had hP hD hS hl
theorem TT_l2i (hK : TOk K own cc nL ret rm nn) {a : Int} (hd : decode cc pc = .ok (.l2i, 1)) (k : TT K w kc ks (pc + 1) lv (vI a :: st) h) : TT K w kc ks pc lv (vJ a :: st) h := by
  obtain ⟨⟨p, l, e, R, s, m, args, below, meth, c, Q⟩, ⟨o1, c1, n1, D, cy, A, n0, ad0⟩⟩ := K
  obtain ⟨rfl, rfl, rfl, hx, hb, hml, hown, hr, hlk, hR, hts, hG, hA, hnn⟩ := hK
  intro ad H locs ls had hP hD hS hl
  refine lv_l2i hx hb hd (Int64.toInt32_ofInt) ?_
  exact k ad H locs ls had hP hD hS hl
theorem TT_iload_n (hK : TOk K own cc nL ret rm nn) {i : Nat} {k4 : Fin 4} (hi : (k4 : Nat) = i) {z : Int} (j : Nat) (hj : lv[j]? = some (i, vI z)) (hd : decode cc pc = .ok (.iload_n k4, 1)) (k : TT K w kc ks (pc + 1) lv (vI z :: st) h) : TT K w kc ks pc lv (st) h := by
  obtain ⟨⟨p, l, e, R, s, m, args, below, meth, c, Q⟩, ⟨o1, c1, n1, D, cy, A, n0, ad0⟩⟩ := K
  obtain ⟨rfl, rfl, rfl, hx, hb, hml, hown, hr, hlk, hR, hts, hG, hA, hnn⟩ := hK
  intro ad H locs ls had hP hD hS hl
  refine lv_iload_n hx hb hd hi (lv_at hl j (lvm_at ad hj)) ?_
  exact k ad H locs ls had hP hD hS hl
theorem TT_iload (hK : TOk K own cc nL ret rm nn) {i : Nat}  {z : Int} (j : Nat) (hj : lv[j]? = some (i, vI z)) (hd : decode cc pc = .ok (.iload i, 2)) (k : TT K w kc ks (pc + 2) lv (vI z :: st) h) : TT K w kc ks pc lv (st) h := by
  obtain ⟨⟨p, l, e, R, s, m, args, below, meth, c, Q⟩, ⟨o1, c1, n1, D, cy, A, n0, ad0⟩⟩ := K
  obtain ⟨rfl, rfl, rfl, hx, hb, hml, hown, hr, hlk, hR, hts, hG, hA, hnn⟩ := hK
  intro ad H locs ls had hP hD hS hl
  refine lv_iload hx hb hd (lv_at hl j (lvm_at ad hj)) ?_
  exact k ad H locs ls had hP hD hS hl
theorem TT_lload_n (hK : TOk K own cc nL ret rm nn) {i : Nat} {k4 : Fin 4} (hi : (k4 : Nat) = i) {z : Int} (j : Nat) (hj : lv[j]? = some (i, vJ z)) (hd : decode cc pc = .ok (.lload_n k4, 1)) (k : TT K w kc ks (pc + 1) lv (vJ z :: st) h) : TT K w kc ks pc lv (st) h := by
  obtain ⟨⟨p, l, e, R, s, m, args, below, meth, c, Q⟩, ⟨o1, c1, n1, D, cy, A, n0, ad0⟩⟩ := K
  obtain ⟨rfl, rfl, rfl, hx, hb, hml, hown, hr, hlk, hR, hts, hG, hA, hnn⟩ := hK
  intro ad H locs ls had hP hD hS hl
  refine lv_lload_n hx hb hd hi (lv_at hl j (lvm_at ad hj)) ?_
  exact k ad H locs ls had hP hD hS hl
theorem TT_lload (hK : TOk K own cc nL ret rm nn) {i : Nat}  {z : Int} (j : Nat) (hj : lv[j]? = some (i, vJ z)) (hd : decode cc pc = .ok (.lload i, 2)) (k : TT K w kc ks (pc + 2) lv (vJ z :: st) h) : TT K w kc ks pc lv (st) h := by
  obtain ⟨⟨p, l, e, R, s, m, args, below, meth, c, Q⟩, ⟨o1, c1, n1, D, cy, A, n0, ad0⟩⟩ := K
  obtain ⟨rfl, rfl, rfl, hx, hb, hml, hown, hr, hlk, hR, hts, hG, hA, hnn⟩ := hK
  intro ad H locs ls had hP hD hS hl
  refine lv_lload hx hb hd (lv_at hl j (lvm_at ad hj)) ?_
  exact k ad H locs ls had hP hD hS hl
theorem TT_aload_n (hK : TOk K own cc nL ret rm nn) {i : Nat} {k4 : Fin 4} (hi : (k4 : Nat) = i) {z : Nat} (j : Nat) (hj : lv[j]? = some (i, vR z)) (hd : decode cc pc = .ok (.aload_n k4, 1)) (k : TT K w kc ks (pc + 1) lv (vR z :: st) h) : TT K w kc ks pc lv (st) h := by
  obtain ⟨⟨p, l, e, R, s, m, args, below, meth, c, Q⟩, ⟨o1, c1, n1, D, cy, A, n0, ad0⟩⟩ := K
  obtain ⟨rfl, rfl, rfl, hx, hb, hml, hown, hr, hlk, hR, hts, hG, hA, hnn⟩ := hK
  intro ad H locs ls had hP hD hS hl
  refine lv_aload_n hx hb hd hi (lv_at hl j (lvm_at ad hj)) ?_
  exact k ad H locs ls had hP hD hS hl
theorem TT_aload (hK : TOk K own cc nL ret rm nn) {i : Nat}  {z : Nat} (j : Nat) (hj : lv[j]? = some (i, vR z)) (hd : decode cc pc = .ok (.aload i, 2)) (k : TT K w kc ks (pc + 2) lv (vR z :: st) h) : TT K w kc ks pc lv (st) h := by
  obtain ⟨⟨p, l, e, R, s, m, args, below, meth, c, Q⟩, ⟨o1, c1, n1, D, cy, A, n0, ad0⟩⟩ := K
  obtain ⟨rfl, rfl, rfl, hx, hb, hml, hown, hr, hlk, hR, hts, hG, hA, hnn⟩ := hK
  intro ad H locs ls had hP hD hS hl
  refine lv_aload hx hb hd (lv_at hl j (lvm_at ad hj)) ?_
  exact k ad H locs ls had hP hD hS hl
theorem TT_istore_n (hK : TOk K own cc nL ret rm nn) {i : Nat} {k4 : Fin 4} (hi : (k4 : Nat) = i) {z : Int} {lv' : List (Nat × PV_)} (hn : i < nL) (hl' : (i, vI z) :: lv.filter (lvf1 i) = lv') (hd : decode cc pc = .ok (.istore_n k4, 1)) (k : TT K w kc ks (pc + 1) lv' (st) h) : TT K w kc ks pc lv (vI z :: st) h := by
  obtain ⟨⟨p, l, e, R, s, m, args, below, meth, c, Q⟩, ⟨o1, c1, n1, D, cy, A, n0, ad0⟩⟩ := K
  obtain ⟨rfl, rfl, rfl, hx, hb, hml, hown, hr, hlk, hR, hts, hG, hA, hnn⟩ := hK
  intro ad H locs ls had hP hD hS hl
  refine lv_istore_n hx hb hd hi hl hn (lvm_st1 ad hl') (fun ls hl => ?_)
  exact k ad H locs ls had hP hD hS hl
theorem TT_istore (hK : TOk K own cc nL ret rm nn) {i : Nat}  {z : Int} {lv' : List (Nat × PV_)} (hn : i < nL) (hl' : (i, vI z) :: lv.filter (lvf1 i) = lv') (hd : decode cc pc = .ok (.istore i, 2)) (k : TT K w kc ks (pc + 2) lv' (st) h) : TT K w kc ks pc lv (vI z :: st) h := by
  obtain ⟨⟨p, l, e, R, s, m, args, below, meth, c, Q⟩, ⟨o1, c1, n1, D, cy, A, n0, ad0⟩⟩ := K
  obtain ⟨rfl, rfl, rfl, hx, hb, hml, hown, hr, hlk, hR, hts, hG, hA, hnn⟩ := hK
  intro ad H locs ls had hP hD hS hl
  refine lv_istore hx hb hd hl hn (lvm_st1 ad hl') (fun ls hl => ?_)
  exact k ad H locs ls had hP hD hS hl
theorem TT_lstore_n (hK : TOk K own cc nL ret rm nn) {i : Nat} {k4 : Fin 4} (hi : (k4 : Nat) = i) {z : Int} {lv' : List (Nat × PV_)} (hn : i + 1 < nL) (hl' : (i, vJ z) :: lv.filter (lvf2 i) = lv') (hd : decode cc pc = .ok (.lstore_n k4, 1)) (k : TT K w kc ks (pc + 1) lv' (st) h) : TT K w kc ks pc lv (vJ z :: st) h := by
  obtain ⟨⟨p, l, e, R, s, m, args, below, meth, c, Q⟩, ⟨o1, c1, n1, D, cy, A, n0, ad0⟩⟩ := K
  obtain ⟨rfl, rfl, rfl, hx, hb, hml, hown, hr, hlk, hR, hts, hG, hA, hnn⟩ := hK
  intro ad H locs ls had hP hD hS hl
  refine lv_lstore_n hx hb hd hi hl hn (lvm_st2 ad hl') (fun ls hl => ?_)
  exact k ad H locs ls had hP hD hS hl
theorem TT_lstore (hK : TOk K own cc nL ret rm nn) {i : Nat}  {z : Int} {lv' : List (Nat × PV_)} (hn : i + 1 < nL) (hl' : (i, vJ z) :: lv.filter (lvf2 i) = lv') (hd : decode cc pc = .ok (.lstore i, 2)) (k : TT K w kc ks (pc + 2) lv' (st) h) : TT K w kc ks pc lv (vJ z :: st) h := by
  obtain ⟨⟨p, l, e, R, s, m, args, below, meth, c, Q⟩, ⟨o1, c1, n1, D, cy, A, n0, ad0⟩⟩ := K
  obtain ⟨rfl, rfl, rfl, hx, hb, hml, hown, hr, hlk, hR, hts, hG, hA, hnn⟩ := hK
  intro ad H locs ls had hP hD hS hl
  refine lv_lstore hx hb hd hl hn (lvm_st2 ad hl') (fun ls hl => ?_)
  exact k ad H locs ls had hP hD hS hl
theorem TT_astore_n (hK : TOk K own cc nL ret rm nn) {i : Nat} {k4 : Fin 4} (hi : (k4 : Nat) = i) {z : Nat} {lv' : List (Nat × PV_)} (hn : i < nL) (hl' : (i, vR z) :: lv.filter (lvf1 i) = lv') (hd : decode cc pc = .ok (.astore_n k4, 1)) (k : TT K w kc ks (pc + 1) lv' (st) h) : TT K w kc ks pc lv (vR z :: st) h := by
  obtain ⟨⟨p, l, e, R, s, m, args, below, meth, c, Q⟩, ⟨o1, c1, n1, D, cy, A, n0, ad0⟩⟩ := K
  obtain ⟨rfl, rfl, rfl, hx, hb, hml, hown, hr, hlk, hR, hts, hG, hA, hnn⟩ := hK
  intro ad H locs ls had hP hD hS hl
  refine lv_astore_n hx hb hd hi hl hn (lvm_st1 ad hl') (fun ls hl => ?_)
  exact k ad H locs ls had hP hD hS hl
theorem TT_astore (hK : TOk K own cc nL ret rm nn) {i : Nat}  {z : Nat} {lv' : List (Nat × PV_)} (hn : i < nL) (hl' : (i, vR z) :: lv.filter (lvf1 i) = lv') (hd : decode cc pc = .ok (.astore i, 2)) (k : TT K w kc ks (pc + 2) lv' (st) h) : TT K w kc ks pc lv (vR z :: st) h := by
  obtain ⟨⟨p, l, e, R, s, m, args, below, meth, c, Q⟩, ⟨o1, c1, n1, D, cy, A, n0, ad0⟩⟩ := K
  obtain ⟨rfl, rfl, rfl, hx, hb, hml, hown, hr, hlk, hR, hts, hG, hA, hnn⟩ := hK
  intro ad H locs ls had hP hD hS hl
  refine lv_astore hx hb hd hl hn (lvm_st1 ad hl') (fun ls hl => ?_)
  exact k ad H locs ls had hP hD hS hl
theorem TT_iinc (hK : TOk K own cc nL ret rm nn) {i : Nat} {n z v : Int} {lv' : List (Nat × PV_)} (j : Nat) (hj : lv[j]? = some (i, vI z)) (hv : z + n = v) (hn : i < nL) (hl' : (i, vI v) :: lv.filter (lvf1 i) = lv') (hd : decode cc pc = .ok (.iinc i n, 3)) (k : TT K w kc ks (pc + 3) lv' (st) h) : TT K w kc ks pc lv (st) h := by
  obtain ⟨⟨p, l, e, R, s, m, args, below, meth, c, Q⟩, ⟨o1, c1, n1, D, cy, A, n0, ad0⟩⟩ := K
  obtain ⟨rfl, rfl, rfl, hx, hb, hml, hown, hr, hlk, hR, hts, hG, hA, hnn⟩ := hK
  intro ad H locs ls had hP hD hS hl
  subst hv
  refine lv_iinc hx hb hd hl (lvm_at ad hj) (Int32.ofInt_add _ _).symm hn (lvm_st1 ad hl') (fun ls hl => ?_)
  exact k ad H locs ls had hP hD hS hl
theorem TT_dup (hK : TOk K own cc nL ret rm nn) {v : PV_} (hv : pcat v = 1) (hd : decode cc pc = .ok (.dup, 1)) (k : TT K w kc ks (pc + 1) lv (v :: v :: st) h) : TT K w kc ks pc lv (v :: st) h := by
  obtain ⟨⟨p, l, e, R, s, m, args, below, meth, c, Q⟩, ⟨o1, c1, n1, D, cy, A, n0, ad0⟩⟩ := K
  obtain ⟨rfl, rfl, rfl, hx, hb, hml, hown, hr, hlk, hR, hts, hG, hA, hnn⟩ := hK
  intro ad H locs ls had hP hD hS hl
  refine lv_dup hx hb hd ((pcat_cv ad v).trans hv) ?_
  exact k ad H locs ls had hP hD hS hl
theorem TT_pop (hK : TOk K own cc nL ret rm nn) {v : PV_} (hv : pcat v = 1) (hd : decode cc pc = .ok (.pop, 1)) (k : TT K w kc ks (pc + 1) lv (st) h) : TT K w kc ks pc lv (v :: st) h := by
  obtain ⟨⟨p, l, e, R, s, m, args, below, meth, c, Q⟩, ⟨o1, c1, n1, D, cy, A, n0, ad0⟩⟩ := K
  obtain ⟨rfl, rfl, rfl, hx, hb, hml, hown, hr, hlk, hR, hts, hG, hA, hnn⟩ := hK
  intro ad H locs ls had hP hD hS hl
  refine lv_pop hx hb hd ((pcat_cv ad v).trans hv) ?_
  exact k ad H locs ls had hP hD hS hl
theorem TT_dup2 (hK : TOk K own cc nL ret rm nn) {v u : PV_} (hv : pcat v = 1) (hu : pcat u = 1) (hd : decode cc pc = .ok (.dup2, 1)) (k : TT K w kc ks (pc + 1) lv (v :: u :: v :: u :: st) h) : TT K w kc ks pc lv (v :: u :: st) h := by
  obtain ⟨⟨p, l, e, R, s, m, args, below, meth, c, Q⟩, ⟨o1, c1, n1, D, cy, A, n0, ad0⟩⟩ := K
  obtain ⟨rfl, rfl, rfl, hx, hb, hml, hown, hr, hlk, hR, hts, hG, hA, hnn⟩ := hK
  intro ad H locs ls had hP hD hS hl
  refine lv_dup2_11 hx hb hd ((pcat_cv ad v).trans hv) ((pcat_cv ad u).trans hu) ?_
  exact k ad H locs ls had hP hD hS hl
theorem TT_dup_x1 (hK : TOk K own cc nL ret rm nn) {v u : PV_} (hv : pcat v = 1) (hu : pcat u = 1) (hd : decode cc pc = .ok (.dup_x1, 1)) (k : TT K w kc ks (pc + 1) lv (v :: u :: v :: st) h) : TT K w kc ks pc lv (v :: u :: st) h := by
  obtain ⟨⟨p, l, e, R, s, m, args, below, meth, c, Q⟩, ⟨o1, c1, n1, D, cy, A, n0, ad0⟩⟩ := K
  obtain ⟨rfl, rfl, rfl, hx, hb, hml, hown, hr, hlk, hR, hts, hG, hA, hnn⟩ := hK
  intro ad H locs ls had hP hD hS hl
  refine lv_dup_x1 hx hb hd ((pcat_cv ad v).trans hv) ((pcat_cv ad u).trans hu) ?_
  exact k ad H locs ls had hP hD hS hl
theorem TT_dup2l (hK : TOk K own cc nL ret rm nn) {v : PV_} (hv : pcat v = 2) (hd : decode cc pc = .ok (.dup2, 1)) (k : TT K w kc ks (pc + 1) lv (v :: v :: st) h) : TT K w kc ks pc lv (v :: st) h := by
  obtain ⟨⟨p, l, e, R, s, m, args, below, meth, c, Q⟩, ⟨o1, c1, n1, D, cy, A, n0, ad0⟩⟩ := K
  obtain ⟨rfl, rfl, rfl, hx, hb, hml, hown, hr, hlk, hR, hts, hG, hA, hnn⟩ := hK
  intro ad H locs ls had hP hD hS hl
  refine lv_dup2_2 hx hb hd ((pcat_cv ad v).trans hv) ?_
  exact k ad H locs ls had hP hD hS hl
theorem TT_icmp_eq (hK : TOk K own cc nL ret rm nn) {a b : Int} {off : Int} {tgt : Nat} (ha : ir_ a) (hb0 : ir_ b) (hd : decode cc pc = .ok (.if_icmp .eq off, 3)) (ht : (pc : Int) + off = (tgt : Int)) (k1 : a = b → TT K w kc ks tgt lv st h) (k2 : a ≠ b → TT K w kc ks (pc + 3) lv st h) : TT K w kc ks pc lv (vI b :: vI a :: st) h := by
  obtain ⟨⟨p, l, e, R, s, m, args, below, meth, c, Q⟩, ⟨o1, c1, n1, D, cy, A, n0, ad0⟩⟩ := K
  obtain ⟨rfl, rfl, rfl, hx, hb, hml, hown, hr, hlk, hR, hts, hG, hA, hnn⟩ := hK
  intro ad H locs ls had hP hD hS hl
  refine lv_icmp_eq (tgt := tgt) hx hb hd ht (fun hc => ?_) (fun hc => ?_)
  · exact k1 (ic_eq_t ha hb0 hc) ad H locs ls had hP hD hS hl
  · exact k2 (ic_eq_f ha hb0 hc) ad H locs ls had hP hD hS hl
theorem TT_if_eq (hK : TOk K own cc nL ret rm nn) {a : Int} {off : Int} {tgt : Nat} (ha : ir_ a) (hd : decode cc pc = .ok (.ifCond .eq off, 3)) (ht : (pc : Int) + off = (tgt : Int)) (k1 : a = 0 → TT K w kc ks tgt lv st h) (k2 : a ≠ 0 → TT K w kc ks (pc + 3) lv st h) : TT K w kc ks pc lv (vI a :: st) h := by
  obtain ⟨⟨p, l, e, R, s, m, args, below, meth, c, Q⟩, ⟨o1, c1, n1, D, cy, A, n0, ad0⟩⟩ := K
  obtain ⟨rfl, rfl, rfl, hx, hb, hml, hown, hr, hlk, hR, hts, hG, hA, hnn⟩ := hK
  intro ad H locs ls had hP hD hS hl
  refine lv_if_eq (tgt := tgt) hx hb hd ht (fun hc => ?_) (fun hc => ?_)
  · exact k1 (ic_eq_t ha ir_0 (by rw [iz_0]; exact hc)) ad H locs ls had hP hD hS hl
  · exact k2 (ic_eq_f ha ir_0 (by rw [iz_0]; exact hc)) ad H locs ls had hP hD hS hl
theorem TT_icmp_ne (hK : TOk K own cc nL ret rm nn) {a b : Int} {off : Int} {tgt : Nat} (ha : ir_ a) (hb0 : ir_ b) (hd : decode cc pc = .ok (.if_icmp .ne off, 3)) (ht : (pc : Int) + off = (tgt : Int)) (k1 : a ≠ b → TT K w kc ks tgt lv st h) (k2 : a = b → TT K w kc ks (pc + 3) lv st h) : TT K w kc ks pc lv (vI b :: vI a :: st) h := by
  obtain ⟨⟨p, l, e, R, s, m, args, below, meth, c, Q⟩, ⟨o1, c1, n1, D, cy, A, n0, ad0⟩⟩ := K
  obtain ⟨rfl, rfl, rfl, hx, hb, hml, hown, hr, hlk, hR, hts, hG, hA, hnn⟩ := hK
  intro ad H locs ls had hP hD hS hl
  refine lv_icmp_ne (tgt := tgt) hx hb hd ht (fun hc => ?_) (fun hc => ?_)
  · exact k1 (ic_ne_t ha hb0 hc) ad H locs ls had hP hD hS hl
  · exact k2 (ic_ne_f ha hb0 hc) ad H locs ls had hP hD hS hl
theorem TT_if_ne (hK : TOk K own cc nL ret rm nn) {a : Int} {off : Int} {tgt : Nat} (ha : ir_ a) (hd : decode cc pc = .ok (.ifCond .ne off, 3)) (ht : (pc : Int) + off = (tgt : Int)) (k1 : a ≠ 0 → TT K w kc ks tgt lv st h) (k2 : a = 0 → TT K w kc ks (pc + 3) lv st h) : TT K w kc ks pc lv (vI a :: st) h := by
  obtain ⟨⟨p, l, e, R, s, m, args, below, meth, c, Q⟩, ⟨o1, c1, n1, D, cy, A, n0, ad0⟩⟩ := K
  obtain ⟨rfl, rfl, rfl, hx, hb, hml, hown, hr, hlk, hR, hts, hG, hA, hnn⟩ := hK
  intro ad H locs ls had hP hD hS hl
  refine lv_if_ne (tgt := tgt) hx hb hd ht (fun hc => ?_) (fun hc => ?_)
  · exact k1 (ic_ne_t ha ir_0 (by rw [iz_0]; exact hc)) ad H locs ls had hP hD hS hl
  · exact k2 (ic_ne_f ha ir_0 (by rw [iz_0]; exact hc)) ad H locs ls had hP hD hS hl
theorem TT_icmp_lt (hK : TOk K own cc nL ret rm nn) {a b : Int} {off : Int} {tgt : Nat} (ha : ir_ a) (hb0 : ir_ b) (hd : decode cc pc = .ok (.if_icmp .lt off, 3)) (ht : (pc : Int) + off = (tgt : Int)) (k1 : a < b → TT K w kc ks tgt lv st h) (k2 : b ≤ a → TT K w kc ks (pc + 3) lv st h) : TT K w kc ks pc lv (vI b :: vI a :: st) h := by
  obtain ⟨⟨p, l, e, R, s, m, args, below, meth, c, Q⟩, ⟨o1, c1, n1, D, cy, A, n0, ad0⟩⟩ := K
  obtain ⟨rfl, rfl, rfl, hx, hb, hml, hown, hr, hlk, hR, hts, hG, hA, hnn⟩ := hK
  intro ad H locs ls had hP hD hS hl
  refine lv_icmp_lt (tgt := tgt) hx hb hd ht (fun hc => ?_) (fun hc => ?_)
  · exact k1 (ic_lt_t ha hb0 hc) ad H locs ls had hP hD hS hl
  · exact k2 (ic_lt_f ha hb0 hc) ad H locs ls had hP hD hS hl
theorem TT_if_lt (hK : TOk K own cc nL ret rm nn) {a : Int} {off : Int} {tgt : Nat} (ha : ir_ a) (hd : decode cc pc = .ok (.ifCond .lt off, 3)) (ht : (pc : Int) + off = (tgt : Int)) (k1 : a < 0 → TT K w kc ks tgt lv st h) (k2 : 0 ≤ a → TT K w kc ks (pc + 3) lv st h) : TT K w kc ks pc lv (vI a :: st) h := by
  obtain ⟨⟨p, l, e, R, s, m, args, below, meth, c, Q⟩, ⟨o1, c1, n1, D, cy, A, n0, ad0⟩⟩ := K
  obtain ⟨rfl, rfl, rfl, hx, hb, hml, hown, hr, hlk, hR, hts, hG, hA, hnn⟩ := hK
  intro ad H locs ls had hP hD hS hl
  refine lv_if_lt (tgt := tgt) hx hb hd ht (fun hc => ?_) (fun hc => ?_)
  · exact k1 (ic_lt_t ha ir_0 (by rw [iz_0]; exact hc)) ad H locs ls had hP hD hS hl
  · exact k2 (ic_lt_f ha ir_0 (by rw [iz_0]; exact hc)) ad H locs ls had hP hD hS hl
theorem TT_icmp_ge (hK : TOk K own cc nL ret rm nn) {a b : Int} {off : Int} {tgt : Nat} (ha : ir_ a) (hb0 : ir_ b) (hd : decode cc pc = .ok (.if_icmp .ge off, 3)) (ht : (pc : Int) + off = (tgt : Int)) (k1 : b ≤ a → TT K w kc ks tgt lv st h) (k2 : a < b → TT K w kc ks (pc + 3) lv st h) : TT K w kc ks pc lv (vI b :: vI a :: st) h := by
  obtain ⟨⟨p, l, e, R, s, m, args, below, meth, c, Q⟩, ⟨o1, c1, n1, D, cy, A, n0, ad0⟩⟩ := K
  obtain ⟨rfl, rfl, rfl, hx, hb, hml, hown, hr, hlk, hR, hts, hG, hA, hnn⟩ := hK
  intro ad H locs ls had hP hD hS hl
  refine lv_icmp_ge (tgt := tgt) hx hb hd ht (fun hc => ?_) (fun hc => ?_)
  · exact k1 (ic_ge_t ha hb0 hc) ad H locs ls had hP hD hS hl
  · exact k2 (ic_ge_f ha hb0 hc) ad H locs ls had hP hD hS hl
theorem TT_if_ge (hK : TOk K own cc nL ret rm nn) {a : Int} {off : Int} {tgt : Nat} (ha : ir_ a) (hd : decode cc pc = .ok (.ifCond .ge off, 3)) (ht : (pc : Int) + off = (tgt : Int)) (k1 : 0 ≤ a → TT K w kc ks tgt lv st h) (k2 : a < 0 → TT K w kc ks (pc + 3) lv st h) : TT K w kc ks pc lv (vI a :: st) h := by
  obtain ⟨⟨p, l, e, R, s, m, args, below, meth, c, Q⟩, ⟨o1, c1, n1, D, cy, A, n0, ad0⟩⟩ := K
  obtain ⟨rfl, rfl, rfl, hx, hb, hml, hown, hr, hlk, hR, hts, hG, hA, hnn⟩ := hK
  intro ad H locs ls had hP hD hS hl
  refine lv_if_ge (tgt := tgt) hx hb hd ht (fun hc => ?_) (fun hc => ?_)
  · exact k1 (ic_ge_t ha ir_0 (by rw [iz_0]; exact hc)) ad H locs ls had hP hD hS hl
  · exact k2 (ic_ge_f ha ir_0 (by rw [iz_0]; exact hc)) ad H locs ls had hP hD hS hl
theorem TT_icmp_gt (hK : TOk K own cc nL ret rm nn) {a b : Int} {off : Int} {tgt : Nat} (ha : ir_ a) (hb0 : ir_ b) (hd : decode cc pc = .ok (.if_icmp .gt off, 3)) (ht : (pc : Int) + off = (tgt : Int)) (k1 : b < a → TT K w kc ks tgt lv st h) (k2 : a ≤ b → TT K w kc ks (pc + 3) lv st h) : TT K w kc ks pc lv (vI b :: vI a :: st) h := by
  obtain ⟨⟨p, l, e, R, s, m, args, below, meth, c, Q⟩, ⟨o1, c1, n1, D, cy, A, n0, ad0⟩⟩ := K
  obtain ⟨rfl, rfl, rfl, hx, hb, hml, hown, hr, hlk, hR, hts, hG, hA, hnn⟩ := hK
  intro ad H locs ls had hP hD hS hl
  refine lv_icmp_gt (tgt := tgt) hx hb hd ht (fun hc => ?_) (fun hc => ?_)
  · exact k1 (ic_gt_t ha hb0 hc) ad H locs ls had hP hD hS hl
  · exact k2 (ic_gt_f ha hb0 hc) ad H locs ls had hP hD hS hl
theorem TT_if_gt (hK : TOk K own cc nL ret rm nn) {a : Int} {off : Int} {tgt : Nat} (ha : ir_ a) (hd : decode cc pc = .ok (.ifCond .gt off, 3)) (ht : (pc : Int) + off = (tgt : Int)) (k1 : 0 < a → TT K w kc ks tgt lv st h) (k2 : a ≤ 0 → TT K w kc ks (pc + 3) lv st h) : TT K w kc ks pc lv (vI a :: st) h := by
  obtain ⟨⟨p, l, e, R, s, m, args, below, meth, c, Q⟩, ⟨o1, c1, n1, D, cy, A, n0, ad0⟩⟩ := K
  obtain ⟨rfl, rfl, rfl, hx, hb, hml, hown, hr, hlk, hR, hts, hG, hA, hnn⟩ := hK
  intro ad H locs ls had hP hD hS hl
  refine lv_if_gt (tgt := tgt) hx hb hd ht (fun hc => ?_) (fun hc => ?_)
  · exact k1 (ic_gt_t ha ir_0 (by rw [iz_0]; exact hc)) ad H locs ls had hP hD hS hl
  · exact k2 (ic_gt_f ha ir_0 (by rw [iz_0]; exact hc)) ad H locs ls had hP hD hS hl
theorem TT_icmp_le (hK : TOk K own cc nL ret rm nn) {a b : Int} {off : Int} {tgt : Nat} (ha : ir_ a) (hb0 : ir_ b) (hd : decode cc pc = .ok (.if_icmp .le off, 3)) (ht : (pc : Int) + off = (tgt : Int)) (k1 : a ≤ b → TT K w kc ks tgt lv st h) (k2 : b < a → TT K w kc ks (pc + 3) lv st h) : TT K w kc ks pc lv (vI b :: vI a :: st) h := by
  obtain ⟨⟨p, l, e, R, s, m, args, below, meth, c, Q⟩, ⟨o1, c1, n1, D, cy, A, n0, ad0⟩⟩ := K
  obtain ⟨rfl, rfl, rfl, hx, hb, hml, hown, hr, hlk, hR, hts, hG, hA, hnn⟩ := hK
  intro ad H locs ls had hP hD hS hl
  refine lv_icmp_le (tgt := tgt) hx hb hd ht (fun hc => ?_) (fun hc => ?_)
  · exact k1 (ic_le_t ha hb0 hc) ad H locs ls had hP hD hS hl
  · exact k2 (ic_le_f ha hb0 hc) ad H locs ls had hP hD hS hl
theorem TT_if_le (hK : TOk K own cc nL ret rm nn) {a : Int} {off : Int} {tgt : Nat} (ha : ir_ a) (hd : decode cc pc = .ok (.ifCond .le off, 3)) (ht : (pc : Int) + off = (tgt : Int)) (k1 : a ≤ 0 → TT K w kc ks tgt lv st h) (k2 : 0 < a → TT K w kc ks (pc + 3) lv st h) : TT K w kc ks pc lv (vI a :: st) h := by
  obtain ⟨⟨p, l, e, R, s, m, args, below, meth, c, Q⟩, ⟨o1, c1, n1, D, cy, A, n0, ad0⟩⟩ := K
  obtain ⟨rfl, rfl, rfl, hx, hb, hml, hown, hr, hlk, hR, hts, hG, hA, hnn⟩ := hK
  intro ad H locs ls had hP hD hS hl
  refine lv_if_le (tgt := tgt) hx hb hd ht (fun hc => ?_) (fun hc => ?_)
  · exact k1 (ic_le_t ha ir_0 (by rw [iz_0]; exact hc)) ad H locs ls had hP hD hS hl
  · exact k2 (ic_le_f ha ir_0 (by rw [iz_0]; exact hc)) ad H locs ls had hP hD hS hl
theorem TT_goto (hK : TOk K own cc nL ret rm nn) {off : Int} {tgt : Nat} (hd : decode cc pc = .ok (.goto off, 3)) (ht : (pc : Int) + off = (tgt : Int)) (k : TT K w kc ks tgt lv st h) : TT K w kc ks pc lv (st) h := by
  obtain ⟨⟨p, l, e, R, s, m, args, below, meth, c, Q⟩, ⟨o1, c1, n1, D, cy, A, n0, ad0⟩⟩ := K
  obtain ⟨rfl, rfl, rfl, hx, hb, hml, hown, hr, hlk, hR, hts, hG, hA, hnn⟩ := hK
  intro ad H locs ls had hP hD hS hl
  exact lv_goto hx hb hd ht (k ad H locs ls had hP hD hS hl)
end TTP

/-! THE CLAIM OUT OF ONE WALK OF THE LAW'S BODY. Your part is whole_start (and what it stands on); all else here is the same for every law, but numbers. -/
def R_law : String := "WaveletStreamLaw"
def lw_P (b : Addr) (xs : List Int32) (args : Array Value) (s : State) : Prop := args = #[.ref b] ∧ s.IntsAt b xs ∧ xs.length ≤ 256 ∧ (Jvm.Cond.and given_1 narrow_1).before args s = true
def lw_Q (_ : Array Value) (s : State) (o : Outcome) (t : State) : Prop := o = .returned (some (.int 1)) ∧ Framed s o t [] 241 30874
def lw_Z (below : List Frame) (a : Array Value) (s : State) : State → Prop := fun t => ∃ o, t.status = .running ∧ Ended t below o ∧ lw_Q a s o t
/-- the law's own end, with 1 on the stack, nothing written that was there before, its room as the claim has it -/
theorem lw_ret {p : Program} {l : Launch} {e : Env} {s : State} {m : MethodId} {below : List Frame} {meth : Method} {c : Code} {b : Nat} (hx : p.tables.exec = Jvm.exec) (hb : c.code = code) (hr : meth.sig.returnType = ret) (hlocks : meth.locks = false) {pc : Nat} {H : Heap} {ls : Array Slot} (hdg : decode code pc = .ok (.ireturn, 1)) : W p l e room_1 s m #[Value.ref b] below meth c H [] 241 30874 (lw_Z below #[Value.ref b] s) (F0 m pc ls [.int 1]) := by
  intro T hT X
  obtain ⟨fs, hret, hrun, hended, hW, hframe⟩ := X.leave (v := some (.int 1)) (hlocks := hlocks) (fun h => by rw [hr] at h; cases h)
  have hmeth' : T.vm.method? m = some meth := X.method'
  refine ⟨T.setFrames fs, ?_, .returned (some (.int 1)), hrun, hended, rfl, ⟨_, rfl⟩, hW, hframe⟩
  jvm_step X.here [X.here.top, hx, hb, hdg, hmeth', hr, ret, narrow_b1]
  (try refine ⟨rfl, ?_⟩); (try refine ⟨rfl, ?_⟩)
  first | (intro acts; rw [hret _ acts rfl rfl rfl]) | rw [hret _ _ rfl rfl rfl]
  exact Steps.refl _
/-- what holds at the law's entry: the machine, the code, the tables' words (any of lw_tbl by 'hts w (by decide +kernel)'), the script of L ints xs at the cell b, what the Statement gives of the start (any of its parts by flat_of_before) -/
def lw_At (p : Program) (s : State) (m : MethodId) (meth : Method) (c : Code) (b L : Nat) (xs : Nat → Int32) : Prop :=
  p.tables.exec = Jvm.exec ∧ c.code = code ∧ meth.sig.returnType = ret ∧ c.maxLocals = 7 ∧ s.vm.findClass R_law = some m.cls ∧ (∀ w ∈ lw_tbl, w.before #[Value.ref b] s = true) ∧ va_X b L xs s s.heap ∧ b < s.heap.size ∧ meth.locks = false ∧ (Jvm.Cond.and given_1 narrow_1).before #[Value.ref b] s = true
/-! what the law's start gives: the world of the pure machine -/
theorem gd_t {w : Cond} (h : w ∈ lw_good) : w ∈ lw_tbl := (List.mem_filter.mp h).1
theorem st_el : ∀ i : Fin 3, ∀ j : Fin 47, Cond.eq (.elem (.static "WaveletStream$Odds" (stN i) "[I") (.int (Int32.ofNat j))) (.int (Int32.ofInt ((stT i).getD j 0))) ∈ flatC (Cond.and given_1 narrow_1) := by decide +kernel
theorem st_ln : ∀ i : Fin 3, Cond.eq (.length (.static "WaveletStream$Odds" (stN i) "[I")) (.int (Int32.ofNat 47)) ∈ flatC (Cond.and given_1 narrow_1) := by decide +kernel
theorem st_ar : ∀ i : Fin 3, Cond.arrayOf (.static "WaveletStream$Odds" (stN i) "[I") .int ∈ flatC (Cond.and given_1 narrow_1) := by decide +kernel
theorem st_ex : ∀ i : Fin 5, Cond.exactly (.string "WaveletStream" (sxI i)) "java/lang/String" ∈ flatC (Cond.and given_1 narrow_1) := by decide +kernel
theorem st_r1 : Cond.isRef (.static Bundle.tN "UNASSIGNED_STACK" Bundle.steD) ∈ flatC (Cond.and given_1 narrow_1) := by decide +kernel
theorem st_r2 : Cond.isRef (.static Bundle.tN "SUPPRESSED_SENTINEL" Bundle.listD) ∈ flatC (Cond.and given_1 narrow_1) := by decide +kernel
theorem st_sr : ∀ i : Fin 5, Cond.stringRef RX11 (sxI i) (sxT i) ∈ tables_1 := by decide +kernel
theorem st_ly : ∀ i : Fin 3, Cond.laysStatic "WaveletStream$Odds" (stN i) "[I" ∈ tables_1 := by decide +kernel
theorem nest_on : ∀ w ∈ lw_nest, w.onTables = true := by
  intro w hw
  have hn := (List.mem_filter.mp hw).2
  cases w <;> first | rfl | (simp [k_nest] at hn)
theorem ot_on : ∀ w ∈ lw_ot, w.onTables = true := by
  intro w hw
  have hn := (List.mem_filter.mp hw).2
  cases w <;> first | rfl | (simp [k_ot] at hn)
theorem law_start {s : State} {b : Nat} (hts : ∀ w ∈ lw_tbl, w.before #[Value.ref b] s = true) (hgv : (Cond.and given_1 narrow_1).before #[Value.ref b] s = true) : ∃ (D : va_G) (cy : Nat → ClassId) (ad0 : Nat → Nat), ad0 2000 = b ∧ GW_ D cy (fun q => s.heap.size ≤ q) ad0 s ∧ GX_ (fun q => s.heap.size ≤ q) s := by
  have hs := flat_of_before _ hgv
  have hA : ∀ a : Nat, a < s.heap.size → ¬ (fun q : Nat => s.heap.size ≤ q) a := fun a h => Nat.not_le.mpr h
  have hkn : ∀ (k : Nat) (q : vw_C), classes[k]? = some q → ∃ p : ClassId × (Nat → Nat), u_Kn s q.1 q.2.1 q.2.2 p.1 p.2 := by
    have mk : ∀ {C : String} {T : u_T} {N n : Nat}, (∀ w ∈ u_ws C T N, w ∈ lw_good) → Cond.instantiable C n ∈ lw_good → ∃ p : ClassId × (Nat → Nat), u_Kn s C T N p.1 p.2 := fun h1 h2 => by
      obtain ⟨c, i, h⟩ := u_known hts (fun w hw => gd_t (h1 w hw)) (hts _ (gd_t h2))
      exact ⟨(c, i), h⟩
    intro k q hq
    match k, hq with
    | 0, hq => cases hq; exact mk uin_0 (gd_ (tb_1 76 rfl) rfl)
    | 1, hq => cases hq; exact mk uin_1 (gd_ (tb_1 48 rfl) rfl)
    | 2, hq => cases hq; exact mk uin_2 (gd_ (tb_1 190 rfl) rfl)
    | 3, hq => cases hq; exact mk uin_3 (gd_ (tb_1 70 rfl) rfl)
    | 4, hq => cases hq; exact mk uin_4 (gd_ (tb_1 146 rfl) rfl)
    | 5, hq => cases hq; exact mk uin_5 (gd_ (tb_1 29 rfl) rfl)
    | 6, hq => cases hq; exact mk uin_6 (gd_ (tb_1 222 rfl) rfl)
    | 7, hq => cases hq; exact mk uin_7 (gd_ (tb_1 124 rfl) rfl)
    | 8, hq => cases hq; exact mk uin_8 (gd_ (tb_1 184 rfl) rfl)
    | 9, hq => cases hq; exact mk uin_10 (gd_ (tb_2 52 rfl) rfl)
    | 10, hq => cases hq; exact mk uin_11 (gd_ (tb_1 21 rfl) rfl)
    | 11, hq => cases hq; exact mk uin_12 (gd_ (tb_5 48 rfl) rfl)
    | k + 12, hq => simp [classes] at hq
  have hkn2 : ∀ k : Nat, ∃ p : ClassId × (Nat → Nat), ∀ q, classes[k]? = some q → u_Kn s q.1 q.2.1 q.2.2 p.1 p.2 := by
    intro k
    cases hq : classes[k]? with
    | none =>
      obtain ⟨p, -⟩ := hkn 0 _ rfl
      exact ⟨p, fun q h => by cases h⟩
    | some q =>
      obtain ⟨p, hp⟩ := hkn k q hq
      exact ⟨p, fun q' h => by cases h; exact hp⟩
  obtain ⟨dd, hdd⟩ := Classical.axiomOfChoice hkn2
  have arr : ∀ {ty : FieldType}, Cond.arrayClass ty ∈ lw_good → (∀ C, ty ≠ .object C) → ∃ cA, ArrOfT s cA ty ∧ va_RA s cA ty := by
    intro ty h hno
    obtain ⟨cA, kA, comp, h1, h2, h3⟩ := Cond.arrayClass_spec (hts _ (gd_t h))
    refine ⟨cA, fun n z => ⟨fun k h => (by cases h), kA, h2, comp, h3⟩, ?_⟩
    cases ty <;> first | exact h1 | exact absurd rfl (hno _)
  obtain ⟨c12, a12, b12⟩ := arr (ty := .int) (gd_ (tb_1 46 rfl) rfl) (fun _ h => by cases h)
  obtain ⟨c13, a13, b13⟩ := arr (ty := .boolean) (gd_ (tb_1 182 rfl) rfl) (fun _ h => by cases h)
  obtain ⟨c14, a14, b14⟩ := arr (ty := .long) (gd_ (tb_7 55 rfl) rfl) (fun _ h => by cases h)
  have hst : ∀ i : Nat, ∃ t : Nat, i < 3 → va_Z "WaveletStream$Odds" (stN i) "[I" (.ref t) (fun q => s.heap.size ≤ q) s s.heap ∧ va_T .int t 47 (fun j => .int (Int32.ofInt ((stT i).getD j 0))) (fun q => s.heap.size ≤ q) s s.heap := by
    intro i
    by_cases hi : i < 3
    · obtain ⟨t, h1, h2⟩ := va_Tof (f := fun j => .int (Int32.ofInt ((stT i).getD j 0))) (A := fun q => s.heap.size ≤ q) (by decide) (hs _ (st_ar ⟨i, hi⟩)) (va_eqt (hs _ (st_ln ⟨i, hi⟩))) (fun j hj => va_eqt (hs _ (st_el ⟨i, hi⟩ ⟨j, hj⟩))) hA
      exact ⟨t, fun _ => ⟨va_Zof (hts _ (tb_m (st_ly ⟨i, hi⟩))) (hts _ (tb_1 9 rfl)) h1 hA, h2⟩⟩
    · exact ⟨0, fun h => absurd h hi⟩
  obtain ⟨tt, htt⟩ := Classical.axiomOfChoice hst
  refine ⟨(fun k => (dd k).1, fun k => (dd k).2), fun t => if t = 12 then c12 else if t = 13 then c13 else c14, fun o => if o = 2000 then b else tt (o - 1000), rfl, ⟨⟨fun k q hq => hdd k q hq, fun k q hq => ?_⟩, fun w hw => va_Nw.of (nest_on w hw) (hts w (List.mem_filter.mp hw).1), ⟨va_Fw.of (hts _ (tb_3 235 rfl)) (hts _ (tb_3 234 rfl)) (hts _ (tb_4 34 rfl)) (hts _ (tb_4 32 rfl)) (hts _ (tb_4 30 rfl)), va_Fw.of (hts _ (tb_3 235 rfl)) (hts _ (tb_3 234 rfl)) (hts _ (tb_4 0 rfl)) (hts _ (tb_3 238 rfl)) (hts _ (tb_3 236 rfl))⟩, fun i hi => ?_⟩, ?_⟩
  · match k, hq with
    | 0, hq => cases hq; exact ⟨a12, b12⟩
    | 1, hq => cases hq; exact ⟨a13, b13⟩
    | 2, hq => cases hq; exact ⟨a14, b14⟩
    | k + 3, hq => simp at hq
  · have h1 := htt i hi
    have e : (if 1000 + i = 2000 then b else tt (1000 + i - 1000)) = tt i := by rw [if_neg (by omega), Nat.add_sub_cancel_left]
    dsimp only
    rw [e]
    exact h1
  · refine ⟨vx_Zqof (hts _ (tb_3 37 rfl)) (hts _ (tb_1 14 rfl)) (hs _ st_r1) hA, vx_Zqof (hts _ (tb_3 39 rfl)) (hts _ (tb_1 14 rfl)) (hs _ st_r2) hA, fun w hw => va_Nw.of (ot_on w hw) (hts w (List.mem_filter.mp hw).1), fun i hi => ?_⟩
    obtain ⟨a, c, cA, kA, q1, -⟩ := Cond.exactly_spec (args := #[Value.ref b]) (first := s) (o := none) (s := s) (idx := []) (t := .string "WaveletStream" (sxI i)) (cls := "java/lang/String") (hs _ (st_ex ⟨i, hi⟩))
    exact ⟨a, vk_R.of (A := #[Value.ref b]) (hts _ (tb_m (st_sr ⟨i, hi⟩))) q1⟩
/-! the law's own rows: its script, its end -/
def TLX (K : TC_) (b L : Nat) (xs : Nat → Int32) : Prop := match K with
  | ((_, _, _, R, s, _, args, below, meth, c, Q), (_, _, _, _, _, A, _, ad0)) => va_X b L xs s s.heap ∧ b < s.heap.size ∧ ¬ A b ∧ ad0 2000 = b ∧ Q = lw_Z below #[Value.ref b] s ∧ args = #[Value.ref b] ∧ R = room_1 ∧ (∀ q, A q → s.heap.size ≤ q) ∧ meth.sig.returnType = ret ∧ c.code = code
section TTL
variable {K : TC_} {own : String} {cc : ByteArray} {nL : Nat} {rt : Option FieldType} {rm : Room} {nn : Nat} {w : Ly_} {kc ks pc : Nat} {lv : List (Nat × PV_)} {st : List PV_} {h : Hp_} {b L : Nat} {xs : Nat → Int32}
theorem TT_sld (hK : TOk K own cc nL rt rm nn) (hX : TLX K b L xs) {i : Int} (hL : L ≤ 5000) (h0 : 0 ≤ i) (h1 : i < L) (hd : decode cc pc = .ok (.iaload, 1)) (kk : TT K w kc ks (pc + 1) lv (vI (xs i.toNat).toInt :: st) h) : TT K w kc ks pc lv (vI i :: vR 2000 :: st) h := by
  obtain ⟨⟨p, l, e, R, s, m, args, below, meth, c, Q⟩, ⟨o1, c1, n1, D, cy, A, n0, ad0⟩⟩ := K
  obtain ⟨rfl, rfl, rfl, hx, hb, hml, hown, hr, hlk, hR, hts, hG, hA, hnn⟩ := hK
  obtain ⟨x1, x2, x3, x4, -⟩ := hX
  intro ad H locs ls had hP hD hS hl
  have e1 : ad 2000 = b := by rw [had 2000 (Or.inr (by omega))]; exact x4
  obtain ⟨i1, i2⟩ := ix_to h0 h1 hL
  have e2 : (Int32.ofInt i).toNatClampNeg = i.toNat := by omega
  have k1 := kk ad H locs ls had hP hD hS hl
  show W p l e R s m args below meth c H locs kc ks Q (F0 m pc ls (.int (Int32.ofInt i) :: .ref (ad 2000) :: st.map (cv_ ad)))
  rw [e1]
  refine va_sld hx hb x1 x2 x3 hS i1 hd ?_
  rw [e2]
  have e3 : cv_ ad (vI (xs i.toNat).toInt) = .int (xs i.toNat) := by
    show Value.int (Int32.ofInt (xs i.toNat).toInt) = _
    rw [Int32.ofInt_toInt]
  rw [List.map_cons, e3] at k1
  exact k1
theorem TT_slen (hK : TOk K own cc nL rt rm nn) (hX : TLX K b L xs) (hd : decode cc pc = .ok (.arraylength, 1)) (kk : TT K w kc ks (pc + 1) lv (vI ((L : Nat) : Int) :: st) h) : TT K w kc ks pc lv (vR 2000 :: st) h := by
  obtain ⟨⟨p, l, e, R, s, m, args, below, meth, c, Q⟩, ⟨o1, c1, n1, D, cy, A, n0, ad0⟩⟩ := K
  obtain ⟨rfl, rfl, rfl, hx, hb, hml, hown, hr, hlk, hR, hts, hG, hA, hnn⟩ := hK
  obtain ⟨x1, x2, x3, x4, -⟩ := hX
  intro ad H locs ls had hP hD hS hl
  have e1 : ad 2000 = b := by rw [had 2000 (Or.inr (by omega))]; exact x4
  have k1 := kk ad H locs ls had hP hD hS hl
  show W p l e R s m args below meth c H locs kc ks Q (F0 m pc ls (.ref (ad 2000) :: st.map (cv_ ad)))
  rw [e1]
  exact va_slen hx hb x1 x2 x3 hS hd k1
theorem TT_lend (hK : TOk K own cc nL rt rm nn) (hX : TLX K b L xs) (hc : kc ≤ 241) (hs : ks ≤ 30874) (hd : decode code pc = .ok (.ireturn, 1)) : TT K w kc ks pc lv [vI 1] h := by
  obtain ⟨⟨p, l, e, R, s, m, args, below, meth, c, Q⟩, ⟨o1, c1, n1, D, cy, A, n0, ad0⟩⟩ := K
  obtain ⟨rfl, rfl, rfl, hx, hb, hml, hown, hr, hlk, hR, hts, hG, hA, hnn⟩ := hK
  obtain ⟨x1, x2, x3, x4, rfl, rfl, rfl, x8, x9, x10⟩ := hX
  intro ad H locs ls had hP hD hS hl
  refine va_forget (fun q hq => x8 _ (hS.2.2 q hq)) ?_
  refine W.widen (k := 241) (n := 30874) hc hs ?_
  exact lw_ret hx x10 x9 hlk hd
end TTL
/-- the cells that there are, all their fields of references laid -/
theorem TT_ly {K : TC_} {l : List (Nat × Nat)} {kc ks pc : Nat} {lv : List (Nat × PV_)} {st : List PV_} {h : Hp_} (hl : ∀ o : Fin 108, ∀ k : Fin 64, 2 ≤ fk_ (sh o).1 k → k.val < fn_ (sh o).1 → rL l o k = true) (hfn : ∀ o : Fin 108, fn_ (sh o).1 ≤ 64) (kk : TT K ly kc ks pc lv st h) : TT K (108, rL l) kc ks pc lv st h := by
  obtain ⟨⟨p, l9, e, R, s, m, args, below, meth, c, Q⟩, ⟨o1, c1, n1, D, cy, A, n0, ad0⟩⟩ := K
  intro ad H locs ls had hP hD hS hl9
  have e1 : wl cy (108, rL l) ad h = wl cy ly ad h := by
    show (List.range 108).map _ = (List.range 108).map _
    apply List.map_congr_left
    intro o ho
    have ho' : o < 108 := List.mem_range.mp ho
    congr 1
    unfold ce
    split
    · congr 2
      apply List.map_congr_left
      intro k hk
      have hk' : k < fn_ (sh o).1 := List.mem_range.mp hk
      have h64 := hfn ⟨o, ho'⟩
      unfold fval
      split
      · rfl
      · rfl
      · rename_i h0 h1
        have h2 : 2 ≤ fk_ (sh o).1 k := by
          have a0 : fk_ (sh o).1 k ≠ 0 := fun e => h0 e
          have a1 : fk_ (sh o).1 k ≠ 1 := fun e => h1 e
          omega
        have h3 : rL l o k = true := hl ⟨o, ho'⟩ ⟨k, by dsimp only at h64; omega⟩ h2 hk'
        have h4 : ly.2 o k = true := rfl
        show (if rL l o k = true then _ else _) = (if ly.2 o k = true then _ else _)
        rw [if_pos h3, if_pos h4]
    · rfl
  have hP' : va_P D classes (wl cy ly ad h) H := e1 ▸ hP
  have hD' : va_D A (wl cy ly ad h) := e1 ▸ hD
  exact kk ad H locs ls had hP' hD' hS hl9
theorem fn_64 : ∀ o : Fin 108, fn_ (sh o).1 ≤ 64 := by decide +kernel
theorem lz_full : ∀ o : Fin 108, ∀ k : Fin 64, 2 ≤ fk_ (sh o).1 k → k.val < fn_ (sh o).1 → rL lz_107 o k = true := by decide +kernel

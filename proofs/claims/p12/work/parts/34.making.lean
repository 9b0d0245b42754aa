/-! objects and rows as they are made: the layout grows by one cell, a field of references gets its cell -/
def rL (l : List (Nat × Nat)) : Nat → Nat → Bool := fun o k => l.any (fun p => p.1 == o && p.2 == k)
theorem rL_cons (l : List (Nat × Nat)) (a b o k : Nat) : rL ((a, b) :: l) o k = ((a == o && b == k) || rL l o k) := rfl
theorem rL_t {l : List (Nat × Nat)} {o k : Nat} (h : rL l o k = true) : (o, k) ∈ l := by
  obtain ⟨p, hp, hq⟩ := List.any_eq_true.mp h
  rw [Bool.and_eq_true, beq_iff_eq, beq_iff_eq] at hq
  obtain ⟨a, b⟩ := p
  obtain ⟨rfl, rfl⟩ := hq
  exact hp
/-- every field that has got its cell, has got one that lies below c, and so does it itself -/
def lok (c : Nat) (l : List (Nat × Nat)) : Bool := l.all (fun p => decide (p.1 < c) && decide (rf_ p.1 p.2 < c))
theorem lok_t {c : Nat} {l : List (Nat × Nat)} (h : lok c l = true) {o k : Nat} (ho : rL l o k = true) : o < c ∧ rf_ o k < c := by
  have h1 := List.all_eq_true.mp h _ (rL_t ho)
  rw [Bool.and_eq_true, decide_eq_true_eq, decide_eq_true_eq] at h1
  exact h1
def adN (ad : Nat → Nat) (c q : Nat) : Nat → Nat := fun o => if o = c then q else ad o
theorem adN_eq (ad : Nat → Nat) (c q : Nat) : adN ad c q c = q := if_pos rfl
theorem adN_ne (ad : Nat → Nat) {c q o : Nat} (h : o ≠ c) : adN ad c q o = ad o := if_neg h
theorem adN_ag (ad : Nat → Nat) {c q : Nat} (hc : c < 1000) : ∀ o, o < c ∨ 1000 ≤ o → adN ad c q o = ad o := fun o ho => adN_ne ad (by omega)
theorem wl_push {cy : Nat → ClassId} {c : Nat} {l : List (Nat × Nat)} {ad : Nat → Nat} {q : Nat} {h : Hp_} (hl : lok c l = true) : wl cy (c + 1, rL l) (adN ad c q) h = wl cy (c, rL l) ad h ++ [(q, ce cy (rL l) ad (h c) c)] := by
  have key : ∀ o, ce cy (rL l) (adN ad c q) (h o) o = ce cy (rL l) ad (h o) o := fun o => ce_ad fun k hk _ => adN_ne ad (by have := (lok_t hl hk).2; omega)
  show (List.range (c + 1)).map _ = _
  rw [List.range_succ, List.map_append]
  congr 1
  · apply List.map_congr_left
    intro o ho
    have h1 : o < c := List.mem_range.mp ho
    rw [key, adN_ne ad (by omega)]
  · show [(adN ad c q c, ce cy (rL l) (adN ad c q) (h c) c)] = _
    rw [key, adN_eq]
section TTN
variable {K : TC_} {own : String} {cc : ByteArray} {nL : Nat} {ret : Option FieldType} {rm : Room} {nn kc ks pc c : Nat} {l : List (Nat × Nat)} {lv : List (Nat × PV_)} {st : List PV_} {h : Hp_}
theorem TT_new (hK : TOk K own cc nL ret rm nn) {ci N index : Nat} {C : String} {T : u_T} {ty : Nat → FieldType} (hc : classes[ci]? = some (C, T, N)) (hin : ∀ w ∈ u_ws C T N, w ∈ lw_good) (hty : ∀ k, k < N → parseFieldDescriptor (T k).2.2.1 = some (ty k))
    (hlink : Cond.classLink own index C ∈ lw_good) (hinst : Cond.instantiable C N ∈ lw_good) (hini : Cond.initialized C ∈ lw_good) (hl12 : ci < 12) (hs : (sh c).1 = ci) (hN : fn_ ci = N)
    (hdef : ∀ j, j < N → defaultValue (ty j) = (match fk_ ci j with | 0 => .int 0 | 1 => .long 0 | _ => .null)) (hz : ∀ j, h c j = 0) (hl : lok c l = true) (hnn : nn ≤ c) (hc0 : c < 1000)
    (hlo : lv.all (fun q => pok c q.2) = true) (hso : st.all (pok c) = true) (hcells : kc + 1 ≤ rm.cells) (hslots : ks + N ≤ rm.slots) (hd : decode cc pc = .ok (.new index, 3))
    (kk : TT K (c + 1, rL l) (kc + 1) (ks + N) (pc + 3) lv (vR c :: st) h) : TT K (c, rL l) kc ks pc lv st h := by
  obtain ⟨⟨p, l9, e, R, s, m, args, below, meth, c9, Q⟩, ⟨o1, c1, n1, D, cy, A, n0, ad0⟩⟩ := K
  obtain ⟨rfl, rfl, rfl, hx, hb, hml, hown, hr, hlk, rfl, ⟨y9, b9, r9, hts9⟩, hG, hA, rfl⟩ := hK
  have hts : ∀ w ∈ lw_good, w.before args s = true := fun w hw => hts9 w (List.mem_cons_of_mem _ hw)
  intro ad H locs ls had hP hD hS hl9
  have hce : ce cy (rL l) ad (h c) c = .inr (ci, (List.range (fn_ ci)).map (fval (rL l) ad (h c) c ci)) := ce_obj hs hl12
  refine va_new hx hb hts hin ty hty hown (hts _ hlink) (hts _ hinst) (hts _ hini) hG.1 hP hD hS hA hc (fs := (List.range (fn_ ci)).map (fval (rL l) ad (h c) c ci)) (fun j hj => ?_) hcells hslots hd (fun q H1 hP1 hD1 hS1 => ?_)
  · rw [hdef j hj]
    have e1 : vp_V ((List.range (fn_ ci)).map (fval (rL l) ad (h c) c ci)) j = fval (rL l) ad (h c) c ci j := by
      show List.getD _ j _ = _
      rw [List.getD_eq_getElem?_getD, fv_get (by omega)]
      rfl
    rw [e1]
    unfold fval
    rw [hz]
    have e2 : rL l c j = false := by
      cases q : rL l c j
      · rfl
      · have := (lok_t hl q).1; omega
    rw [e2]
    generalize fk_ ci j = z
    rcases z with _ | _ | z <;> rfl
  · rw [← hce, ← wl_push hl] at hP1 hD1
    have k1 := kk (adN ad c q) H1 locs ls (fun o ho => by
      rw [adN_ne ad (by omega)]
      exact had o ho) hP1 hD1 hS1 (by rw [lv_map (adN_ag ad hc0) hlo]; exact hl9)
    rw [List.map_cons, st_map (adN_ag ad hc0) hso] at k1
    rw [show cv_ (adN ad c q) (vR c) = .ref q by show Value.ref (adN ad c q c) = _; rw [adN_eq]] at k1
    exact k1
theorem TT_newa (hK : TOk K own cc nL ret rm nn) {t N : Nat} {n : Int} {atype : ArrayType} {ty : FieldType} (hty : newarray.typeOf atype = ty) (harr : Cond.arrayClass (newarray.typeOf atype) ∈ lw_good) (ht : (t = 12 ∧ ty = .int) ∨ (t = 13 ∧ ty = .boolean) ∨ (t = 14 ∧ ty = .long)) (hs : sh c = (t, N)) (hz : ∀ j, h c j = 0) (hl : lok c l = true) (hnn : nn ≤ c) (hc0 : c < 1000)
    (hn : ¬ Int32.ofInt n < 0) (hn2 : (Int32.ofInt n).toNatClampNeg = N) (hbytes : N * componentBytes ty ≤ 536870912)
    (hlo : lv.all (fun q => pok c q.2) = true) (hso : st.all (pok c) = true) (hcells : kc + 1 ≤ rm.cells) (hslots : ks + N ≤ rm.slots) (hd : decode cc pc = .ok (.newarray atype, 2))
    (kk : TT K (c + 1, rL l) (kc + 1) (ks + N) (pc + 2) lv (vR c :: st) h) : TT K (c, rL l) kc ks pc lv (vI n :: st) h := by
  obtain ⟨⟨p, l9, e, R, s, m, args, below, meth, c9, Q⟩, ⟨o1, c1, n1, D, cy, A, n0, ad0⟩⟩ := K
  obtain ⟨rfl, rfl, rfl, hx, hb, hml, hown, hr, hlk, rfl, ⟨y9, b9, r9, hts9⟩, hG, hA, rfl⟩ := hK
  have hts : ∀ w ∈ lw_good, w.before args s = true := fun w hw => hts9 w (List.mem_cons_of_mem _ hw)
  intro ad H locs ls had hP hD hS hl9
  have go : ∀ (a0 : vp_A), (∀ cA : ClassId, vp_cell cA a0 = arrV cA N (fun _ => defaultValue ty)) → ce cy (rL l) ad (h c) c = .inl (cy t, a0) → W p l9 e R s m args below meth c9 H locs kc ks Q (F0 m pc ls ((vI n :: st).map (cv_ ad))) := by
    intro a0 ha hce
    refine va_newa hx hb (hts _ harr) hty hG.1 hP hD hS hA (a0 := a0) ha hn hn2 hbytes hcells hslots hd (fun q cA H1 hK1 hP1 hD1 hS1 => ?_)
    have hcA : cA = cy t := by
      have r1 : va_RA s cA ty := ((hK1.2 3 (cA, ty) rfl).2)
      rcases ht with ⟨rfl, rfl⟩ | ⟨rfl, rfl⟩ | ⟨rfl, rfl⟩
      · have r2 : va_RA s (cy 12) .int := (hG.1.2 0 _ rfl).2
        exact Option.some.inj (r1.symm.trans r2)
      · have r2 : va_RA s (cy 13) .boolean := (hG.1.2 1 _ rfl).2
        exact Option.some.inj (r1.symm.trans r2)
      · have r2 : va_RA s (cy 14) .long := (hG.1.2 2 _ rfl).2
        exact Option.some.inj (r1.symm.trans r2)
    rw [hcA, ← hce, ← wl_push hl] at hP1 hD1
    have k1 := kk (adN ad c q) H1 locs ls (fun o ho => by
      rw [adN_ne ad (by omega)]
      exact had o ho) hP1 hD1 hS1 (by rw [lv_map (adN_ag ad hc0) hlo]; exact hl9)
    rw [List.map_cons, st_map (adN_ag ad hc0) hso] at k1
    rw [show cv_ (adN ad c q) (vR c) = .ref q by show Value.ref (adN ad c q c) = _; rw [adN_eq]] at k1
    exact k1
  rcases ht with ⟨rfl, rfl⟩ | ⟨rfl, rfl⟩ | ⟨rfl, rfl⟩
  · refine go (N, .inl (fun j => Int32.ofInt (h c j))) (fun cA => ?_) (ce_row hs (Or.inl rfl))
    show arrV cA N (fun j => .int (Int32.ofInt (h c j))) = _
    congr 1
    funext j
    rw [hz]
    rfl
  · refine go (N, .inl (fun j => Int32.ofInt (h c j))) (fun cA => ?_) (ce_row hs (Or.inr rfl))
    show arrV cA N (fun j => .int (Int32.ofInt (h c j))) = _
    congr 1
    funext j
    rw [hz]
    rfl
  · refine go (N, .inr (.inl (fun j => Int64.ofInt (h c j)))) (fun cA => ?_) (ce_rowJ hs)
    show arrV cA N (fun j => .long (Int64.ofInt (h c j))) = _
    congr 1
    funext j
    rw [hz]
    rfl
theorem TT_putR (hK : TOk K own cc nL ret rm nn) (hnm9 : TNm K "<init>") {ci k index o N q : Nat} {T : u_T} (hc : classes[ci]? = some (own, T, N)) (hin : ∀ w ∈ u_ws own T N, w ∈ lw_good) (hk : k < N) (hC : (T k).1 = own) (hlink : Cond.fieldLink own index own (T k).2.1 (T k).2.2.1 ∈ lw_good) (hl12 : ci < 12) (hf : fk_ ci k = 2) (hkn : k < fn_ ci) {ty0 : Nat → FieldType} (hty : ∀ k, k < N → parseFieldDescriptor (T k).2.2.1 = some (ty0 k)) (hnm : ∀ a, a < N → ∀ b, b < N → a ≠ b → (T a).2.1 ≠ (T b).2.1) (hfin : (T k).2.2.2 = true) {fty : FieldType} (hpd : parseFieldDescriptor (T k).2.2.1 = some fty) (hnr : ∀ a : Nat, narrow fty (.ref a) = .ref a ∧ fits fty (.ref a) = true)
    (ho : o < c) (hs : (sh o).1 = ci) (hq : rf_ o k = q) (hd : decode cc pc = .ok (.putfield index, 3)) (kk : TT K (c, rL ((o, k) :: l)) kc ks (pc + 3) lv st h) : TT K (c, rL l) kc ks pc lv (vR q :: vR o :: st) h := by
  obtain ⟨⟨p, l9, e, R, s, m, args, below, meth, c9, Q⟩, ⟨o1, c1, n1, D, cy, A, n0, ad0⟩⟩ := K
  obtain ⟨rfl, rfl, rfl, hx, hb, hml, hown, hr, hlk, hR, ⟨y9, b9, r9, hts9⟩, hG, hA, hnn⟩ := hK
  have hts : ∀ w ∈ lw_good, w.before args s = true := fun w hw => hts9 w (List.mem_cons_of_mem _ hw)
  intro ad H locs ls had hP hD hS hl
  have he := wl_get (cy := cy) (ad := ad) (h := h) (w := (c, rL l)) ho
  rw [ce_obj hs hl12] at he
  refine va_putF hx hb hts hin ty0 hty hnm hown hG.1 hP hD hS o he hc k hk (hts _ hlink) (fun x hx => by rw [hC] at hx; exact hx) hfin hnm9 hC (v := .ref (ad q)) hpd (hnr _).1 (hnr _).2 (by rw [List.length_map, List.length_range]; exact hkn) hd fun H1 locs1 hP1 hD1 hS1 => ?_
  have e1 : (wl cy (c, rL l) ad h).set o (ad o, .inr (ci, ((List.range (fn_ ci)).map (fval (rL l) ad (h o) o ci)).set k (.ref (ad q)))) = wl cy (c, rL ((o, k) :: l)) ad h := by
    apply List.ext_getElem
    · simp [wl]
    · intro i h1 h2
      rw [List.getElem_set]
      by_cases hi : o = i
      · subst hi
        rw [if_pos rfl]
        have e2 : ce cy (rL ((o, k) :: l)) ad (h o) o = .inr (ci, (List.range (fn_ ci)).map (fval (rL ((o, k) :: l)) ad (h o) o ci)) := ce_obj hs hl12
        simp only [wl, List.getElem_map, List.getElem_range]
        rw [e2, fv_set (ρ' := rL ((o, k) :: l)) (f' := h o) (by
          simp only [fval, hf, rL_cons, beq_self_eq_true, Bool.and_self, Bool.true_or, if_true, hq]) (fun j hj => by
          unfold fval
          rw [rL_cons, show (k == j) = false by simp [Ne.symm hj], Bool.and_false, Bool.false_or])]
      · rw [if_neg hi]
        simp only [wl, List.getElem_map, List.getElem_range]
        have e3 : ∀ j, rL ((o, k) :: l) i j = rL l i j := fun j => by
          rw [rL_cons, show (o == i) = false by simp [hi], Bool.false_and, Bool.false_or]
        have e4 : fval (rL ((o, k) :: l)) ad (h i) i = fval (rL l) ad (h i) i := by
          funext c3 j
          unfold fval
          rw [e3]
        unfold ce
        rw [e4]
  rw [e1] at hP1 hD1
  exact kk ad H1 locs1 ls had hP1 hD1 hS1 hl
theorem TT_objInit {w : Ly_} (hK : TOk K own cc nL ret rm nn) {index o : Nat} (hl1 : Cond.methodLink own index Lib.objectInit ∈ lw_good) (hl2 : Cond.instanceMethod Lib.objectInit ∈ lw_good) (hl3 : Cond.code Lib.objectInit ⟨#[0xb1]⟩ 1 none ∈ lw_good) (hfr : 1 ≤ rm.frames) (hlo : (st.map pcat).sum + 12 ≤ rm.locals) (hd : decode cc pc = .ok (.invokespecial index, 3)) (kk : TT K w kc ks (pc + 3) lv st h) : TT K w kc ks pc lv (vR o :: st) h := by
  obtain ⟨⟨p, l9, e, R, s, m, args, below, meth, c9, Q⟩, ⟨o1, c1, n1, D, cy, A, n0, ad0⟩⟩ := K
  obtain ⟨rfl, rfl, rfl, hx, hb, hml, hown, hr, hlk, rfl, ⟨y9, b9, r9, hts9⟩, hG, hA, rfl⟩ := hK
  have hts : ∀ w ∈ lw_good, w.before args s = true := fun w hw => hts9 w (List.mem_cons_of_mem _ hw)
  intro ad H locs ls had hP hD hS hl
  refine W.objInit hx hb hown (hts _ hl1) (hts _ hl2) (hts _ hl3) rfl (by rw [hml]; exact hl.1) rfl hd hfr (by show 2 * 0 + ((st.map (cv_ ad)).map fun v => v.category).sum + 12 ≤ _; rw [st_cat]; omega) ?_
  exact kk ad H locs ls had hP hD hS hl
end TTN

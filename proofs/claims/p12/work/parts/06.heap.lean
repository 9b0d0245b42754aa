theorem ix_to {i : Int} {n : Nat} (h0 : 0 ≤ i) (h1 : i < n) (hn : n ≤ 5000) : vp_in (Int32.ofInt i) n ∧ (((Int32.ofInt i).toNatClampNeg : Nat) : Int) = i := by
  have hi : ir_ i := by unfold ir_; omega
  have e : (Int32.ofInt i).toNatClampNeg = i.toNat := by
    show (Int32.ofInt i).toInt.toNat = _
    rw [ir_to hi]
  refine ⟨?_, by rw [e]; omega⟩
  rintro (q | q)
  · have := (ir_lti hi ir_0).mp q
    omega
  · rw [e] at q; omega
theorem sh_le (o : Nat) : (sh o).2 ≤ 5000 := by
  unfold sh
  rw [List.getD_eq_getElem?_getD]
  cases h : shL[o]? with
  | none => exact Nat.zero_le _
  | some q =>
    have h1 : shL.all (fun q => decide (q.2 ≤ 5000)) = true := by decide +kernel
    have h2 := List.all_eq_true.mp h1 q (List.mem_of_getElem? h)
    simpa using h2
theorem ce_obj {cy : Nat → ClassId} {ρ : Nat → Nat → Bool} {ad : Nat → Nat} {f : Int → Int} {o ci : Nat} (hs : (sh o).1 = ci) (hl : ci < 12) : ce cy ρ ad f o = .inr (ci, (List.range (fn_ ci)).map (fval ρ ad f o ci)) := by
  subst hs
  unfold ce
  rw [if_pos hl]
theorem ce_row {cy : Nat → ClassId} {ρ : Nat → Nat → Bool} {ad : Nat → Nat} {f : Int → Int} {o t n : Nat} (hs : sh o = (t, n)) (hl : t = 12 ∨ t = 13) : ce cy ρ ad f o = .inl (cy t, n, .inl (fun j => Int32.ofInt (f j))) := by
  unfold ce
  rw [hs]
  rcases hl with rfl | rfl <;> rfl
theorem ce_rowJ {cy : Nat → ClassId} {ρ : Nat → Nat → Bool} {ad : Nat → Nat} {f : Int → Int} {o n : Nat} (hs : sh o = (14, n)) : ce cy ρ ad f o = .inl (cy 14, n, .inr (.inl (fun j => Int64.ofInt (f j)))) := by
  unfold ce
  rw [hs]
  rfl
theorem fv_get {ρ : Nat → Nat → Bool} {ad : Nat → Nat} {f : Int → Int} {o ci k : Nat} (hk : k < fn_ ci) : ((List.range (fn_ ci)).map (fval ρ ad f o ci))[k]? = some (fval ρ ad f o ci k) := by
  rw [List.getElem?_map, List.getElem?_range hk]; rfl
theorem fv_set {ρ ρ' : Nat → Nat → Bool} {ad : Nat → Nat} {f f' : Int → Int} {o ci k : Nat} {v : Value} (hv : fval ρ' ad f' o ci k = v) (hn : ∀ j, j ≠ k → fval ρ' ad f' o ci j = fval ρ ad f o ci j) : ((List.range (fn_ ci)).map (fval ρ ad f o ci)).set k v = (List.range (fn_ ci)).map (fval ρ' ad f' o ci) := by
  apply List.ext_getElem
  · simp
  · intro i h1 h2
    rw [List.getElem_set]
    by_cases hi : k = i
    · subst hi; simp [hv]
    · rw [if_neg hi]; simp [hn i (fun q => hi q.symm)]
theorem fval_up {ρ : Nat → Nat → Bool} {ad : Nat → Nat} {h : Hp_} {o ci k j : Nat} {x : Int} (hj : j ≠ k) : fval ρ ad (up h o k x o) o ci j = fval ρ ad (h o) o ci j := by
  have e : up h o (k : Int) x o (j : Int) = h o j := up_ni h o x o (by omega)
  unfold fval
  rw [e]
section TTH
variable {K : TC_} {own : String} {cc : ByteArray} {nL : Nat} {ret : Option FieldType} {rm : Room} {nn : Nat} {w : Ly_} {kc ks pc : Nat} {lv : List (Nat × PV_)} {st : List PV_} {h : Hp_}
theorem TT_getI (hK : TOk K own cc nL ret rm nn) {ci k index o N : Nat} {C : String} {T : u_T} (hc : classes[ci]? = some (C, T, N)) (hin : ∀ w ∈ u_ws C T N, w ∈ lw_good) (hk : k < N) (hC : (T k).1 = C) (hlink : Cond.fieldLink own index C (T k).2.1 (T k).2.2.1 ∈ lw_good) (hl12 : ci < 12) (hf : fk_ ci k = 0) (hkn : k < fn_ ci) (ho : o < w.1) (hs : (sh o).1 = ci) {v : Int} (hv : h o k = v) (hd : decode cc pc = .ok (.getfield index, 3)) (kk : TT K w kc ks (pc + 3) lv (vI v :: st) h) : TT K w kc ks pc lv (vR o :: st) h := by
  obtain ⟨⟨p, l, e, R, s, m, args, below, meth, c, Q⟩, ⟨o1, c1, n1, D, cy, A, n0, ad0⟩⟩ := K
  obtain ⟨rfl, rfl, rfl, hx, hb, hml, hown, hr, hlk, hR, ⟨y9, b9, r9, hts9⟩, hG, hA, hnn⟩ := hK
  have hts : ∀ w ∈ lw_good, w.before args s = true := fun w hw => hts9 w (List.mem_cons_of_mem _ hw)
  intro ad H locs ls had hP hD hS hl
  have he := wl_get (cy := cy) (ad := ad) (h := h) ho
  rw [ce_obj hs hl12] at he
  refine va_get (v := .int (Int32.ofInt v)) hx hb hts hin hown hG.1 hP o he hc k hk (hts _ hlink) (fun x hx => by rw [hC] at hx; exact hx) ?_ hd (kk ad H locs ls had hP hD hS hl)
  rw [fv_get hkn]
  simp only [fval, hf, hv]
theorem TT_getJ (hK : TOk K own cc nL ret rm nn) {ci k index o N : Nat} {C : String} {T : u_T} (hc : classes[ci]? = some (C, T, N)) (hin : ∀ w ∈ u_ws C T N, w ∈ lw_good) (hk : k < N) (hC : (T k).1 = C) (hlink : Cond.fieldLink own index C (T k).2.1 (T k).2.2.1 ∈ lw_good) (hl12 : ci < 12) (hf : fk_ ci k = 1) (hkn : k < fn_ ci) (ho : o < w.1) (hs : (sh o).1 = ci) {v : Int} (hv : h o k = v) (hd : decode cc pc = .ok (.getfield index, 3)) (kk : TT K w kc ks (pc + 3) lv (vJ v :: st) h) : TT K w kc ks pc lv (vR o :: st) h := by
  obtain ⟨⟨p, l, e, R, s, m, args, below, meth, c, Q⟩, ⟨o1, c1, n1, D, cy, A, n0, ad0⟩⟩ := K
  obtain ⟨rfl, rfl, rfl, hx, hb, hml, hown, hr, hlk, hR, ⟨y9, b9, r9, hts9⟩, hG, hA, hnn⟩ := hK
  have hts : ∀ w ∈ lw_good, w.before args s = true := fun w hw => hts9 w (List.mem_cons_of_mem _ hw)
  intro ad H locs ls had hP hD hS hl
  have he := wl_get (cy := cy) (ad := ad) (h := h) ho
  rw [ce_obj hs hl12] at he
  refine va_get (v := .long (Int64.ofInt v)) hx hb hts hin hown hG.1 hP o he hc k hk (hts _ hlink) (fun x hx => by rw [hC] at hx; exact hx) ?_ hd (kk ad H locs ls had hP hD hS hl)
  rw [fv_get hkn]
  simp only [fval, hf, hv]
theorem TT_getR (hK : TOk K own cc nL ret rm nn) {ci k index o N : Nat} {C : String} {T : u_T} (hc : classes[ci]? = some (C, T, N)) (hin : ∀ w ∈ u_ws C T N, w ∈ lw_good) (hk : k < N) (hC : (T k).1 = C) (hlink : Cond.fieldLink own index C (T k).2.1 (T k).2.2.1 ∈ lw_good) (hl12 : ci < 12) (hf : fk_ ci k = 2) (hkn : k < fn_ ci) (ho : o < w.1) (hs : (sh o).1 = ci) {q : Nat} (hq : rf_ o k = q) (hrho : w.2 o k = true) (hd : decode cc pc = .ok (.getfield index, 3)) (kk : TT K w kc ks (pc + 3) lv (vR q :: st) h) : TT K w kc ks pc lv (vR o :: st) h := by
  obtain ⟨⟨p, l, e, R, s, m, args, below, meth, c, Q⟩, ⟨o1, c1, n1, D, cy, A, n0, ad0⟩⟩ := K
  obtain ⟨rfl, rfl, rfl, hx, hb, hml, hown, hr, hlk, hR, ⟨y9, b9, r9, hts9⟩, hG, hA, hnn⟩ := hK
  have hts : ∀ w ∈ lw_good, w.before args s = true := fun w hw => hts9 w (List.mem_cons_of_mem _ hw)
  intro ad H locs ls had hP hD hS hl
  have he := wl_get (cy := cy) (ad := ad) (h := h) ho
  rw [ce_obj hs hl12] at he
  refine va_get (v := .ref (ad q)) hx hb hts hin hown hG.1 hP o he hc k hk (hts _ hlink) (fun x hx => by rw [hC] at hx; exact hx) ?_ hd (kk ad H locs ls had hP hD hS hl)
  rw [fv_get hkn]
  simp only [fval, hf, hrho, hq, if_true]
theorem TT_getIN (hK : TOk K own cc nL ret rm nn) {ci k index o N : Nat} {C host : String} {T : u_T} (hc : classes[ci]? = some (C, T, N)) (hin : ∀ w ∈ u_ws C T N, w ∈ lw_good) (hk : k < N) (hC : (T k).1 = C) (hlink : Cond.fieldLinkNest own index C (T k).2.1 (T k).2.2.1 host ∈ lw_nest) (hl12 : ci < 12) (hf : fk_ ci k = 0) (hkn : k < fn_ ci) (ho : o < w.1) (hs : (sh o).1 = ci) {v : Int} (hv : h o k = v) (hd : decode cc pc = .ok (.getfield index, 3)) (kk : TT K w kc ks (pc + 3) lv (vI v :: st) h) : TT K w kc ks pc lv (vR o :: st) h := by
  obtain ⟨⟨p, l, e, R, s, m, args, below, meth, c, Q⟩, ⟨o1, c1, n1, D, cy, A, n0, ad0⟩⟩ := K
  obtain ⟨rfl, rfl, rfl, hx, hb, hml, hown, hr, hlk, hR, ⟨y9, b9, r9, hts9⟩, hG, hA, hnn⟩ := hK
  have hts : ∀ w ∈ lw_good, w.before args s = true := fun w hw => hts9 w (List.mem_cons_of_mem _ hw)
  intro ad H locs ls had hP hD hS hl
  have he := wl_get (cy := cy) (ad := ad) (h := h) ho
  rw [ce_obj hs hl12] at he
  refine va_getN (v := .int (Int32.ofInt v)) hx hb hts hin hown hG.1 hP o he hc k hk (va_Nw.use rfl (hG.2.1 _ hlink)) (fun x hx => by rw [hC] at hx; exact hx) ?_ hd (kk ad H locs ls had hP hD hS hl)
  rw [fv_get hkn]
  simp only [fval, hf, hv]
theorem TT_getJN (hK : TOk K own cc nL ret rm nn) {ci k index o N : Nat} {C host : String} {T : u_T} (hc : classes[ci]? = some (C, T, N)) (hin : ∀ w ∈ u_ws C T N, w ∈ lw_good) (hk : k < N) (hC : (T k).1 = C) (hlink : Cond.fieldLinkNest own index C (T k).2.1 (T k).2.2.1 host ∈ lw_nest) (hl12 : ci < 12) (hf : fk_ ci k = 1) (hkn : k < fn_ ci) (ho : o < w.1) (hs : (sh o).1 = ci) {v : Int} (hv : h o k = v) (hd : decode cc pc = .ok (.getfield index, 3)) (kk : TT K w kc ks (pc + 3) lv (vJ v :: st) h) : TT K w kc ks pc lv (vR o :: st) h := by
  obtain ⟨⟨p, l, e, R, s, m, args, below, meth, c, Q⟩, ⟨o1, c1, n1, D, cy, A, n0, ad0⟩⟩ := K
  obtain ⟨rfl, rfl, rfl, hx, hb, hml, hown, hr, hlk, hR, ⟨y9, b9, r9, hts9⟩, hG, hA, hnn⟩ := hK
  have hts : ∀ w ∈ lw_good, w.before args s = true := fun w hw => hts9 w (List.mem_cons_of_mem _ hw)
  intro ad H locs ls had hP hD hS hl
  have he := wl_get (cy := cy) (ad := ad) (h := h) ho
  rw [ce_obj hs hl12] at he
  refine va_getN (v := .long (Int64.ofInt v)) hx hb hts hin hown hG.1 hP o he hc k hk (va_Nw.use rfl (hG.2.1 _ hlink)) (fun x hx => by rw [hC] at hx; exact hx) ?_ hd (kk ad H locs ls had hP hD hS hl)
  rw [fv_get hkn]
  simp only [fval, hf, hv]
theorem TT_getRN (hK : TOk K own cc nL ret rm nn) {ci k index o N : Nat} {C host : String} {T : u_T} (hc : classes[ci]? = some (C, T, N)) (hin : ∀ w ∈ u_ws C T N, w ∈ lw_good) (hk : k < N) (hC : (T k).1 = C) (hlink : Cond.fieldLinkNest own index C (T k).2.1 (T k).2.2.1 host ∈ lw_nest) (hl12 : ci < 12) (hf : fk_ ci k = 2) (hkn : k < fn_ ci) (ho : o < w.1) (hs : (sh o).1 = ci) {q : Nat} (hq : rf_ o k = q) (hrho : w.2 o k = true) (hd : decode cc pc = .ok (.getfield index, 3)) (kk : TT K w kc ks (pc + 3) lv (vR q :: st) h) : TT K w kc ks pc lv (vR o :: st) h := by
  obtain ⟨⟨p, l, e, R, s, m, args, below, meth, c, Q⟩, ⟨o1, c1, n1, D, cy, A, n0, ad0⟩⟩ := K
  obtain ⟨rfl, rfl, rfl, hx, hb, hml, hown, hr, hlk, hR, ⟨y9, b9, r9, hts9⟩, hG, hA, hnn⟩ := hK
  have hts : ∀ w ∈ lw_good, w.before args s = true := fun w hw => hts9 w (List.mem_cons_of_mem _ hw)
  intro ad H locs ls had hP hD hS hl
  have he := wl_get (cy := cy) (ad := ad) (h := h) ho
  rw [ce_obj hs hl12] at he
  refine va_getN (v := .ref (ad q)) hx hb hts hin hown hG.1 hP o he hc k hk (va_Nw.use rfl (hG.2.1 _ hlink)) (fun x hx => by rw [hC] at hx; exact hx) ?_ hd (kk ad H locs ls had hP hD hS hl)
  rw [fv_get hkn]
  simp only [fval, hf, hrho, hq, if_true]
theorem TT_putI (hK : TOk K own cc nL ret rm nn) {ci k index o N : Nat} {C : String} {T : u_T} (hc : classes[ci]? = some (C, T, N)) (hin : ∀ w ∈ u_ws C T N, w ∈ lw_good) (hk : k < N) (hC : (T k).1 = C) (hlink : Cond.fieldLink own index C (T k).2.1 (T k).2.2.1 ∈ lw_good) (hl12 : ci < 12) (hf : fk_ ci k = 0) (hkn : k < fn_ ci) {ty0 : Nat → FieldType} (hty : ∀ k, k < N → parseFieldDescriptor (T k).2.2.1 = some (ty0 k)) (hnm : ∀ a, a < N → ∀ b, b < N → a ≠ b → (T a).2.1 ≠ (T b).2.1) (hfin : (T k).2.2.2 = false) (hpd : parseFieldDescriptor (T k).2.2.1 = some .int) (ho : o < w.1) (hs : (sh o).1 = ci) {x : Int} (hd : decode cc pc = .ok (.putfield index, 3)) (kk : TT K w kc ks (pc + 3) lv st (up h o k x)) : TT K w kc ks pc lv (vI x :: vR o :: st) h := by
  obtain ⟨⟨p, l, e, R, s, m, args, below, meth, c, Q⟩, ⟨o1, c1, n1, D, cy, A, n0, ad0⟩⟩ := K
  obtain ⟨rfl, rfl, rfl, hx, hb, hml, hown, hr, hlk, hR, ⟨y9, b9, r9, hts9⟩, hG, hA, hnn⟩ := hK
  have hts : ∀ w ∈ lw_good, w.before args s = true := fun w hw => hts9 w (List.mem_cons_of_mem _ hw)
  intro ad H locs ls had hP hD hS hl
  have he := wl_get (cy := cy) (ad := ad) (h := h) ho
  rw [ce_obj hs hl12] at he
  refine va_put hx hb hts hin ty0 hty hnm hown hG.1 hP hD hS o he hc k hk (hts _ hlink) (fun x hx => by rw [hC] at hx; exact hx) hfin (ty := .int) (v := .int (Int32.ofInt x)) hpd rfl rfl (by rw [List.length_map, List.length_range]; exact hkn) hd fun H1 locs1 hP1 hD1 hS1 => ?_
  have e : (wl cy w ad h).set o (ad o, .inr (ci, ((List.range (fn_ ci)).map (fval w.2 ad (h o) o ci)).set k (.int (Int32.ofInt x)))) = wl cy w ad (up h o k x) := by
    refine wl_set ?_ (fun q hq => ?_)
    · rw [ce_obj hs hl12, fv_set (ρ' := w.2) (f' := up h o k x o) (by simp only [fval, hf, up_eq]) (fun j hj => fval_up hj)]
    · funext i; exact up_ne h _ _ _ hq
  rw [e] at hP1 hD1
  exact kk ad H1 locs1 ls had hP1 hD1 hS1 hl
theorem TT_putZ (hK : TOk K own cc nL ret rm nn) {ci k index o N : Nat} {C : String} {T : u_T} (hc : classes[ci]? = some (C, T, N)) (hin : ∀ w ∈ u_ws C T N, w ∈ lw_good) (hk : k < N) (hC : (T k).1 = C) (hlink : Cond.fieldLink own index C (T k).2.1 (T k).2.2.1 ∈ lw_good) (hl12 : ci < 12) (hf : fk_ ci k = 0) (hkn : k < fn_ ci) {ty0 : Nat → FieldType} (hty : ∀ k, k < N → parseFieldDescriptor (T k).2.2.1 = some (ty0 k)) (hnm : ∀ a, a < N → ∀ b, b < N → a ≠ b → (T a).2.1 ≠ (T b).2.1) (hfin : (T k).2.2.2 = false) (hpd : parseFieldDescriptor (T k).2.2.1 = some .boolean) (ho : o < w.1) (hs : (sh o).1 = ci) {x : Int} (hx01 : x = 0 ∨ x = 1) (hd : decode cc pc = .ok (.putfield index, 3)) (kk : TT K w kc ks (pc + 3) lv st (up h o k x)) : TT K w kc ks pc lv (vI x :: vR o :: st) h := by
  obtain ⟨⟨p, l, e, R, s, m, args, below, meth, c, Q⟩, ⟨o1, c1, n1, D, cy, A, n0, ad0⟩⟩ := K
  obtain ⟨rfl, rfl, rfl, hx, hb, hml, hown, hr, hlk, hR, ⟨y9, b9, r9, hts9⟩, hG, hA, hnn⟩ := hK
  have hts : ∀ w ∈ lw_good, w.before args s = true := fun w hw => hts9 w (List.mem_cons_of_mem _ hw)
  intro ad H locs ls had hP hD hS hl
  have he := wl_get (cy := cy) (ad := ad) (h := h) ho
  rw [ce_obj hs hl12] at he
  refine va_put hx hb hts hin ty0 hty hnm hown hG.1 hP hD hS o he hc k hk (hts _ hlink) (fun x hx => by rw [hC] at hx; exact hx) hfin (ty := .boolean) (v := .int (Int32.ofInt x)) hpd (by rcases hx01 with rfl | rfl <;> rfl) (by rcases hx01 with rfl | rfl <;> rfl) (by rw [List.length_map, List.length_range]; exact hkn) hd fun H1 locs1 hP1 hD1 hS1 => ?_
  have e : (wl cy w ad h).set o (ad o, .inr (ci, ((List.range (fn_ ci)).map (fval w.2 ad (h o) o ci)).set k (.int (Int32.ofInt x)))) = wl cy w ad (up h o k x) := by
    refine wl_set ?_ (fun q hq => ?_)
    · rw [ce_obj hs hl12, fv_set (ρ' := w.2) (f' := up h o k x o) (by simp only [fval, hf, up_eq]) (fun j hj => fval_up hj)]
    · funext i; exact up_ne h _ _ _ hq
  rw [e] at hP1 hD1
  exact kk ad H1 locs1 ls had hP1 hD1 hS1 hl
theorem TT_putJ (hK : TOk K own cc nL ret rm nn) {ci k index o N : Nat} {C : String} {T : u_T} (hc : classes[ci]? = some (C, T, N)) (hin : ∀ w ∈ u_ws C T N, w ∈ lw_good) (hk : k < N) (hC : (T k).1 = C) (hlink : Cond.fieldLink own index C (T k).2.1 (T k).2.2.1 ∈ lw_good) (hl12 : ci < 12) (hf : fk_ ci k = 1) (hkn : k < fn_ ci) {ty0 : Nat → FieldType} (hty : ∀ k, k < N → parseFieldDescriptor (T k).2.2.1 = some (ty0 k)) (hnm : ∀ a, a < N → ∀ b, b < N → a ≠ b → (T a).2.1 ≠ (T b).2.1) (hfin : (T k).2.2.2 = false) (hpd : parseFieldDescriptor (T k).2.2.1 = some .long) (ho : o < w.1) (hs : (sh o).1 = ci) {x : Int} (hd : decode cc pc = .ok (.putfield index, 3)) (kk : TT K w kc ks (pc + 3) lv st (up h o k x)) : TT K w kc ks pc lv (vJ x :: vR o :: st) h := by
  obtain ⟨⟨p, l, e, R, s, m, args, below, meth, c, Q⟩, ⟨o1, c1, n1, D, cy, A, n0, ad0⟩⟩ := K
  obtain ⟨rfl, rfl, rfl, hx, hb, hml, hown, hr, hlk, hR, ⟨y9, b9, r9, hts9⟩, hG, hA, hnn⟩ := hK
  have hts : ∀ w ∈ lw_good, w.before args s = true := fun w hw => hts9 w (List.mem_cons_of_mem _ hw)
  intro ad H locs ls had hP hD hS hl
  have he := wl_get (cy := cy) (ad := ad) (h := h) ho
  rw [ce_obj hs hl12] at he
  refine va_put hx hb hts hin ty0 hty hnm hown hG.1 hP hD hS o he hc k hk (hts _ hlink) (fun x hx => by rw [hC] at hx; exact hx) hfin (ty := .long) (v := .long (Int64.ofInt x)) hpd rfl rfl (by rw [List.length_map, List.length_range]; exact hkn) hd fun H1 locs1 hP1 hD1 hS1 => ?_
  have e : (wl cy w ad h).set o (ad o, .inr (ci, ((List.range (fn_ ci)).map (fval w.2 ad (h o) o ci)).set k (.long (Int64.ofInt x)))) = wl cy w ad (up h o k x) := by
    refine wl_set ?_ (fun q hq => ?_)
    · rw [ce_obj hs hl12, fv_set (ρ' := w.2) (f' := up h o k x o) (by simp only [fval, hf, up_eq]) (fun j hj => fval_up hj)]
    · funext i; exact up_ne h _ _ _ hq
  rw [e] at hP1 hD1
  exact kk ad H1 locs1 ls had hP1 hD1 hS1 hl
theorem TT_iald (hK : TOk K own cc nL ret rm nn) {o n : Nat} {i v : Int} (ho : o < w.1) (hs : sh o = (12, n)) (h0 : 0 ≤ i) (h1 : i < n) (hv : h o i = v) (hd : decode cc pc = .ok (.iaload, 1)) (kk : TT K w kc ks (pc + 1) lv (vI v :: st) h) : TT K w kc ks pc lv (vI i :: vR o :: st) h := by
  obtain ⟨⟨p, l, e, R, s, m, args, below, meth, c, Q⟩, ⟨o1, c1, n1, D, cy, A, n0, ad0⟩⟩ := K
  obtain ⟨rfl, rfl, rfl, hx, hb, hml, hown, hr, hlk, hR, ⟨y9, b9, r9, hts9⟩, hG, hA, hnn⟩ := hK
  have hts : ∀ w ∈ lw_good, w.before args s = true := fun w hw => hts9 w (List.mem_cons_of_mem _ hw)
  intro ad H locs ls had hP hD hS hl
  have he := wl_get (cy := cy) (ad := ad) (h := h) ho
  rw [ce_row hs (by decide)] at he
  obtain ⟨q1, q2⟩ := ix_to h0 h1 (by have := sh_le o; rw [hs] at this; exact this)
  refine va_iald hx hb hG.1 hP o 0 he rfl q1 hd ?_
  rw [q2, hv]
  exact kk ad H locs ls had hP hD hS hl
theorem TT_zald (hK : TOk K own cc nL ret rm nn) {o n : Nat} {i v : Int} (ho : o < w.1) (hs : sh o = (13, n)) (h0 : 0 ≤ i) (h1 : i < n) (hv : h o i = v) (hd : decode cc pc = .ok (.baload, 1)) (kk : TT K w kc ks (pc + 1) lv (vI v :: st) h) : TT K w kc ks pc lv (vI i :: vR o :: st) h := by
  obtain ⟨⟨p, l, e, R, s, m, args, below, meth, c, Q⟩, ⟨o1, c1, n1, D, cy, A, n0, ad0⟩⟩ := K
  obtain ⟨rfl, rfl, rfl, hx, hb, hml, hown, hr, hlk, hR, ⟨y9, b9, r9, hts9⟩, hG, hA, hnn⟩ := hK
  have hts : ∀ w ∈ lw_good, w.before args s = true := fun w hw => hts9 w (List.mem_cons_of_mem _ hw)
  intro ad H locs ls had hP hD hS hl
  have he := wl_get (cy := cy) (ad := ad) (h := h) ho
  rw [ce_row hs (by decide)] at he
  obtain ⟨q1, q2⟩ := ix_to h0 h1 (by have := sh_le o; rw [hs] at this; exact this)
  refine va_zald hx hb hG.1 hP o 1 he rfl q1 hd ?_
  rw [q2, hv]
  exact kk ad H locs ls had hP hD hS hl
theorem TT_lald (hK : TOk K own cc nL ret rm nn) {o n : Nat} {i v : Int} (ho : o < w.1) (hs : sh o = (14, n)) (h0 : 0 ≤ i) (h1 : i < n) (hv : h o i = v) (hd : decode cc pc = .ok (.laload, 1)) (kk : TT K w kc ks (pc + 1) lv (vJ v :: st) h) : TT K w kc ks pc lv (vI i :: vR o :: st) h := by
  obtain ⟨⟨p, l, e, R, s, m, args, below, meth, c, Q⟩, ⟨o1, c1, n1, D, cy, A, n0, ad0⟩⟩ := K
  obtain ⟨rfl, rfl, rfl, hx, hb, hml, hown, hr, hlk, hR, ⟨y9, b9, r9, hts9⟩, hG, hA, hnn⟩ := hK
  have hts : ∀ w ∈ lw_good, w.before args s = true := fun w hw => hts9 w (List.mem_cons_of_mem _ hw)
  intro ad H locs ls had hP hD hS hl
  have he := wl_get (cy := cy) (ad := ad) (h := h) ho
  rw [ce_rowJ hs] at he
  obtain ⟨q1, q2⟩ := ix_to h0 h1 (by have := sh_le o; rw [hs] at this; exact this)
  refine va_lald hx hb hG.1 hP o 2 he rfl q1 hd ?_
  rw [q2, hv]
  exact kk ad H locs ls had hP hD hS hl
theorem TT_iast (hK : TOk K own cc nL ret rm nn) {o n : Nat} {i x : Int} (ho : o < w.1) (hs : sh o = (12, n)) (h0 : 0 ≤ i) (h1 : i < n) (hd : decode cc pc = .ok (.iastore, 1)) (kk : TT K w kc ks (pc + 1) lv st (up h o i x)) : TT K w kc ks pc lv (vI x :: vI i :: vR o :: st) h := by
  obtain ⟨⟨p, l, e, R, s, m, args, below, meth, c, Q⟩, ⟨o1, c1, n1, D, cy, A, n0, ad0⟩⟩ := K
  obtain ⟨rfl, rfl, rfl, hx, hb, hml, hown, hr, hlk, hR, ⟨y9, b9, r9, hts9⟩, hG, hA, hnn⟩ := hK
  have hts : ∀ w ∈ lw_good, w.before args s = true := fun w hw => hts9 w (List.mem_cons_of_mem _ hw)
  intro ad H locs ls had hP hD hS hl
  have he := wl_get (cy := cy) (ad := ad) (h := h) ho
  rw [ce_row hs (by decide)] at he
  obtain ⟨q1, q2⟩ := ix_to h0 h1 (by have := sh_le o; rw [hs] at this; exact this)
  refine va_iast hx hb hG.1 hP hD hS o 0 he rfl q1 hd fun H1 locs1 hP1 hD1 hS1 => ?_
  have e0 : (upd (fun j : Nat => Int32.ofInt (h o j)) (Int32.ofInt i).toNatClampNeg (Int32.ofInt x)) = fun j : Nat => Int32.ofInt (up h o i x o j) := by
    funext j
    unfold upd
    by_cases hj : j = (Int32.ofInt i).toNatClampNeg
    · rw [if_pos hj, hj, q2, up_eq]
    · rw [if_neg hj, up_ni]
      intro q
      apply hj
      omega
  have e : (wl cy w ad h).set o (ad o, .inl (cy 12, n, .inl (upd (fun j : Nat => Int32.ofInt (h o j)) (Int32.ofInt i).toNatClampNeg (Int32.ofInt x)))) = wl cy w ad (up h o i x) := by
    refine wl_set ?_ (fun q hq => ?_)
    · rw [ce_row hs (by decide), e0]
    · funext i; exact up_ne h _ _ _ hq
  rw [e] at hP1 hD1
  exact kk ad H1 locs1 ls had hP1 hD1 hS1 hl
theorem TT_zast (hK : TOk K own cc nL ret rm nn) {o n : Nat} {i x : Int} (ho : o < w.1) (hs : sh o = (13, n)) (h0 : 0 ≤ i) (h1 : i < n) (hx01 : x = 0 ∨ x = 1) (hd : decode cc pc = .ok (.bastore, 1)) (kk : TT K w kc ks (pc + 1) lv st (up h o i x)) : TT K w kc ks pc lv (vI x :: vI i :: vR o :: st) h := by
  obtain ⟨⟨p, l, e, R, s, m, args, below, meth, c, Q⟩, ⟨o1, c1, n1, D, cy, A, n0, ad0⟩⟩ := K
  obtain ⟨rfl, rfl, rfl, hx, hb, hml, hown, hr, hlk, hR, ⟨y9, b9, r9, hts9⟩, hG, hA, hnn⟩ := hK
  have hts : ∀ w ∈ lw_good, w.before args s = true := fun w hw => hts9 w (List.mem_cons_of_mem _ hw)
  intro ad H locs ls had hP hD hS hl
  have he := wl_get (cy := cy) (ad := ad) (h := h) ho
  rw [ce_row hs (by decide)] at he
  obtain ⟨q1, q2⟩ := ix_to h0 h1 (by have := sh_le o; rw [hs] at this; exact this)
  refine va_zast hx hb hG.1 hP hD hS o 1 he rfl q1 hd fun H1 locs1 hP1 hD1 hS1 => ?_
  have e0 : (upd (fun j : Nat => Int32.ofInt (h o j)) (Int32.ofInt i).toNatClampNeg (vp_nar .boolean (Int32.ofInt x))) = fun j : Nat => Int32.ofInt (up h o i x o j) := by
    rw [show vp_nar .boolean (Int32.ofInt x) = Int32.ofInt x by rcases hx01 with rfl | rfl <;> rfl]
    funext j
    unfold upd
    by_cases hj : j = (Int32.ofInt i).toNatClampNeg
    · rw [if_pos hj, hj, q2, up_eq]
    · rw [if_neg hj, up_ni]
      intro q
      apply hj
      omega
  have e : (wl cy w ad h).set o (ad o, .inl (cy 13, n, .inl (upd (fun j : Nat => Int32.ofInt (h o j)) (Int32.ofInt i).toNatClampNeg (vp_nar .boolean (Int32.ofInt x))))) = wl cy w ad (up h o i x) := by
    refine wl_set ?_ (fun q hq => ?_)
    · rw [ce_row hs (by decide), e0]
    · funext i; exact up_ne h _ _ _ hq
  rw [e] at hP1 hD1
  exact kk ad H1 locs1 ls had hP1 hD1 hS1 hl
theorem TT_last (hK : TOk K own cc nL ret rm nn) {o n : Nat} {i x : Int} (ho : o < w.1) (hs : sh o = (14, n)) (h0 : 0 ≤ i) (h1 : i < n) (hd : decode cc pc = .ok (.lastore, 1)) (kk : TT K w kc ks (pc + 1) lv st (up h o i x)) : TT K w kc ks pc lv (vJ x :: vI i :: vR o :: st) h := by
  obtain ⟨⟨p, l, e, R, s, m, args, below, meth, c, Q⟩, ⟨o1, c1, n1, D, cy, A, n0, ad0⟩⟩ := K
  obtain ⟨rfl, rfl, rfl, hx, hb, hml, hown, hr, hlk, hR, ⟨y9, b9, r9, hts9⟩, hG, hA, hnn⟩ := hK
  have hts : ∀ w ∈ lw_good, w.before args s = true := fun w hw => hts9 w (List.mem_cons_of_mem _ hw)
  intro ad H locs ls had hP hD hS hl
  have he := wl_get (cy := cy) (ad := ad) (h := h) ho
  rw [ce_rowJ hs] at he
  obtain ⟨q1, q2⟩ := ix_to h0 h1 (by have := sh_le o; rw [hs] at this; exact this)
  refine va_last hx hb hG.1 hP hD hS o 2 he rfl q1 hd fun H1 locs1 hP1 hD1 hS1 => ?_
  have e0 : (vp_updL (fun j : Nat => Int64.ofInt (h o j)) (Int32.ofInt i).toNatClampNeg (Int64.ofInt x)) = fun j : Nat => Int64.ofInt (up h o i x o j) := by
    funext j
    unfold vp_updL
    by_cases hj : j = (Int32.ofInt i).toNatClampNeg
    · rw [if_pos hj, hj, q2, up_eq]
    · rw [if_neg hj, up_ni]
      intro q
      apply hj
      omega
  have e : (wl cy w ad h).set o (ad o, .inl (cy 14, n, .inr (.inl (vp_updL (fun j : Nat => Int64.ofInt (h o j)) (Int32.ofInt i).toNatClampNeg (Int64.ofInt x))))) = wl cy w ad (up h o i x) := by
    refine wl_set ?_ (fun q hq => ?_)
    · rw [ce_rowJ hs, e0]
    · funext i; exact up_ne h _ _ _ hq
  rw [e] at hP1 hD1
  exact kk ad H1 locs1 ls had hP1 hD1 hS1 hl
theorem TT_alen (hK : TOk K own cc nL ret rm nn) {o t n : Nat} {v : Int} (ho : o < w.1) (hs : sh o = (t, n)) (ht : t = 12 ∨ t = 13) (hv : (n : Int) = v) (hd : decode cc pc = .ok (.arraylength, 1)) (kk : TT K w kc ks (pc + 1) lv (vI v :: st) h) : TT K w kc ks pc lv (vR o :: st) h := by
  obtain ⟨⟨p, l, e, R, s, m, args, below, meth, c, Q⟩, ⟨o1, c1, n1, D, cy, A, n0, ad0⟩⟩ := K
  obtain ⟨rfl, rfl, rfl, hx, hb, hml, hown, hr, hlk, hR, ⟨y9, b9, r9, hts9⟩, hG, hA, hnn⟩ := hK
  have hts : ∀ w ∈ lw_good, w.before args s = true := fun w hw => hts9 w (List.mem_cons_of_mem _ hw)
  intro ad H locs ls had hP hD hS hl
  have he := wl_get (cy := cy) (ad := ad) (h := h) ho
  rw [ce_row hs ht] at he
  subst hv
  rcases ht with rfl | rfl
  · exact va_alen hx hb hG.1 hP o 0 he rfl (v := Int32.ofInt (n : Int)) rfl hd (kk ad H locs ls had hP hD hS hl)
  · exact va_alen hx hb hG.1 hP o 1 he rfl (v := Int32.ofInt (n : Int)) rfl hd (kk ad H locs ls had hP hD hS hl)
theorem TT_gets (hK : TOk K own cc nL ret rm nn) {i q index : Nat} (hi : i < 3) (hq : 1000 + i = q) (hlink : Cond.fieldLink own index "WaveletStream$Odds" (stN i) "[I" ∈ lw_good) (hd : decode cc pc = .ok (.getstatic index, 3)) (kk : TT K w kc ks (pc + 3) lv (vR q :: st) h) : TT K w kc ks pc lv st h := by
  obtain ⟨⟨p, l, e, R, s, m, args, below, meth, c, Q⟩, ⟨o1, c1, n1, D, cy, A, n0, ad0⟩⟩ := K
  obtain ⟨rfl, rfl, rfl, hx, hb, hml, hown, hr, hlk, hR, ⟨y9, b9, r9, hts9⟩, hG, hA, hnn⟩ := hK
  have hts : ∀ w ∈ lw_good, w.before args s = true := fun w hw => hts9 w (List.mem_cons_of_mem _ hw)
  intro ad H locs ls had hP hD hS hl
  subst hq
  refine va_gets hx hb (hG.2.2.2 i hi).1 hS hown (hts _ hlink) (fun x hx => hx) hd ?_
  rw [← had (1000 + i) (Or.inr (by omega))]
  exact kk ad H locs ls had hP hD hS hl
theorem TT_tald (hK : TOk K own cc nL ret rm nn) {i q : Nat} {j v : Int} (hi : i < 3) (hq : 1000 + i = q) (h0 : 0 ≤ j) (h1 : j < 47) (hv : (stT i).getD j.toNat 0 = v) (hd : decode cc pc = .ok (.iaload, 1)) (kk : TT K w kc ks (pc + 1) lv (vI v :: st) h) : TT K w kc ks pc lv (vI j :: vR q :: st) h := by
  obtain ⟨⟨p, l, e, R, s, m, args, below, meth, c, Q⟩, ⟨o1, c1, n1, D, cy, A, n0, ad0⟩⟩ := K
  obtain ⟨rfl, rfl, rfl, hx, hb, hml, hown, hr, hlk, hR, ⟨y9, b9, r9, hts9⟩, hG, hA, hnn⟩ := hK
  have hts : ∀ w ∈ lw_good, w.before args s = true := fun w hw => hts9 w (List.mem_cons_of_mem _ hw)
  intro ad H locs ls had hP hD hS hl
  subst hq
  obtain ⟨q1, q2⟩ := ix_to (n := 47) h0 h1 (by omega)
  have e := had (1000 + i) (Or.inr (by omega))
  refine va_ti hx hb (t := ad (1000 + i)) (by rw [e]; exact (hG.2.2.2 i hi).2) hS q1 (v := .int (Int32.ofInt v)) ?_ hd (kk ad H locs ls had hP hD hS hl)
  have e2 : (Int32.ofInt j).toNatClampNeg = j.toNat := by omega
  rw [e2, hv]
theorem TT_iret (hK : TOk K own cc nL (some .int) rm nn) {mc ms : Nat} {Post : Option PV_ → Hp_ → Prop} (hQ : TQ K w mc ms Post) {v : Int} (hp : Post (some (vI v)) h) (hd : decode cc pc = .ok (.ireturn, 1)) : TT K w mc ms pc lv [vI v] h := by
  obtain ⟨⟨p, l, e, R, s, m, args, below, meth, c, Q⟩, ⟨o1, c1, n1, D, cy, A, n0, ad0⟩⟩ := K
  obtain ⟨rfl, rfl, rfl, hx, hb, hml, hown, hr, hlk, hR, hts9, hG, hA, hnn⟩ := hK
  obtain ⟨rfl, -, -⟩ := hQ
  intro ad H locs ls had hP hD hS hl
  exact W.iret hx hb hr (fun t ht _ => ⟨⟨some (vI v), h, ad, rfl, hp, had, by rw [ht]; exact hP, hD⟩, hS.F ht⟩) (fun q hq => hS.2.2 q hq) hd hlk
theorem TT_zret (hK : TOk K own cc nL (some .boolean) rm nn) {mc ms : Nat} {Post : Option PV_ → Hp_ → Prop} (hQ : TQ K w mc ms Post) {v : Int} (hv : v = 0 ∨ v = 1) (hp : Post (some (vI v)) h) (hd : decode cc pc = .ok (.ireturn, 1)) : TT K w mc ms pc lv [vI v] h := by
  obtain ⟨⟨p, l, e, R, s, m, args, below, meth, c, Q⟩, ⟨o1, c1, n1, D, cy, A, n0, ad0⟩⟩ := K
  obtain ⟨rfl, rfl, rfl, hx, hb, hml, hown, hr, hlk, hR, hts9, hG, hA, hnn⟩ := hK
  obtain ⟨rfl, -, -⟩ := hQ
  intro ad H locs ls had hP hD hS hl
  exact W.zret hx hb hr (by rcases hv with rfl | rfl <;> rfl) (fun t ht _ => ⟨⟨some (vI v), h, ad, rfl, hp, had, by rw [ht]; exact hP, hD⟩, hS.F ht⟩) (fun q hq => hS.2.2 q hq) hd hlk
theorem TT_vret (hK : TOk K own cc nL none rm nn) {mc ms : Nat} {Post : Option PV_ → Hp_ → Prop} (hQ : TQ K w mc ms Post)  (hp : Post none h) (hd : decode cc pc = .ok (.return_, 1)) : TT K w mc ms pc lv [] h := by
  obtain ⟨⟨p, l, e, R, s, m, args, below, meth, c, Q⟩, ⟨o1, c1, n1, D, cy, A, n0, ad0⟩⟩ := K
  obtain ⟨rfl, rfl, rfl, hx, hb, hml, hown, hr, hlk, hR, hts9, hG, hA, hnn⟩ := hK
  obtain ⟨rfl, -, -⟩ := hQ
  intro ad H locs ls had hP hD hS hl
  exact W.vret hx hb hr (fun t ht _ => ⟨⟨none, h, ad, rfl, hp, had, by rw [ht]; exact hP, hD⟩, hS.F ht⟩) (fun q hq => hS.2.2 q hq) hd hlk
end TTH

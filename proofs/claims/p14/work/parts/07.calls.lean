theorem st_map {n : Nat} {ad ad' : Nat → Nat} (h : ∀ o, o < n ∨ 1000 ≤ o → ad' o = ad o) {st : List PV_} (hs : st.all (pok n) = true) : st.map (cv_ ad') = st.map (cv_ ad) := List.map_congr_left fun v hv => pok_cv h (List.all_eq_true.mp hs v hv)
theorem lv_map {n : Nat} {ad ad' : Nat → Nat} (h : ∀ o, o < n ∨ 1000 ≤ o → ad' o = ad o) {lv : List (Nat × PV_)} (hs : lv.all (fun q => pok n q.2) = true) : (lv.map fun q => (q.1, cv_ ad' q.2)) = lv.map fun q => (q.1, cv_ ad q.2) := List.map_congr_left fun q hv => by rw [pok_cv h (List.all_eq_true.mp hs q hv)]
theorem st_cat (ad : Nat → Nat) (st : List PV_) : ((st.map (cv_ ad)).map fun v => v.category).sum = (st.map pcat).sum := by
  rw [List.map_map]
  congr 1
  exact List.map_congr_left fun v _ => pcat_cv ad v
theorem wl_A {A : Nat → Prop} {cy : Nat → ClassId} {w : Ly_} {ad : Nat → Nat} {h : Hp_} (hD : va_D A (wl cy w ad h)) {o : Nat} (ho : o < w.1) : A (ad o) := hD.2 o _ (wl_get ho)
theorem AA_sub {A : Nat → Prop} {cy : Nat → ClassId} {w : Ly_} {ad : Nat → Nat} {h : Hp_} {H0 H : Heap} {locs : List Loc} (hD : va_D A (wl cy w ad h)) (hS : va_S A H0 H locs) (hA : ∀ q, H0.size ≤ q → A q) : ∀ q, AA_ w ad H.size q → A q := by
  rintro q (⟨o, ho, rfl⟩ | hq)
  · exact wl_A hD ho
  · exact hA q (Nat.le_trans hS.1 hq)
theorem wl_D {A : Nat → Prop} {cy : Nat → ClassId} {w : Ly_} {ad : Nat → Nat} {h : Hp_} {sz : Nat} (hD : va_D A (wl cy w ad h)) : va_D (AA_ w ad sz) (wl cy w ad h) := by
  refine ⟨hD.1, fun k q hk => ?_⟩
  have h1 : k < w.1 := by
    have := (List.getElem?_eq_some_iff.mp hk).1
    rwa [wl_len] at this
  have h2 := (wl_get (cy := cy) (ad := ad) (h := h) h1).symm.trans hk
  exact Or.inl ⟨k, h1, by rw [← Option.some.inj h2]⟩
/-- the start of a callee, out of the caller's state -/
theorem pc_next {D : va_G} {cy : Nat → ClassId} {A : Nat → Prop} {ad ad0 : Nat → Nat} {n0 : Nat} {s U : State} {H : Heap} {locs : List Loc} {w : Ly_} {h : Hp_} (hG : GW_ D cy A ad0 s) (had : ∀ o, o < n0 ∨ 1000 ≤ o → ad o = ad0 o) (hP : va_P D classes (wl cy w ad h) H) (hD : va_D A (wl cy w ad h)) (hS : va_S A s.heap H locs) (hA : ∀ q, s.heap.size ≤ q → A q) (hU : U.heap = H) (hW : s.WarmedH U.vm) :
    U.heap.size = H.size ∧ GW_ D cy (AA_ w ad H.size) ad U ∧ va_P D classes (wl cy w ad h) U.heap ∧ va_D (AA_ w ad H.size) (wl cy w ad h) :=
  ⟨by rw [hU], hG.next hU hW hS.2.1 (AA_sub hD hS hA) (fun o ho => had o (Or.inr ho)), by rw [hU]; exact hP, wl_D hD⟩
theorem pc_blind {D : va_G} {cy : Nat → ClassId} {A : Nat → Prop} {ad : Nat → Nat} {av : List Value} {sz : Nat} {w : Ly_} {h : Hp_} : FrameBlind (va_Pc av (fun U => U.heap.size = sz ∧ GW_ D cy A ad U ∧ va_P D classes (wl cy w ad h) U.heap ∧ va_D A (wl cy w ad h))) :=
  fun a U g mk q => ⟨q.1, q.2.1, q.2.2.1.calling, q.2.2.2.1, q.2.2.2.2⟩
section TTC
variable {p : Program} {l : Launch} {e : Env} {R : Room} {s : State} {m : MethodId} {args : Array Value} {below : List Frame} {meth : Method} {c : Code} {H : Heap} {locs : List Loc} {kc ks : Nat} {Q : State → Prop}
theorem aft3 {own : String} {cc : ByteArray} {nL : Nat} {D : va_G} {cy : Nat → ClassId} {A : Nat → Prop} {n0 pc mc ms : Nat} {ad0 ad : Nat → Nat} {w w1 : Ly_} {h : Hp_} {lv : List (Nat × PV_)} {st : List PV_} {ls : Array Slot} {st0 : List Value} {Post : Option PV_ → Hp_ → Prop} {av : Array Value}
    (hr : va_Run p l e R s m args below meth c H locs kc ks mc ms (F0 m pc ls st0) (st.map (cv_ ad)) (QC_ D cy (AA_ w ad H.size) w.1 ad w1 Post av) (AA_ w ad H.size)) (hA : ∀ q, s.heap.size ≤ q → A q) (had : ∀ o, o < n0 ∨ 1000 ≤ o → ad o = ad0 o) (hn0 : n0 ≤ w.1) (hD : va_D A (wl cy w ad h)) (hS : va_S A s.heap H locs) (hl : lv_has ls nL (lv.map fun q => (q.1, cv_ ad q.2))) (hlo : lv.all (fun q => pok w.1 q.2) = true) (hso : st.all (pok w.1) = true)
    (kk : ∀ (r : Option PV_) (h' : Hp_), Post r h' → TT ((p, l, e, R, s, m, args, below, meth, c, Q), (own, cc, nL, D, cy, A, n0, ad0)) w1 (kc + mc) (ks + ms) (pc + 3) lv (r.toList ++ st) h') : W p l e R s m args below meth c H locs kc ks Q (F0 m pc ls st0) := by
  intro T hT X
  obtain ⟨v, st₀, t, T', L, h0, X', hL, e1, e2, ⟨⟨r, h', ad', hv, hp, hag, hP', hD'⟩, hz, hk⟩, stp⟩ := hr T hT X
  cases hv
  rw [h0] at hz hk
  have hsub := AA_sub hD hS hA
  have had' : ∀ o, o < n0 ∨ 1000 ≤ o → ad' o = ad0 o := fun o ho => by
    rw [hag o (ho.elim (fun q => Or.inl (Nat.lt_of_lt_of_le q hn0)) Or.inr)]
    exact had o ho
  have hS' : va_S A s.heap T'.heap (locs ++ L) := by
    refine ⟨Nat.le_trans hS.1 (by rw [e1]; exact hz), fun q h1 h2 => ?_, fun q hq => ?_⟩
    · rw [e1, hk q (Nat.lt_of_lt_of_le h1 hS.1) (fun z => h2 (hsub q z))]
      exact hS.2.1 q h1 h2
    · rcases List.mem_append.mp hq with z | z
      · exact hS.2.2 q z
      · exact hsub _ (hL q z)
  have k1 := kk r h' hp ad' T'.heap (locs ++ L) ls had' (by rw [e1]; exact hP') (hD'.weaken fun _ q _ z => hsub q.1 z) hS' (by rw [lv_map hag hlo]; exact hl) T' rfl X'
  obtain ⟨t2, a1, b1⟩ := k1
  refine ⟨t2, stp t2 ?_, b1⟩
  have e3 : (r.toList ++ st).map (cv_ ad') = (r.map (cv_ ad')).toList ++ st.map (cv_ ad) := by
    rw [List.map_append, st_map hag hso]
    cases r <;> rfl
  rw [e3] at a1
  exact a1
theorem aft5 {own : String} {cc : ByteArray} {nL : Nat} {D : va_G} {cy : Nat → ClassId} {A : Nat → Prop} {n0 pc mc ms : Nat} {ad0 ad : Nat → Nat} {w w1 : Ly_} {h : Hp_} {lv : List (Nat × PV_)} {st : List PV_} {ls : Array Slot} {st0 : List Value} {Post : Option PV_ → Hp_ → Prop} {av : Array Value}
    (hr : va_Run5 p l e R s m args below meth c H locs kc ks mc ms (F0 m pc ls st0) (st.map (cv_ ad)) (QC_ D cy (AA_ w ad H.size) w.1 ad w1 Post av) (AA_ w ad H.size)) (hA : ∀ q, s.heap.size ≤ q → A q) (had : ∀ o, o < n0 ∨ 1000 ≤ o → ad o = ad0 o) (hn0 : n0 ≤ w.1) (hD : va_D A (wl cy w ad h)) (hS : va_S A s.heap H locs) (hl : lv_has ls nL (lv.map fun q => (q.1, cv_ ad q.2))) (hlo : lv.all (fun q => pok w.1 q.2) = true) (hso : st.all (pok w.1) = true)
    (kk : ∀ (r : Option PV_) (h' : Hp_), Post r h' → TT ((p, l, e, R, s, m, args, below, meth, c, Q), (own, cc, nL, D, cy, A, n0, ad0)) w1 (kc + mc) (ks + ms) (pc + 5) lv (r.toList ++ st) h') : W p l e R s m args below meth c H locs kc ks Q (F0 m pc ls st0) := by
  intro T hT X
  obtain ⟨v, st₀, t, T', L, h0, X', hL, e1, e2, ⟨⟨r, h', ad', hv, hp, hag, hP', hD'⟩, hz, hk⟩, stp⟩ := hr T hT X
  cases hv
  rw [h0] at hz hk
  have hsub := AA_sub hD hS hA
  have had' : ∀ o, o < n0 ∨ 1000 ≤ o → ad' o = ad0 o := fun o ho => by
    rw [hag o (ho.elim (fun q => Or.inl (Nat.lt_of_lt_of_le q hn0)) Or.inr)]
    exact had o ho
  have hS' : va_S A s.heap T'.heap (locs ++ L) := by
    refine ⟨Nat.le_trans hS.1 (by rw [e1]; exact hz), fun q h1 h2 => ?_, fun q hq => ?_⟩
    · rw [e1, hk q (Nat.lt_of_lt_of_le h1 hS.1) (fun z => h2 (hsub q z))]
      exact hS.2.1 q h1 h2
    · rcases List.mem_append.mp hq with z | z
      · exact hS.2.2 q z
      · exact hsub _ (hL q z)
  have k1 := kk r h' hp ad' T'.heap (locs ++ L) ls had' (by rw [e1]; exact hP') (hD'.weaken fun _ q _ z => hsub q.1 z) hS' (by rw [lv_map hag hlo]; exact hl) T' rfl X'
  obtain ⟨t2, a1, b1⟩ := k1
  refine ⟨t2, stp t2 ?_, b1⟩
  have e3 : (r.toList ++ st).map (cv_ ad') = (r.map (cv_ ad')).toList ++ st.map (cv_ ad) := by
    rw [List.map_append, st_map hag hso]
    cases r <;> rfl
  rw [e3] at a1
  exact a1
end TTC
section TTD
variable {K : TC_} {own : String} {cc : ByteArray} {nL : Nat} {ret : Option FieldType} {rm : Room} {nn : Nat} {w : Ly_} {kc ks pc : Nat} {lv : List (Nat × PV_)} {st : List PV_} {h : Hp_}
theorem TT_callV (hK : TOk K own cc nL ret rm nn) {y : MethodName} {bytes : ByteArray} {maxL : Nat} {rt : Option FieldType} {rmc : Room} {w1 : Ly_} {mc ms index n : Nat} {As : List PV_} {Post : Option PV_ → Hp_ → Prop} {C : String} {T : u_T} {N ci o : Nat} (hC : Ctr y bytes maxL rt rmc w w1 mc ms (vR o :: As) h Post) (hcl : classes[ci]? = some (C, T, N)) (hl12 : ci < 12) (ho : o < w.1) (hs : (sh o).1 = ci) (hrm : rmc.cells = mc ∧ rmc.slots = ms) (hroom : rmc.frames + 1 ≤ rm.frames ∧ 8 + (maxL + 11) + rmc.locals ≤ rm.locals) (hcode : Cond.code y bytes maxL rt ∈ lw_good) (hd1 : y.cls = C ∧ y.cls ≠ "java/lang/invoke/MethodHandle" ∧ y.cls ≠ "java/lang/invoke/VarHandle" ∧ (parseMethodDescriptor y.desc).map (fun d => d.parameters.length) = some n) (hw : ∀ w ∈ [Cond.methodLink own index y, .instanceMethod y, .selects C y y, .initialized C], w ∈ lw_good) (hn : As.length = n) (hnn : nn ≤ w.1) (hlo : lv.all (fun q => pok w.1 q.2) = true) (hso : st.all (pok w.1) = true) (hcat : (st.map pcat).sum ≤ 8) (hf : kc + mc ≤ rm.cells ∧ ks + ms ≤ rm.slots) (hd : decode cc pc = .ok (.invokevirtual index, 3)) (kk : ∀ (r : Option PV_) (h' : Hp_), Post r h' → TT K w1 (kc + mc) (ks + ms) (pc + 3) lv (r.toList ++ st) h') : TT K w kc ks pc lv (As.reverse ++ vR o :: st) h := by
  obtain ⟨⟨p, l, e, R, s, m, args, below, meth, c, Q⟩, ⟨o1, c1, n1, D, cy, A, n0, ad0⟩⟩ := K
  obtain ⟨rfl, rfl, rfl, hx, hb, hml, hown, hr, hlk, rfl, ⟨y9, b9, r9, hts9⟩, hG, hA, rfl⟩ := hK
  have hts : ∀ w ∈ lw_good, w.before args s = true := fun w hw => hts9 w (List.mem_cons_of_mem _ hw)
  intro ad H locs ls had hP hD hS hl
  have he := wl_get (cy := cy) (ad := ad) (h := h) ho
  rw [ce_obj hs hl12] at he
  have hr := va_runV (l := l) (e := e) (below := below) (meth := meth) (locs := locs) (cells := kc) (slots := ks) (g := F0 m pc ls ((As.reverse ++ vR o :: st).map (cv_ ad))) (As := As.map (cv_ ad)) (rest := st.map (cv_ ad)) ⟨hx, hb, hml, hown, hts9⟩ (hC l D cy ad H.size _ rfl) (cwV n hts9 (gin_ hw hcode) rfl hrm.1 hrm.2 hd1 hroom) ⟨pc_blind, va_recv hG.1 hP hcl he, fun U hU hW => ⟨rfl, pc_next hG had hP hD hS hA hU hW⟩⟩ rfl (by rw [List.length_map]; exact hn) hl.1 (by show ((As.reverse ++ vR o :: st).map (cv_ ad)) = (As.map (cv_ ad)).reverse ++ .ref (ad o) :: st.map (cv_ ad); rw [List.map_append, List.map_reverse]; rfl) (lv_room (by rw [st_cat]; exact hcat)) hd hf
  exact aft3 (own := o1) (cc := c1) hr hA had hnn hD hS hl hlo hso kk
theorem TT_callVN (hK : TOk K own cc nL ret rm nn) {y : MethodName} {bytes : ByteArray} {maxL : Nat} {rt : Option FieldType} {rmc : Room} {w1 : Ly_} {mc ms index n : Nat} {As : List PV_} {Post : Option PV_ → Hp_ → Prop} {C : String} {T : u_T} {N ci o : Nat} (hC : Ctr y bytes maxL rt rmc w w1 mc ms (vR o :: As) h Post) (hcl : classes[ci]? = some (C, T, N)) (hl12 : ci < 12) (ho : o < w.1) (hs : (sh o).1 = ci) {host : String} (hrm : rmc.cells = mc ∧ rmc.slots = ms) (hroom : rmc.frames + 1 ≤ rm.frames ∧ 8 + (maxL + 11) + rmc.locals ≤ rm.locals) (hcode : Cond.code y bytes maxL rt ∈ lw_good) (hd1 : y.cls ≠ "java/lang/invoke/MethodHandle" ∧ y.cls ≠ "java/lang/invoke/VarHandle" ∧ (parseMethodDescriptor y.desc).map (fun d => d.parameters.length) = some n) (hlk9 : Cond.methodLinkNest own index y host ∈ lw_nest) (hw : ∀ w ∈ [Cond.instanceMethod y, .selects C y y, .initialized y.cls], w ∈ lw_good) (hn : As.length = n) (hnn : nn ≤ w.1) (hlo : lv.all (fun q => pok w.1 q.2) = true) (hso : st.all (pok w.1) = true) (hcat : (st.map pcat).sum ≤ 8) (hf : kc + mc ≤ rm.cells ∧ ks + ms ≤ rm.slots) (hd : decode cc pc = .ok (.invokevirtual index, 3)) (kk : ∀ (r : Option PV_) (h' : Hp_), Post r h' → TT K w1 (kc + mc) (ks + ms) (pc + 3) lv (r.toList ++ st) h') : TT K w kc ks pc lv (As.reverse ++ vR o :: st) h := by
  obtain ⟨⟨p, l, e, R, s, m, args, below, meth, c, Q⟩, ⟨o1, c1, n1, D, cy, A, n0, ad0⟩⟩ := K
  obtain ⟨rfl, rfl, rfl, hx, hb, hml, hown, hr, hlk, rfl, ⟨y9, b9, r9, hts9⟩, hG, hA, rfl⟩ := hK
  have hts : ∀ w ∈ lw_good, w.before args s = true := fun w hw => hts9 w (List.mem_cons_of_mem _ hw)
  intro ad H locs ls had hP hD hS hl
  have he := wl_get (cy := cy) (ad := ad) (h := h) ho
  rw [ce_obj hs hl12] at he
  have hr := va_runVN (l := l) (e := e) (below := below) (meth := meth) (locs := locs) (cells := kc) (slots := ks) (g := F0 m pc ls ((As.reverse ++ vR o :: st).map (cv_ ad))) (As := As.map (cv_ ad)) (rest := st.map (cv_ ad)) ⟨hx, hb, hml, hown, hts9⟩ (hC l D cy ad H.size _ rfl) ⟨va_cnB n hts9 (gin_ (ws := []) (fun _ z => absurd z List.not_mem_nil) hcode) rfl hrm.1 hrm.2 (hG.2.1 _ hlk9) (hts _ (hw _ (by simp))) hd1 hroom, hts _ (hw _ (by simp)), hts _ (hw _ (by simp))⟩ ⟨pc_blind, va_recv hG.1 hP hcl he, fun U hU hW => ⟨rfl, pc_next hG had hP hD hS hA hU hW⟩⟩ rfl (by rw [List.length_map]; exact hn) hl.1 (by show ((As.reverse ++ vR o :: st).map (cv_ ad)) = (As.map (cv_ ad)).reverse ++ .ref (ad o) :: st.map (cv_ ad); rw [List.map_append, List.map_reverse]; rfl) (lv_room (by rw [st_cat]; exact hcat)) hd hf
  exact aft3 (own := o1) (cc := c1) hr hA had hnn hD hS hl hlo hso kk
theorem TT_callS (hK : TOk K own cc nL ret rm nn) {y : MethodName} {bytes : ByteArray} {maxL : Nat} {rt : Option FieldType} {rmc : Room} {w1 : Ly_} {mc ms index n : Nat} {As : List PV_} {Post : Option PV_ → Hp_ → Prop} (hC : Ctr y bytes maxL rt rmc w w1 mc ms As h Post) (hrm : rmc.cells = mc ∧ rmc.slots = ms) (hroom : rmc.frames + 1 ≤ rm.frames ∧ 8 + (maxL + 11) + rmc.locals ≤ rm.locals) (hcode : Cond.code y bytes maxL rt ∈ lw_good) (hd1 : y.cls ≠ "java/lang/invoke/MethodHandle" ∧ y.cls ≠ "java/lang/invoke/VarHandle" ∧ (parseMethodDescriptor y.desc).map (fun d => d.parameters.length) = some n) (hw : ∀ w ∈ [Cond.methodLink own index y, .static y, .initialized y.cls], w ∈ lw_good) (hn : As.length = n) (hnn : nn ≤ w.1) (hlo : lv.all (fun q => pok w.1 q.2) = true) (hso : st.all (pok w.1) = true) (hcat : (st.map pcat).sum ≤ 8) (hf : kc + mc ≤ rm.cells ∧ ks + ms ≤ rm.slots) (hd : decode cc pc = .ok (.invokestatic index, 3)) (kk : ∀ (r : Option PV_) (h' : Hp_), Post r h' → TT K w1 (kc + mc) (ks + ms) (pc + 3) lv (r.toList ++ st) h') : TT K w kc ks pc lv (As.reverse ++ st) h := by
  obtain ⟨⟨p, l, e, R, s, m, args, below, meth, c, Q⟩, ⟨o1, c1, n1, D, cy, A, n0, ad0⟩⟩ := K
  obtain ⟨rfl, rfl, rfl, hx, hb, hml, hown, hr, hlk, rfl, ⟨y9, b9, r9, hts9⟩, hG, hA, rfl⟩ := hK
  have hts : ∀ w ∈ lw_good, w.before args s = true := fun w hw => hts9 w (List.mem_cons_of_mem _ hw)
  intro ad H locs ls had hP hD hS hl
  have hr := va_runS (l := l) (e := e) (below := below) (meth := meth) (locs := locs) (cells := kc) (slots := ks) (g := F0 m pc ls ((As.reverse ++ st).map (cv_ ad))) (As := As.map (cv_ ad)) (rest := st.map (cv_ ad)) ⟨hx, hb, hml, hown, hts9⟩ (hC l D cy ad H.size _ rfl) (va_cwS n hts9 (gin_ hw hcode) rfl hrm.1 hrm.2 hd1 hroom) ⟨pc_blind, fun U hU hW => ⟨rfl, pc_next hG had hP hD hS hA hU hW⟩⟩ rfl (by rw [List.length_map]; exact hn) hl.1 (by show ((As.reverse ++ st).map (cv_ ad)) = (As.map (cv_ ad)).reverse ++ st.map (cv_ ad); rw [List.map_append, List.map_reverse]) (lv_room (by rw [st_cat]; exact hcat)) hd hf
  exact aft3 (own := o1) (cc := c1) hr hA had hnn hD hS hl hlo hso kk
theorem TT_callSN (hK : TOk K own cc nL ret rm nn) {y : MethodName} {bytes : ByteArray} {maxL : Nat} {rt : Option FieldType} {rmc : Room} {w1 : Ly_} {mc ms index n : Nat} {As : List PV_} {Post : Option PV_ → Hp_ → Prop} (hC : Ctr y bytes maxL rt rmc w w1 mc ms As h Post) {host : String} (hrm : rmc.cells = mc ∧ rmc.slots = ms) (hroom : rmc.frames + 1 ≤ rm.frames ∧ 8 + (maxL + 11) + rmc.locals ≤ rm.locals) (hcode : Cond.code y bytes maxL rt ∈ lw_good) (hd1 : y.cls ≠ "java/lang/invoke/MethodHandle" ∧ y.cls ≠ "java/lang/invoke/VarHandle" ∧ (parseMethodDescriptor y.desc).map (fun d => d.parameters.length) = some n) (hlk9 : Cond.methodLinkNest own index y host ∈ lw_nest) (hw : ∀ w ∈ [Cond.static y, .initialized y.cls], w ∈ lw_good) (hn : As.length = n) (hnn : nn ≤ w.1) (hlo : lv.all (fun q => pok w.1 q.2) = true) (hso : st.all (pok w.1) = true) (hcat : (st.map pcat).sum ≤ 8) (hf : kc + mc ≤ rm.cells ∧ ks + ms ≤ rm.slots) (hd : decode cc pc = .ok (.invokestatic index, 3)) (kk : ∀ (r : Option PV_) (h' : Hp_), Post r h' → TT K w1 (kc + mc) (ks + ms) (pc + 3) lv (r.toList ++ st) h') : TT K w kc ks pc lv (As.reverse ++ st) h := by
  obtain ⟨⟨p, l, e, R, s, m, args, below, meth, c, Q⟩, ⟨o1, c1, n1, D, cy, A, n0, ad0⟩⟩ := K
  obtain ⟨rfl, rfl, rfl, hx, hb, hml, hown, hr, hlk, rfl, ⟨y9, b9, r9, hts9⟩, hG, hA, rfl⟩ := hK
  have hts : ∀ w ∈ lw_good, w.before args s = true := fun w hw => hts9 w (List.mem_cons_of_mem _ hw)
  intro ad H locs ls had hP hD hS hl
  have hr := va_runSN (l := l) (e := e) (below := below) (meth := meth) (locs := locs) (cells := kc) (slots := ks) (g := F0 m pc ls ((As.reverse ++ st).map (cv_ ad))) (As := As.map (cv_ ad)) (rest := st.map (cv_ ad)) ⟨hx, hb, hml, hown, hts9⟩ (hC l D cy ad H.size _ rfl) ⟨va_cnB n hts9 (gin_ (ws := []) (fun _ z => absurd z List.not_mem_nil) hcode) rfl hrm.1 hrm.2 (hG.2.1 _ hlk9) (hts _ (hw _ (by simp))) hd1 hroom, hts _ (hw _ (by simp)), trivial⟩ ⟨pc_blind, fun U hU hW => ⟨rfl, pc_next hG had hP hD hS hA hU hW⟩⟩ rfl (by rw [List.length_map]; exact hn) hl.1 (by show ((As.reverse ++ st).map (cv_ ad)) = (As.map (cv_ ad)).reverse ++ st.map (cv_ ad); rw [List.map_append, List.map_reverse]) (lv_room (by rw [st_cat]; exact hcat)) hd hf
  exact aft3 (own := o1) (cc := c1) hr hA had hnn hD hS hl hlo hso kk
theorem TT_callI (hK : TOk K own cc nL ret rm nn) {y : MethodName} {bytes : ByteArray} {maxL : Nat} {rmc : Room} {w1 : Ly_} {mc ms index n : Nat} {As : List PV_} {Post : Option PV_ → Hp_ → Prop} {o : Nat} (hC : Ctr y bytes maxL none rmc w w1 mc ms (vR o :: As) h Post) (hrm : rmc.cells = mc ∧ rmc.slots = ms) (hroom : rmc.frames + 1 ≤ rm.frames ∧ 8 + (maxL + 11) + rmc.locals ≤ rm.locals) (hcode : Cond.code y bytes maxL none ∈ lw_good) (hd1 : y.cls ≠ "java/lang/invoke/MethodHandle" ∧ y.cls ≠ "java/lang/invoke/VarHandle" ∧ (parseMethodDescriptor y.desc).map (fun d => d.parameters.length) = some n) (hnm9 : y.name = "<init>") (hw : ∀ w ∈ [Cond.methodLink own index y, .instanceMethod y, .initialized y.cls], w ∈ lw_good) (hn : As.length = n) (hnn : nn ≤ w.1) (hlo : lv.all (fun q => pok w.1 q.2) = true) (hso : st.all (pok w.1) = true) (hcat : (st.map pcat).sum ≤ 8) (hf : kc + mc ≤ rm.cells ∧ ks + ms ≤ rm.slots) (hd : decode cc pc = .ok (.invokespecial index, 3)) (kk : ∀ (r : Option PV_) (h' : Hp_), Post r h' → TT K w1 (kc + mc) (ks + ms) (pc + 3) lv (r.toList ++ st) h') : TT K w kc ks pc lv (As.reverse ++ vR o :: st) h := by
  obtain ⟨⟨p, l, e, R, s, m, args, below, meth, c, Q⟩, ⟨o1, c1, n1, D, cy, A, n0, ad0⟩⟩ := K
  obtain ⟨rfl, rfl, rfl, hx, hb, hml, hown, hr, hlk, rfl, ⟨y9, b9, r9, hts9⟩, hG, hA, rfl⟩ := hK
  have hts : ∀ w ∈ lw_good, w.before args s = true := fun w hw => hts9 w (List.mem_cons_of_mem _ hw)
  intro ad H locs ls had hP hD hS hl
  have hr := va_runI (l := l) (e := e) (below := below) (meth := meth) (locs := locs) (cells := kc) (slots := ks) (g := F0 m pc ls ((As.reverse ++ vR o :: st).map (cv_ ad))) (As := As.map (cv_ ad)) (b := ad o) (rest := st.map (cv_ ad)) ⟨hx, hb, hml, hown, hts9⟩ (hC l D cy ad H.size _ rfl) (cwI n hts9 (gin_ (ws := []) (fun _ z => absurd z List.not_mem_nil) hcode) rfl hrm.1 hrm.2 (hts _ (hw _ (by simp))) (hts _ (hw _ (by simp))) (hts _ (hw _ (by simp))) hnm9 hd1 hroom) ⟨pc_blind, fun U hU hW => ⟨rfl, pc_next hG had hP hD hS hA hU hW⟩⟩ rfl (by rw [List.length_map]; exact hn) hl.1 (by show ((As.reverse ++ vR o :: st).map (cv_ ad)) = (As.map (cv_ ad)).reverse ++ .ref (ad o) :: st.map (cv_ ad); rw [List.map_append, List.map_reverse]; rfl) (lv_room (by rw [st_cat]; exact hcat)) hd hf
  exact aft3 (own := o1) (cc := c1) hr hA had hnn hD hS hl hlo hso kk
theorem TT_callIN (hK : TOk K own cc nL ret rm nn) {y : MethodName} {bytes : ByteArray} {maxL : Nat} {rmc : Room} {w1 : Ly_} {mc ms index n : Nat} {As : List PV_} {Post : Option PV_ → Hp_ → Prop} {o : Nat} (hC : Ctr y bytes maxL none rmc w w1 mc ms (vR o :: As) h Post) {host : String} (hrm : rmc.cells = mc ∧ rmc.slots = ms) (hroom : rmc.frames + 1 ≤ rm.frames ∧ 8 + (maxL + 11) + rmc.locals ≤ rm.locals) (hcode : Cond.code y bytes maxL none ∈ lw_good) (hd1 : y.cls ≠ "java/lang/invoke/MethodHandle" ∧ y.cls ≠ "java/lang/invoke/VarHandle" ∧ (parseMethodDescriptor y.desc).map (fun d => d.parameters.length) = some n) (hnm9 : y.name = "<init>") (hlk9 : Cond.methodLinkNest own index y host ∈ lw_nest) (hw : ∀ w ∈ [Cond.instanceMethod y, .initialized y.cls], w ∈ lw_good) (hn : As.length = n) (hnn : nn ≤ w.1) (hlo : lv.all (fun q => pok w.1 q.2) = true) (hso : st.all (pok w.1) = true) (hcat : (st.map pcat).sum ≤ 8) (hf : kc + mc ≤ rm.cells ∧ ks + ms ≤ rm.slots) (hd : decode cc pc = .ok (.invokespecial index, 3)) (kk : ∀ (r : Option PV_) (h' : Hp_), Post r h' → TT K w1 (kc + mc) (ks + ms) (pc + 3) lv (r.toList ++ st) h') : TT K w kc ks pc lv (As.reverse ++ vR o :: st) h := by
  obtain ⟨⟨p, l, e, R, s, m, args, below, meth, c, Q⟩, ⟨o1, c1, n1, D, cy, A, n0, ad0⟩⟩ := K
  obtain ⟨rfl, rfl, rfl, hx, hb, hml, hown, hr, hlk, rfl, ⟨y9, b9, r9, hts9⟩, hG, hA, rfl⟩ := hK
  have hts : ∀ w ∈ lw_good, w.before args s = true := fun w hw => hts9 w (List.mem_cons_of_mem _ hw)
  intro ad H locs ls had hP hD hS hl
  have hr := va_runIN (l := l) (e := e) (below := below) (meth := meth) (locs := locs) (cells := kc) (slots := ks) (g := F0 m pc ls ((As.reverse ++ vR o :: st).map (cv_ ad))) (As := As.map (cv_ ad)) (b := ad o) (rest := st.map (cv_ ad)) ⟨hx, hb, hml, hown, hts9⟩ (hC l D cy ad H.size _ rfl) ⟨va_cnB n hts9 (gin_ (ws := []) (fun _ z => absurd z List.not_mem_nil) hcode) rfl hrm.1 hrm.2 (hG.2.1 _ hlk9) (hts _ (hw _ (by simp))) hd1 hroom, hnm9, hts _ (hw _ (by simp))⟩ ⟨pc_blind, fun U hU hW => ⟨rfl, pc_next hG had hP hD hS hA hU hW⟩⟩ rfl (by rw [List.length_map]; exact hn) hl.1 (by show ((As.reverse ++ vR o :: st).map (cv_ ad)) = (As.map (cv_ ad)).reverse ++ .ref (ad o) :: st.map (cv_ ad); rw [List.map_append, List.map_reverse]; rfl) (lv_room (by rw [st_cat]; exact hcat)) hd hf
  exact aft3 (own := o1) (cc := c1) hr hA had hnn hD hS hl hlo hso kk
theorem TT_callF (hK : TOk K own cc nL ret rm nn) {y : MethodName} {bytes : ByteArray} {maxL : Nat} {rt : Option FieldType} {rmc : Room} {w1 : Ly_} {mc ms index n : Nat} {As : List PV_} {Post : Option PV_ → Hp_ → Prop} {C : String} {T : u_T} {N ci o : Nat} (hC : Ctr y bytes maxL rt rmc w w1 mc ms (vR o :: As) h Post) (hcl : classes[ci]? = some (C, T, N)) (hl12 : ci < 12) (ho : o < w.1) (hs : (sh o).1 = ci) {x : MethodName} {count : Nat} (hrm : rmc.cells = mc ∧ rmc.slots = ms) (hroom : rmc.frames + 1 ≤ rm.frames ∧ 8 + (maxL + 11) + rmc.locals ≤ rm.locals) (hcode : Cond.code y bytes maxL rt ∈ lw_good) (hFw : ∀ {D : va_G} {cy : Nat → ClassId} {A : Nat → Prop} {ad : Nat → Nat} {U : State}, GW_ D cy A ad U → va_Fw C x y U) (hd1 : x.cls ≠ "java/lang/invoke/MethodHandle" ∧ x.cls ≠ "java/lang/invoke/VarHandle" ∧ (parseMethodDescriptor x.desc).map (fun d => d.parameters.length) = some n) (hw : ∀ w ∈ [Cond.methodLink own index x, .selects C x y, .instanceMethod y, .initialized y.cls], w ∈ lw_good) (hn : As.length = n) (hnn : nn ≤ w.1) (hlo : lv.all (fun q => pok w.1 q.2) = true) (hso : st.all (pok w.1) = true) (hcat : (st.map pcat).sum ≤ 8) (hf : kc + mc ≤ rm.cells ∧ ks + ms ≤ rm.slots) (hd : decode cc pc = .ok (.invokeinterface index count, 5)) (kk : ∀ (r : Option PV_) (h' : Hp_), Post r h' → TT K w1 (kc + mc) (ks + ms) (pc + 5) lv (r.toList ++ st) h') : TT K w kc ks pc lv (As.reverse ++ vR o :: st) h := by
  obtain ⟨⟨p, l, e, R, s, m, args, below, meth, c, Q⟩, ⟨o1, c1, n1, D, cy, A, n0, ad0⟩⟩ := K
  obtain ⟨rfl, rfl, rfl, hx, hb, hml, hown, hr, hlk, rfl, ⟨y9, b9, r9, hts9⟩, hG, hA, rfl⟩ := hK
  have hts : ∀ w ∈ lw_good, w.before args s = true := fun w hw => hts9 w (List.mem_cons_of_mem _ hw)
  intro ad H locs ls had hP hD hS hl
  have he := wl_get (cy := cy) (ad := ad) (h := h) ho
  rw [ce_obj hs hl12] at he
  have hr := va_runF (l := l) (e := e) (count := count) (below := below) (meth := meth) (locs := locs) (cells := kc) (slots := ks) (g := F0 m pc ls ((As.reverse ++ vR o :: st).map (cv_ ad))) (As := As.map (cv_ ad)) (rest := st.map (cv_ ad)) (hG.1.1 ci _ hcl).2 ⟨hx, hb, hml, hown, hts9⟩ (hC l D cy ad H.size _ rfl) (va_cwF n hts9 (gin_ hw hcode) rfl hrm.1 hrm.2 (hFw hG) hd1 hroom) ⟨pc_blind, va_recv hG.1 hP hcl he, fun U hU hW => ⟨rfl, pc_next hG had hP hD hS hA hU hW⟩⟩ rfl (by rw [List.length_map]; exact hn) hl.1 (by show ((As.reverse ++ vR o :: st).map (cv_ ad)) = (As.map (cv_ ad)).reverse ++ .ref (ad o) :: st.map (cv_ ad); rw [List.map_append, List.map_reverse]; rfl) (lv_room (by rw [st_cat]; exact hcat)) hd hf
  exact aft5 (own := o1) (cc := c1) hr hA had hnn hD hS hl hlo hso kk
theorem TT_mmax (hK : TOk K own cc nL ret rm nn) {a b : Int} {index : Nat} (ha : ir_ a) (hb0 : ir_ b) (hw : ∀ w ∈ [Cond.methodLink own index Lib.Math.max.name, .static Lib.Math.max.name, .initialized "java/lang/Math", .code Lib.Math.max.name Lib.Math.max.code 2 (some .int)], w ∈ lw_good) (hfr : 1 ≤ rm.frames) (hlo : (st.map pcat).sum + 13 ≤ rm.locals) (hf : kc ≤ rm.cells ∧ ks ≤ rm.slots) (hd : decode cc pc = .ok (.invokestatic index, 3)) (kk : TT K w kc ks (pc + 3) lv (vI (max a b) :: st) h) : TT K w kc ks pc lv (vI b :: vI a :: st) h := by
  obtain ⟨⟨p, l, e, R, s, m, args, below, meth, c, Q⟩, ⟨o1, c1, n1, D, cy, A, n0, ad0⟩⟩ := K
  obtain ⟨rfl, rfl, rfl, hx, hb, hml, hown, hr, hlk, rfl, ⟨y9, b9, r9, hts9⟩, hG, hA, rfl⟩ := hK
  have hts : ∀ w ∈ lw_good, w.before args s = true := fun w hw => hts9 w (List.mem_cons_of_mem _ hw)
  intro ad H locs ls had hP hD hS hl
  refine va_mmax hx hb (hml.trans hl.1.symm) hown (hts _ (hw _ (by simp))) (hts _ (hw _ (by simp))) (hts _ (hw _ (by simp))) (hts _ (hw _ (by simp))) hfr (by rw [st_cat]; exact hlo) hf.1 hf.2 hd ?_
  rw [show (if Int32.ofInt a < Int32.ofInt b then Int32.ofInt b else Int32.ofInt a) = Int32.ofInt (max a b) by
    by_cases q : a < b
    · rw [if_pos ((ir_lti ha hb0).mpr q), Int.max_eq_right (by omega)]
    · rw [if_neg (fun z => q ((ir_lti ha hb0).mp z)), Int.max_eq_left (by omega)]]
  exact kk ad H locs ls had hP hD hS hl
theorem TT_mmin (hK : TOk K own cc nL ret rm nn) {a b : Int} {index : Nat} (ha : ir_ a) (hb0 : ir_ b) (hw : ∀ w ∈ [Cond.methodLink own index Lib.Math.min.name, .static Lib.Math.min.name, .initialized "java/lang/Math", .code Lib.Math.min.name Lib.Math.min.code 2 (some .int)], w ∈ lw_good) (hfr : 1 ≤ rm.frames) (hlo : (st.map pcat).sum + 13 ≤ rm.locals) (hf : kc ≤ rm.cells ∧ ks ≤ rm.slots) (hd : decode cc pc = .ok (.invokestatic index, 3)) (kk : TT K w kc ks (pc + 3) lv (vI (min a b) :: st) h) : TT K w kc ks pc lv (vI b :: vI a :: st) h := by
  obtain ⟨⟨p, l, e, R, s, m, args, below, meth, c, Q⟩, ⟨o1, c1, n1, D, cy, A, n0, ad0⟩⟩ := K
  obtain ⟨rfl, rfl, rfl, hx, hb, hml, hown, hr, hlk, rfl, ⟨y9, b9, r9, hts9⟩, hG, hA, rfl⟩ := hK
  have hts : ∀ w ∈ lw_good, w.before args s = true := fun w hw => hts9 w (List.mem_cons_of_mem _ hw)
  intro ad H locs ls had hP hD hS hl
  refine va_mmin hx hb (hml.trans hl.1.symm) hown (hts _ (hw _ (by simp))) (hts _ (hw _ (by simp))) (hts _ (hw _ (by simp))) (hts _ (hw _ (by simp))) hfr (by rw [st_cat]; exact hlo) hf.1 hf.2 hd ?_
  rw [show (if Int32.ofInt b < Int32.ofInt a then Int32.ofInt b else Int32.ofInt a) = Int32.ofInt (min a b) by
    by_cases q : b < a
    · rw [if_pos ((ir_lti hb0 ha).mpr q), Int.min_eq_right (by omega)]
    · rw [if_neg (fun z => q ((ir_lti hb0 ha).mp z)), Int.min_eq_left (by omega)]]
  exact kk ad H locs ls had hP hD hS hl
theorem TT_mabs (hK : TOk K own cc nL ret rm nn) {a : Int} {index : Nat} (ha : ir_ a) (hw : ∀ w ∈ [Cond.methodLink own index Lib.Math.abs.name, .static Lib.Math.abs.name, .initialized "java/lang/Math", .code Lib.Math.abs.name Lib.Math.abs.code 1 (some .int)], w ∈ lw_good) (hfr : 1 ≤ rm.frames) (hlo : (st.map pcat).sum + 13 ≤ rm.locals) (hf : kc ≤ rm.cells ∧ ks ≤ rm.slots) (hd : decode cc pc = .ok (.invokestatic index, 3)) (kk : TT K w kc ks (pc + 3) lv (vI (a.natAbs : Int) :: st) h) : TT K w kc ks pc lv (vI a :: st) h := by
  obtain ⟨⟨p, l, e, R, s, m, args, below, meth, c, Q⟩, ⟨o1, c1, n1, D, cy, A, n0, ad0⟩⟩ := K
  obtain ⟨rfl, rfl, rfl, hx, hb, hml, hown, hr, hlk, rfl, ⟨y9, b9, r9, hts9⟩, hG, hA, rfl⟩ := hK
  have hts : ∀ w ∈ lw_good, w.before args s = true := fun w hw => hts9 w (List.mem_cons_of_mem _ hw)
  intro ad H locs ls had hP hD hS hl
  refine va_mabs hx hb (hml.trans hl.1.symm) hown (hts _ (hw _ (by simp))) (hts _ (hw _ (by simp))) (hts _ (hw _ (by simp))) (hts _ (hw _ (by simp))) hfr (by rw [st_cat]; exact hlo) hf.1 hf.2 hd ?_
  rw [show (if 0 ≤ Int32.ofInt a then Int32.ofInt a else 0 - Int32.ofInt a) = Int32.ofInt (a.natAbs : Int) by
    by_cases q : 0 ≤ a
    · rw [if_pos (by rw [← iz_0]; exact (ir_lei ir_0 ha).mpr q)]; congr 1; omega
    · rw [if_neg (fun z => q (by rw [← iz_0] at z; exact (ir_lei ir_0 ha).mp z)), ← iz_0, ← Int32.ofInt_sub]; congr 1; omega]
  exact kk ad H locs ls had hP hD hS hl
end TTD

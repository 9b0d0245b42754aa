/-! methods that throw, and the methods of the law that catch; what the world holds for them -/
def IAE_ : String := "java/lang/IllegalArgumentException"
def xNames : List String := ["java/lang/RuntimeException", "java/lang/Exception"]
def k_ot : Cond → Bool
  | .castable .. => true
  | .declares _ => true
  | _ => false
def lw_ot : List Cond := lw_tbl.filter k_ot
theorem t_at1 : (vx_atS RX11 52 IAE_ xNames).all (fun w => goodWord w || k_ot w) = true := by decide +kernel
theorem t_at2 : (vx_atS RX11 52 IAE_ xNames).all (fun w => decide (w ∈ tables_1)) = true := by decide +kernel
theorem t_at3 : (Cond.classLink RX11 48 IAE_ :: Cond.initialized IAE_ :: vx_atS RX11 52 IAE_ xNames).all vx_ot = true := by decide +kernel
theorem tb_m {w : Cond} (h : w ∈ tables_1) : w ∈ lw_tbl := List.mem_append_right _ h
def sxI (i : Nat) : Nat := [50, 59, 75, 106, 112].getD i 0
def sxT (i : Nat) : String := ["a side is 1 to 8", "no such pixel, or not 0 to 255", "levels are 0 to 3, layers 1 to 3", "there are not so many bytes, or too few", "the stream is malformed"].getD i ""
def GX_ (A : Nat → Prop) (U : State) : Prop :=
  vx_Zq Bundle.tN "UNASSIGNED_STACK" Bundle.steD A U U.heap ∧ vx_Zq Bundle.tN "SUPPRESSED_SENTINEL" Bundle.listD A U U.heap ∧ (∀ w ∈ lw_ot, va_Nw w U) ∧ ∀ i, i < 5 → ∃ sa, vk_R RX11 (sxI i) (sxT i) sa U
theorem GX_.next {A A' : Nat → Prop} {s U : State} {H : Heap} (h : GX_ A s) (hU : U.heap = H) (hW : s.WarmedH U.vm) (hk : ∀ q : Nat, q < s.heap.size → ¬ A q → H[q]? = s.heap[q]?) (hA : ∀ q, A' q → A q) : GX_ A' U := by
  obtain ⟨h1, h2, h3, h4⟩ := h
  have hal := hW.alike
  subst hU
  refine ⟨((h1.moved hal).kept hk).narrow hA, ((h2.moved hal).kept hk).narrow hA, fun w hw => ?_, fun i hi => ?_⟩
  · have hn := (List.mem_filter.mp hw).2
    have h5 := h3 w hw
    cases w <;> first | (exact va_Nw.warmC hW h5) | (exact va_Nw.warmD hW h5) | (simp [k_ot] at hn)
  · obtain ⟨sa, h⟩ := h4 i hi
    exact ⟨sa, vk_R.warm hW h⟩
theorem GX_.calling {A : Nat → Prop} {U : State} {g : JFrame} {mk : MethodId} {a : Array Value} (h : GX_ A U) : GX_ A (U.calling g mk a) := by
  obtain ⟨h1, h2, h3, h4⟩ := h
  have hal : U.vm.Alike (U.calling g mk a).vm := Vm.Alike.refl U.vm
  refine ⟨h1.moved hal, h2.moved hal, fun w hw => ?_, fun i hi => ?_⟩
  · have hn := (List.mem_filter.mp hw).2
    refine va_Nw.same (u := U) ?_ (rfl : U.vm = (U.calling g mk a).vm) (h3 w hw)
    cases w <;> first | rfl | (simp [k_ot] at hn)
  · obtain ⟨sa, h⟩ := h4 i hi
    exact ⟨sa, vk_R.same rfl h⟩
/-- a callee that throws, always -/
def XQ_ (D : va_G) (cy : Nat → ClassId) (A : Nat → Prop) (n0 : Nat) (ad0 : Nat → Nat) (w : Ly_) (PostX : Hp_ → Prop) : String → State → State → Prop := fun E st t =>
  E = IAE_ ∧ (∃ (h' : Hp_) (ad' : Nat → Nat), PostX h' ∧ (∀ o, o < n0 ∨ 1000 ≤ o → ad' o = ad0 o) ∧ va_P D classes (wl cy w ad' h') t.heap ∧ va_D A (wl cy w ad' h')) ∧ va_F A st t
abbrev PcX (D : va_G) (cy : Nat → ClassId) (A : Nat → Prop) (ad0 : Nat → Nat) (sz : Nat) (w0 : Ly_) (h : Hp_) (av : List PV_) : Array Value → State → Prop :=
  va_Pc (av.map (cv_ ad0)) (fun U => U.heap.size = sz ∧ (GW_ D cy A ad0 U ∧ GX_ A U) ∧ va_P D classes (wl cy w0 ad0 h) U.heap ∧ va_D A (wl cy w0 ad0 h))
def CtrX (y : MethodName) (cc : ByteArray) (nL : Nat) (ret : Option FieldType) (rm : Room) (w0 : Ly_) (mc ms : Nat) (av : List PV_) (h : Hp_) (PostX : Hp_ → Prop) : Prop :=
  ∀ (l : Launch) (D : va_G) (cy : Nat → ClassId) (ad0 : Nat → Nat) (sz : Nat) (A : Nat → Prop), l.stackTraces = false → A = AA_ w0 ad0 sz →
    vx_Met l y (Cond.code y cc nL ret :: lw_good) rm (PcX D cy A ad0 sz w0 h av) (fun _ _ _ _ => False) (XQ_ D cy A w0.1 ad0 w0 PostX) mc ms A
def TXQ (K : TC_) (w0 : Ly_) (mc ms : Nat) (PostX : Hp_ → Prop) : Prop := match K with
  | ((_, l, _, R, s, _, args, below, _, c, Q), (_, _, _, D, cy, A, n0, ad0)) => Q = vx_MQ below (fun _ _ _ _ => False) (XQ_ D cy A n0 ad0 w0 PostX) args s mc ms A ∧ GX_ A s ∧ l.stackTraces = false ∧ (∀ x ∈ c.exceptionTable.toList, False) ∧ mc ≤ R.cells ∧ ms ≤ R.slots
theorem CtrX_of {y : MethodName} {cc : ByteArray} {nL : Nat} {ret : Option FieldType} {rm : Room} {w0 : Ly_} {mc ms : Nat} {av : List PV_} {h : Hp_} {PostX : Hp_ → Prop} (hy : plainName y.cls = true) (hn : (av.map pcat).sum ≤ nL) (hm : mc ≤ rm.cells ∧ ms ≤ rm.slots)
    (body : ∀ K : TC_, TOk K y.cls cc nL ret rm w0.1 → TXQ K w0 mc ms PostX → TT K w0 0 0 0 (lvA 0 av) [] h) : CtrX y cc nL ret rm w0 mc ms av h PostX := by
  intro l D cy ad0 sz A hl9 hA
  refine vx_ofW (cc := cc) (maxL := nL) (ret := ret) hy rfl ?_
  intro p e s m args below meth c s₁ B hml htab hv
  obtain ⟨rfl, hsz, ⟨hG, hGX⟩, hP, hD⟩ := hv
  have hx := B.exec
  have hb := B.bytes
  have hr := B.returns
  have hts := atoms_spec (ws := Cond.code y cc nL ret :: lw_good) B.pre
  have hown : s.vm.findClass y.cls = some m.cls := findClass_of_methodNamed B.named
  have hlocks := B.notSynchronized
  have hAl : ∀ q : Nat, s.heap.size ≤ q → A q := fun q hq => by rw [hA]; exact Or.inr (by rw [← hsz]; exact hq)
  have hl := lv_entry (av.map (cv_ ad0)) (n := nL) (by rw [lgA_len]; exact hn)
  rw [lvA_map] at hl
  rw [lg_entry_eq]
  have K1 := body ((p, l, e, (headSpec (Cond.code y cc nL ret :: lw_good) rm).room, s, m, (av.map (cv_ ad0)).toArray, below, meth, c, vx_MQ below (fun _ _ _ _ => False) (XQ_ D cy A w0.1 ad0 w0 PostX) (av.map (cv_ ad0)).toArray s mc ms A), (y.cls, cc, nL, D, cy, A, w0.1, ad0))
    ⟨rfl, rfl, rfl, hx, hb, hml, hown, hr, hlocks, rfl, ⟨_, _, _, hts⟩, hG, hAl, rfl⟩ ⟨rfl, hGX, hl9, htab, hm.1, hm.2⟩
  exact K1 ad0 s.heap [] _ (fun _ _ => rfl) hP hD va_S.rf hl
section TTX
variable {K : TC_} {own : String} {cc : ByteArray} {nL : Nat} {ret : Option FieldType} {rm : Room} {nn : Nat} {w : Ly_} {kc ks pc : Nat} {lv : List (Nat × PV_)} {st : List PV_} {h : Hp_}
theorem TT_throw (hK : TOk K RX11 cc nL ret rm nn) {PostX : Hp_ → Prop} (hX : TXQ K w 1 6 PostX) (i : Nat) (hi : i < 5) (hp : PostX h) (hcat : (st.map pcat).sum ≤ 8) (hrm : 6 ≤ rm.frames ∧ 100 ≤ rm.locals)
    (d0 : decode cc pc = .ok (.new 48, 3)) (d3 : decode cc (pc + 3) = .ok (.dup, 1)) (d4 : decode cc (pc + 4) = .ok (.ldc (sxI i), 2)) (d6 : decode cc (pc + 6) = .ok (.invokespecial 52, 3)) (d9 : decode cc (pc + 9) = .ok (.athrow, 1)) : TT K w 0 0 pc lv st h := by
  obtain ⟨⟨p, l, e, R, s, m, args, below, meth, c, Q⟩, ⟨o1, c1, n1, D, cy, A, n0, ad0⟩⟩ := K
  obtain ⟨rfl, rfl, rfl, hx, hb, hml, hown, hr, hlk, rfl, ⟨y9, b9, r9, hts9⟩, hG, hA, hnn⟩ := hK
  have hts : ∀ w ∈ lw_good, w.before args s = true := fun w hw => hts9 w (List.mem_cons_of_mem _ hw)
  obtain ⟨rfl, ⟨z1, z2, z3, z4⟩, hl9, htab, hc1, hs1⟩ := hX
  intro ad H locs ls had hP hD hS hl
  obtain ⟨sa, hsa⟩ := z4 i hi
  refine vx_throwS hx hb hl9 (names := xNames) (A := A) (cls := IAE_) (ik := 48) (ic := 52) hown (by decide +kernel) (by decide +kernel) (hts _ (gd_ (tb_3 10 rfl) rfl)) (hts _ (gd_ (tb_1 17 rfl) rfl)) hsa (fun w hw => ?_) (fun w hw => List.all_eq_true.mp t_at3 w hw) z1 z2 hS (hl.1.trans hml.symm) d0 d3 d4 d6 d9 (fun x hx => absurd (htab x hx) id) (by show 2 + 3 < _; omega) (by rw [st_cat]; show _ + (13 * (2 + 1) + 43) ≤ _; omega) (by omega) (by omega) hlk (fun t hal hsz heq => ?_) hS.2.2 (Nat.le_refl _) (Nat.le_refl _)
  · have h2 := List.all_eq_true.mp t_at2 w hw
    rw [decide_eq_true_eq] at h2
    have h3 := List.all_eq_true.mp t_at1 w hw
    by_cases hg : goodWord w = true
    · exact hts w (gd_ (tb_m h2) hg)
    · have h4 : k_ot w = true := by
        cases hgw : goodWord w
        · rw [hgw, Bool.false_or] at h3; exact h3
        · exact absurd hgw hg
      refine va_Nw.use ?_ (z3 w (List.mem_filter.mpr ⟨tb_m h2, h4⟩))
      cases w <;> first | rfl | (simp [k_ot] at h4)
  · refine ⟨rfl, ⟨h, ad, hp, had, hP.kept (fun k x hx => heq x.1 ((hP k x hx).lt)), hD⟩, Nat.le_trans hS.1 hsz, fun q h1 h2 => ?_⟩
    rw [heq q (Nat.lt_of_lt_of_le h1 hS.1)]
    exact hS.2.1 q h1 h2
end TTX
theorem pcX_blind {D : va_G} {cy : Nat → ClassId} {A : Nat → Prop} {ad : Nat → Nat} {av : List PV_} {sz : Nat} {w : Ly_} {h : Hp_} : FrameBlind (PcX D cy A ad sz w h av) :=
  fun a U g mk q => ⟨q.1, q.2.1, ⟨q.2.2.1.1.calling, q.2.2.1.2.calling⟩, q.2.2.2.1, q.2.2.2.2⟩
theorem pcX_next {D : va_G} {cy : Nat → ClassId} {A : Nat → Prop} {ad ad0 : Nat → Nat} {n0 : Nat} {s U : State} {H : Heap} {locs : List Loc} {w : Ly_} {h : Hp_} (hG : GW_ D cy A ad0 s) (hGX : GX_ A s) (had : ∀ o, o < n0 ∨ 1000 ≤ o → ad o = ad0 o) (hP : va_P D classes (wl cy w ad h) H) (hD : va_D A (wl cy w ad h)) (hS : va_S A s.heap H locs) (hA : ∀ q, s.heap.size ≤ q → A q) (hU : U.heap = H) (hW : s.WarmedH U.vm) :
    U.heap.size = H.size ∧ (GW_ D cy (AA_ w ad H.size) ad U ∧ GX_ (AA_ w ad H.size) U) ∧ va_P D classes (wl cy w ad h) U.heap ∧ va_D (AA_ w ad H.size) (wl cy w ad h) :=
  ⟨by rw [hU], ⟨hG.next hU hW hS.2.1 (AA_sub hD hS hA) (fun o ho => had o (Or.inr ho)), hGX.next hU hW hS.2.1 (AA_sub hD hS hA)⟩, by rw [hU]; exact hP, wl_D hD⟩
/-- a method with a table of its own, in whose frame what throws is caught -/
def TH (K : TC_) (hh : List (Nat × Nat × Nat × Nat)) : Prop := match K with
  | ((_, l, _, _, s, _, _, _, _, c, _), (_, _, _, _, _, A, _, _)) => GX_ A s ∧ l.stackTraces = false ∧ c.exceptionTable.toList = tableOf hh
def CtrH (y : MethodName) (cc : ByteArray) (nL : Nat) (ret : Option FieldType) (hh : List (Nat × Nat × Nat × Nat)) (rm : Room) (w0 w1 : Ly_) (mc ms : Nat) (av : List PV_) (h : Hp_) (Post : Option PV_ → Hp_ → Prop) : Prop :=
  ∀ (l : Launch) (D : va_G) (cy : Nat → ClassId) (ad0 : Nat → Nat) (sz : Nat) (A : Nat → Prop), l.stackTraces = false → A = AA_ w0 ad0 sz →
    Met l y (Cond.codeWith y cc nL ret hh :: lw_good) rm (PcX D cy A ad0 sz w0 h av) (QC_ D cy A w0.1 ad0 w1 Post) mc ms A
theorem CtrH_of {y y2 : MethodName} {cc b2 : ByteArray} {nL : Nat} {ret r2 : Option FieldType} {hh : List (Nat × Nat × Nat × Nat)} {rm : Room} {w0 w1 : Ly_} {mc ms : Nat} {av : List PV_} {h : Hp_} {Post : Option PV_ → Hp_ → Prop} (hy : plainName y.cls = true) (h2 : Cond.code y2 b2 nL r2 ∈ lw_good) (hn : (av.map pcat).sum ≤ nL) (hm : mc ≤ rm.cells ∧ ms ≤ rm.slots)
    (body : ∀ K : TC_, TOk K y.cls cc nL ret rm w0.1 → TQ K w1 mc ms Post → TH K hh → TT K w0 0 0 0 (lvA 0 av) [] h) : CtrH y cc nL ret hh rm w0 w1 mc ms av h Post := by
  intro l D cy ad0 sz A hl9 hA
  show MetFree l y _ _ _ _
  refine MetFree.of_bodyS (code := cc) (maxLocals := nL) (ret := ret) hy ?_ ?_
  · intro args s m h hn
    obtain ⟨m9, meth, c, hn9, h1, h2, h3, h4, -, h5, h6, -⟩ := Cond.codeWith_spec (atoms_spec (ws := Cond.codeWith y cc nL ret hh :: lw_good) h _ List.mem_cons_self)
    cases hn.symm.trans hn9
    exact ⟨meth, c, h1, h2, h3, h4, h5, h6⟩
  · intro p e s m args below meth c s₁ B hml hv _
    have hh0 : s₁.heap = s.heap := by rw [B.state]; rfl
    obtain ⟨rfl, hsz, ⟨hG, hGX⟩, hP, hD⟩ := hv
    have hx := B.exec
    have hb := B.bytes
    have hr := B.returns
    have hts := atoms_spec (ws := Cond.codeWith y cc nL ret hh :: lw_good) B.pre
    have htab := vx_table (x := y) B (hts _ List.mem_cons_self)
    have hts2 : ∀ w ∈ (Cond.code y2 b2 nL r2 :: lw_good), w.before (av.map (cv_ ad0)).toArray s = true := fun w hw => (List.mem_cons.mp hw).elim (fun e => by rw [e]; exact hts _ (List.mem_cons_of_mem _ h2)) (fun q => hts _ (List.mem_cons_of_mem _ q))
    have hown : s.vm.findClass y.cls = some m.cls := findClass_of_methodNamed B.named
    have hlocks := B.notSynchronized
    have hAl : ∀ q : Nat, s.heap.size ≤ q → A q := fun q hq => by rw [hA]; exact Or.inr (by rw [← hsz]; exact hq)
    have hl := lv_entry (av.map (cv_ ad0)) (n := nL) (by rw [lgA_len]; exact hn)
    rw [lvA_map] at hl
    have K1 := body ((p, l, e, (headSpec (Cond.codeWith y cc nL ret hh :: lw_good) rm).room, s, m, (av.map (cv_ ad0)).toArray, below, meth, c, MQ below (QC_ D cy A w0.1 ad0 w1 Post) (av.map (cv_ ad0)).toArray s mc ms A), (y.cls, cc, nL, D, cy, A, w0.1, ad0))
      ⟨rfl, rfl, rfl, hx, hb, hml, hown, hr, hlocks, rfl, ⟨_, _, _, hts2⟩, hG, hAl, rfl⟩ ⟨rfl, hm.1, hm.2⟩ ⟨hGX, hl9, htab⟩
    have K2 : W p l e (headSpec (Cond.codeWith y cc nL ret hh :: lw_good) rm).room s m (av.map (cv_ ad0)).toArray below meth c s.heap [] 0 0 (MQ below (QC_ D cy A w0.1 ad0 w1 Post) (av.map (cv_ ad0)).toArray s mc ms A) (entryFrame m (av.map (cv_ ad0)).toArray nL) := by
      rw [lg_entry_eq]
      exact K1 ad0 s.heap [] _ (fun _ _ => rfl) hP hD va_S.rf hl
    obtain ⟨t, a1, o, b1, b2, b3⟩ := K2 s₁ hh0 (Stand.of_body B)
    exact ⟨t, o, a1, b1, b2, b3⟩
theorem ginH {y2 y' : MethodName} {b2 b' : ByteArray} {n n' : Nat} {r2 r' : Option FieldType} {hh : List (Nat × Nat × Nat × Nat)} {ws : List Cond} (hws : ∀ w ∈ ws, w ∈ lw_good) (hc : Cond.codeWith y' b' n' r' hh ∈ lw_good) : GoodIn (Cond.code y2 b2 n r2 :: lw_good) (ws ++ (Cond.codeWith y' b' n' r' hh :: lw_good)) := by
  have key : ∀ w ∈ lw_good, w ∈ (Cond.code y2 b2 n r2 :: lw_good) ∧ ((w.onTables && w.keeps) = true ∨ ∃ ty, w = .arrayClass ty) := fun w h =>
    ⟨List.mem_cons_of_mem _ h, good_of_word (List.mem_filter.mp h).2⟩
  intro w hw
  rcases List.mem_append.mp hw with h | h
  · exact key w (hws w h)
  · rcases List.mem_cons.mp h with h | h
    · subst h; exact key _ hc
    · exact key w h
section TTY
variable {K : TC_} {own : String} {cc : ByteArray} {nL : Nat} {ret : Option FieldType} {rm : Room} {nn : Nat} {w : Ly_} {kc ks pc : Nat} {lv : List (Nat × PV_)} {st : List PV_} {h : Hp_}
theorem TT_callH {hh0 : List (Nat × Nat × Nat × Nat)} (hK : TOk K own cc nL ret rm nn) (hGX : TH K hh0) {hh : List (Nat × Nat × Nat × Nat)} {y : MethodName} {bytes : ByteArray} {maxL : Nat} {rt : Option FieldType} {rmc : Room} {w1 : Ly_} {mc ms index n : Nat} {As : List PV_} {Post : Option PV_ → Hp_ → Prop} (hC : CtrH y bytes maxL rt hh rmc w w1 mc ms As h Post) (hrm : rmc.cells = mc ∧ rmc.slots = ms) (hroom : rmc.frames + 1 ≤ rm.frames ∧ 8 + (maxL + 11) + rmc.locals ≤ rm.locals) (hcode : Cond.codeWith y bytes maxL rt hh ∈ lw_good) (hd1 : y.cls ≠ "java/lang/invoke/MethodHandle" ∧ y.cls ≠ "java/lang/invoke/VarHandle" ∧ (parseMethodDescriptor y.desc).map (fun d => d.parameters.length) = some n) (hw : ∀ w ∈ [Cond.methodLink own index y, .static y, .initialized y.cls], w ∈ lw_good) (hn : As.length = n) (hnn : nn ≤ w.1) (hlo : lv.all (fun q => pok w.1 q.2) = true) (hso : st.all (pok w.1) = true) (hcat : (st.map pcat).sum ≤ 8) (hf : kc + mc ≤ rm.cells ∧ ks + ms ≤ rm.slots) (hd : decode cc pc = .ok (.invokestatic index, 3)) (kk : ∀ (r : Option PV_) (h' : Hp_), Post r h' → TT K w1 (kc + mc) (ks + ms) (pc + 3) lv (r.toList ++ st) h') : TT K w kc ks pc lv (As.reverse ++ st) h := by
  obtain ⟨⟨p, l, e, R, s, m, args, below, meth, c, Q⟩, ⟨o1, c1, n1, D, cy, A, n0, ad0⟩⟩ := K
  obtain ⟨rfl, rfl, rfl, hx, hb, hml, hown, hr, hlk, rfl, ⟨y9, b9, r9, hts9⟩, hG, hA, rfl⟩ := hK
  obtain ⟨hGX, hl9, -⟩ := hGX
  have hts : ∀ w ∈ lw_good, w.before args s = true := fun w hw => hts9 w (List.mem_cons_of_mem _ hw)
  intro ad H locs ls had hP hD hS hl
  have hr := vx_runSW (l := l) (e := e) (below := below) (meth := meth) (locs := locs) (cells := kc) (slots := ks) (g := F0 m pc ls ((As.reverse ++ st).map (cv_ ad))) (As := As.map (cv_ ad)) (rest := st.map (cv_ ad)) ⟨hx, hb, hml, hown, hts9⟩ (hC l D cy ad H.size _ hl9 rfl) (vx_cwSW n hts9 (ginH hw hcode) rfl hrm.1 hrm.2 hd1 hroom) ⟨pcX_blind, fun U hU hW => ⟨rfl, pcX_next hG hGX had hP hD hS hA hU hW⟩⟩ rfl (by rw [List.length_map]; exact hn) hl.1 (by show ((As.reverse ++ st).map (cv_ ad)) = (As.map (cv_ ad)).reverse ++ st.map (cv_ ad); rw [List.map_append, List.map_reverse]) (lv_room (by rw [st_cat]; exact hcat)) hd hf
  exact aft3 (own := o1) (cc := c1) hr hA had hnn hD hS hl hlo hso kk
theorem TT_callVX {hh : List (Nat × Nat × Nat × Nat)} (hK : TOk K own cc nL ret rm nn) (hH : TH K hh) {y : MethodName} {bytes : ByteArray} {maxL : Nat} {rt : Option FieldType} {rmc : Room} {mc ms index n : Nat} {As : List PV_} {PostX : Hp_ → Prop} {C : String} {T : u_T} {N ci o : Nat} (hC : CtrX y bytes maxL rt rmc w mc ms (vR o :: As) h PostX) (hcl : classes[ci]? = some (C, T, N)) (hl12 : ci < 12) (ho : o < w.1) (hs : (sh o).1 = ci) (hrm : rmc.cells = mc ∧ rmc.slots = ms) (hroom : rmc.frames + 1 ≤ rm.frames ∧ 8 + (maxL + 11) + rmc.locals ≤ rm.locals) (hcode : Cond.code y bytes maxL rt ∈ lw_good) (hd1 : y.cls = C ∧ y.cls ≠ "java/lang/invoke/MethodHandle" ∧ y.cls ≠ "java/lang/invoke/VarHandle" ∧ (parseMethodDescriptor y.desc).map (fun d => d.parameters.length) = some n) (hw : ∀ w ∈ [Cond.methodLink own index y, .instanceMethod y, .selects C y y, .initialized C], w ∈ lw_good) (hn : As.length = n) (hnn : nn ≤ w.1) (hlo : lv.all (fun q => pok w.1 q.2) = true) (hcat : (st.map pcat).sum ≤ 8) (hf : kc + mc ≤ rm.cells ∧ ks + ms ≤ rm.slots) (hd : decode cc pc = .ok (.invokevirtual index, 3))
    (x : ExceptionTableEntry) (htab : tableOf hh = [x]) (hcov : covers x pc = true) (h0 : x.catchType ≠ 0) (hclink : Cond.classLink own x.catchType IAE_ ∈ lw_good) (hcast : Cond.castable IAE_ IAE_ ∈ lw_ot) {i ln : Nat} (hi : i < nL) (hd2 : (∃ k4 : Fin 4, (k4 : Nat) = i ∧ decode cc x.handlerPc = .ok (.astore_n k4, 1) ∧ ln = 1) ∨ (decode cc x.handlerPc = .ok (.astore i, 2) ∧ ln = 2))
    (kx : ∀ h' : Hp_, PostX h' → TT K w (kc + mc) (ks + ms) (x.handlerPc + ln) (lv.filter (lvf1 i)) [] h') : TT K w kc ks pc lv (As.reverse ++ vR o :: st) h := by
  obtain ⟨⟨p, l, e, R, s, m, args, below, meth, c, Q⟩, ⟨o1, c1, n1, D, cy, A, n0, ad0⟩⟩ := K
  obtain ⟨rfl, rfl, rfl, hx, hb, hml, hown, hr, hlk, rfl, ⟨y9, b9, r9, hts9⟩, hG, hA, rfl⟩ := hK
  obtain ⟨hGX, hl9, htabC⟩ := hH
  have hts : ∀ w ∈ lw_good, w.before args s = true := fun w hw => hts9 w (List.mem_cons_of_mem _ hw)
  intro ad H locs ls had hP hD hS hl
  have he := wl_get (cy := cy) (ad := ad) (h := h) ho
  rw [ce_obj hs hl12] at he
  have hr := vx_runV (l := l) (e := e) (below := below) (meth := meth) (locs := locs) (cells := kc) (slots := ks) (g := F0 m pc ls ((As.reverse ++ vR o :: st).map (cv_ ad))) (As := As.map (cv_ ad)) (rest := st.map (cv_ ad)) ⟨hx, hb, hml, hown, hts9⟩ (hC l D cy ad H.size _ hl9 rfl) (cwV n hts9 (gin_ hw hcode) rfl hrm.1 hrm.2 hd1 hroom) ⟨pcX_blind, va_recv hG.1 hP hcl he, fun U hU hW => ⟨rfl, pcX_next hG hGX had hP hD hS hA hU hW⟩⟩ rfl (by rw [List.length_map]; exact hn) hl.1 (by show ((As.reverse ++ vR o :: st).map (cv_ ad)) = (As.map (cv_ ad)).reverse ++ .ref (ad o) :: st.map (cv_ ad); rw [List.map_append, List.map_reverse]; rfl) (lv_room (by rw [st_cat]; exact hcat)) hd hf
  intro T9 hT X
  rcases hr T9 hT X with ⟨v, st₀, t, T', L, h1, X', hL, e1, e2, hq, stp⟩ | ⟨q, st₀, t, T', L, E, ce, h1, X', hL, e1, e2, hXC, hce, hcv, hclE, stp⟩
  · exact False.elim hq
  · obtain ⟨rfl, ⟨h', ad', hp, hag, hP', hD'⟩, hz, hk⟩ := hXC
    rw [h1] at hz hk
    have hsub := AA_sub hD hS hA
    have had' : ∀ o, o < n0 ∨ 1000 ≤ o → ad' o = ad0 o := fun o ho => by
      rw [hag o (ho.elim (fun q => Or.inl (Nat.lt_of_lt_of_le q hnn)) Or.inr)]
      exact had o ho
    have hS' : va_S A s.heap T'.heap (locs ++ L) := by
      refine ⟨Nat.le_trans hS.1 (by rw [e1]; exact hz), fun q h1 h2 => ?_, fun q hq => ?_⟩
      · rw [e1, hk q (Nat.lt_of_lt_of_le h1 hS.1) (fun z => h2 (hsub q z))]
        exact hS.2.1 q h1 h2
      · rcases List.mem_append.mp hq with z | z
        · exact hS.2.2 q z
        · exact hsub _ (hL q z)
    have hl2 : lv_has ls n1 (lv.map fun q => (q.1, cv_ ad' q.2)) := by rw [lv_map hag hlo]; exact hl
    have efl : (lv.map fun q => (q.1, cv_ ad' q.2)).filter (fun q => !(q.1 == i) && !(q.1 + 1 == i && q.2.category == 2)) = (lv.filter (lvf1 i)).map fun q => (q.1, cv_ ad' q.2) := by
      have := lvm_st1 ad' (lv := lv) (i := i) (v := vI 0) rfl
      exact (List.cons.inj this).2
    have fin : ∀ ls' : Array Slot, lv_has ls' n1 ((i, Value.ref q) :: (lv.map fun q => (q.1, cv_ ad' q.2)).filter (fun q => !(q.1 == i) && !(q.1 + 1 == i && q.2.category == 2))) → W p l e R s m args below meth c T'.heap (locs ++ L) (kc + mc) (ks + ms) Q (F0 m (x.handlerPc + ln) ls' []) := by
      intro ls' hl3
      rw [efl] at hl3
      exact kx h' hp ad' T'.heap (locs ++ L) ls' had' (by rw [e1]; exact hP') (hD'.weaken fun _ q _ z => hsub q.1 z) hS' ⟨hl3.1, hl3.2.1, fun q hq => hl3.2.2 q (List.mem_cons_of_mem _ hq)⟩
    have kh : W p l e R s m args below meth c T'.heap (locs ++ L) (kc + mc) (ks + ms) Q (F0 m x.handlerPc ls [.ref q]) := by
      rcases hd2 with ⟨k4, hi4, hda, rfl⟩ | ⟨hda, rfl⟩
      · exact lv_astore_n hx hb hda hi4 hl2 hi rfl fin
      · exact lv_astore hx hb hda hl2 hi rfl fin
    have kw : vx_W p l e R s m args below meth c T'.heap (locs ++ L) (kc + mc) (ks + ms) Q (F0 m pc ls (st.map (cv_ ad))) q :=
      vx_catch hown [] x [] (by rw [htabC, htab]; rfl) (fun z hz => by cases hz) hcov h0 (hts _ hclink) (va_Nw.use rfl (hGX.2.2.1 _ hcast)) (by rw [e1]; exact hce) hcv hclE kh
    obtain ⟨t2, a1, b1⟩ := kw T' rfl X'
    exact ⟨t2, stp.trans a1, b1⟩
end TTY

/-! methods that return or throw -/
def rmB : Room := { frames := 8, cells := 1, slots := 6, locals := 330 }
def CtrB (y : MethodName) (cc : ByteArray) (nL : Nat) (ret : Option FieldType) (rm : Room) (w0 : Ly_) (mc ms : Nat) (av : List PV_) (h : Hp_) (Post : Option PV_ → Hp_ → Prop) (PostX : Hp_ → Prop) : Prop :=
  ∀ (l : Launch) (D : va_G) (cy : Nat → ClassId) (ad0 : Nat → Nat) (sz : Nat) (A : Nat → Prop), l.stackTraces = false → A = AA_ w0 ad0 sz →
    vx_Met l y (Cond.code y cc nL ret :: lw_good) rm (PcX D cy A ad0 sz w0 h av) (QC_ D cy A w0.1 ad0 w0 Post) (XQ_ D cy A w0.1 ad0 w0 PostX) mc ms A
def TQB (K : TC_) (w0 : Ly_) (mc ms : Nat) (Post : Option PV_ → Hp_ → Prop) (PostX : Hp_ → Prop) : Prop := match K with
  | ((_, l, _, R, s, _, args, below, _, c, Q), (_, _, _, D, cy, A, n0, ad0)) => Q = vx_MQ below (QC_ D cy A n0 ad0 w0 Post) (XQ_ D cy A n0 ad0 w0 PostX) args s mc ms A ∧ GX_ A s ∧ l.stackTraces = false ∧ (∀ x ∈ c.exceptionTable.toList, False) ∧ mc ≤ R.cells ∧ ms ≤ R.slots
theorem CtrB_of {y : MethodName} {cc : ByteArray} {nL : Nat} {ret : Option FieldType} {rm : Room} {w0 : Ly_} {mc ms : Nat} {av : List PV_} {h : Hp_} {Post : Option PV_ → Hp_ → Prop} {PostX : Hp_ → Prop} (hy : plainName y.cls = true) (hn : (av.map pcat).sum ≤ nL) (hm : mc ≤ rm.cells ∧ ms ≤ rm.slots)
    (body : ∀ K : TC_, TOk K y.cls cc nL ret rm w0.1 → TQB K w0 mc ms Post PostX → TT K w0 0 0 0 (lvA 0 av) [] h) : CtrB y cc nL ret rm w0 mc ms av h Post PostX := by
  intro l D cy ad0 sz A hl9 hA
  refine vx_ofW (cc := cc) (maxL := nL) (ret := ret) hy rfl ?_
  intro p e s m args below meth c s₁ B hml htab hv
  obtain ⟨rfl, hsz, ⟨hG, hGX⟩, hP, hD⟩ := hv
  have hx := B.exec
  have hb := B.bytes
  have hr := B.returns
  have hts := atoms_spec (ws := Cond.code y cc nL ret :: lw_good) B.pre
  have hown : s.vm.findClass y.cls = some m.cls := findClass_of_methodNamed B.named
  have hlocks := B.notSynchronized
  have hAl : ∀ q : Nat, s.heap.size ≤ q → A q := fun q hq => by rw [hA]; exact Or.inr (by rw [← hsz]; exact hq)
  have hl := lv_entry (av.map (cv_ ad0)) (n := nL) (by rw [lgA_len]; exact hn)
  rw [lvA_map] at hl
  rw [lg_entry_eq]
  have K1 := body ((p, l, e, (headSpec (Cond.code y cc nL ret :: lw_good) rm).room, s, m, (av.map (cv_ ad0)).toArray, below, meth, c, vx_MQ below (QC_ D cy A w0.1 ad0 w0 Post) (XQ_ D cy A w0.1 ad0 w0 PostX) (av.map (cv_ ad0)).toArray s mc ms A), (y.cls, cc, nL, D, cy, A, w0.1, ad0))
    ⟨rfl, rfl, rfl, hx, hb, hml, hown, hr, hlocks, rfl, ⟨_, _, _, hts⟩, hG, hAl, rfl⟩ ⟨rfl, hGX, hl9, htab, hm.1, hm.2⟩
  exact K1 ad0 s.heap [] _ (fun _ _ => rfl) hP hD va_S.rf hl
section TTB
variable {K : TC_} {own : String} {cc : ByteArray} {nL : Nat} {ret : Option FieldType} {rm : Room} {nn : Nat} {w : Ly_} {kc ks pc : Nat} {lv : List (Nat × PV_)} {st : List PV_} {h : Hp_}
theorem TT_throwB (hK : TOk K RX11 cc nL ret rm nn) {Post : Option PV_ → Hp_ → Prop} {PostX : Hp_ → Prop} (hX : TQB K w 1 6 Post PostX) (i : Nat) (hi : i < 5) (hp : PostX h) (hcat : (st.map pcat).sum ≤ 8) (hrm : 6 ≤ rm.frames ∧ 100 ≤ rm.locals)
    (d0 : decode cc pc = .ok (.new 48, 3)) (d3 : decode cc (pc + 3) = .ok (.dup, 1)) (d4 : decode cc (pc + 4) = .ok (.ldc (sxI i), 2)) (d6 : decode cc (pc + 6) = .ok (.invokespecial 52, 3)) (d9 : decode cc (pc + 9) = .ok (.athrow, 1)) : TT K w 0 0 pc lv st h := by
  obtain ⟨⟨p, l, e, R, s, m, args, below, meth, c, Q⟩, ⟨o1, c1, n1, D, cy, A, n0, ad0⟩⟩ := K
  obtain ⟨rfl, rfl, rfl, hx, hb, hml, hown, hr, hlk, rfl, ⟨y9, b9, r9, hts9⟩, hG, hA, hnn⟩ := hK
  have hts : ∀ w ∈ lw_good, w.before args s = true := fun w hw => hts9 w (List.mem_cons_of_mem _ hw)
  obtain ⟨rfl, ⟨z1, z2, z3, z4⟩, hl9, htab, hc1, hs1⟩ := hX
  intro ad H locs ls had hP hD hS hl
  obtain ⟨sa, hsa⟩ := z4 i hi
  refine vx_throwS hx hb hl9 (names := xNames) (A := A) (cls := IAE_) (ik := 48) (ic := 52) hown (by decide +kernel) (by decide +kernel) (hts _ (gd_ (tb_3 10 rfl) rfl)) (hts _ (gd_ (tb_1 17 rfl) rfl)) hsa (fun w hw => ?_) (fun w hw => List.all_eq_true.mp t_at3 w hw) z1 z2 hS (hl.1.trans hml.symm) d0 d3 d4 d6 d9 (fun x hx => absurd (htab x hx) id) (by show 2 + 3 < _; omega) (by rw [st_cat]; show _ + (13 * (2 + 1) + 43) ≤ _; omega) (by omega) (by omega) hlk (fun t hal hsz heq => ?_) hS.2.2 (Nat.le_refl _) (Nat.le_refl _)
  · have h2 := List.all_eq_true.mp t_at2 w hw
    rw [decide_eq_true_eq] at h2
    have h3 := List.all_eq_true.mp t_at1 w hw
    by_cases hg : goodWord w = true
    · exact hts w (gd_ (tb_m h2) hg)
    · have h4 : k_ot w = true := by
        cases hgw : goodWord w
        · rw [hgw, Bool.false_or] at h3; exact h3
        · exact absurd hgw hg
      refine va_Nw.use ?_ (z3 w (List.mem_filter.mpr ⟨tb_m h2, h4⟩))
      cases w <;> first | rfl | (simp [k_ot] at h4)
  · refine ⟨rfl, ⟨h, ad, hp, had, hP.kept (fun k x hx => heq x.1 ((hP k x hx).lt)), hD⟩, Nat.le_trans hS.1 hsz, fun q h1 h2 => ?_⟩
    rw [heq q (Nat.lt_of_lt_of_le h1 hS.1)]
    exact hS.2.1 q h1 h2
theorem TT_iretB (hK : TOk K own cc nL (some .int) rm nn) {mc ms : Nat} {Post : Option PV_ → Hp_ → Prop} {PostX : Hp_ → Prop} (hQ : TQB K w mc ms Post PostX) {v : Int} (hp : Post (some (vI v)) h) (hd : decode cc pc = .ok (.ireturn, 1)) : TT K w mc ms pc lv [vI v] h := by
  obtain ⟨⟨p, l, e, R, s, m, args, below, meth, c, Q⟩, ⟨o1, c1, n1, D, cy, A, n0, ad0⟩⟩ := K
  obtain ⟨rfl, hGX, hl9, htab, hm1, hm2⟩ := hQ
  intro ad H locs ls had hP hD hS hl
  exact vx_ret (TT_iret (K := ((p, l, e, R, s, m, args, below, meth, c, MQ below (QC_ D cy A n0 ad0 w Post) args s mc ms A), (o1, c1, n1, D, cy, A, n0, ad0))) hK ⟨rfl, hm1, hm2⟩ hp hd ad H locs ls had hP hD hS hl)
theorem TT_vretB (hK : TOk K own cc nL none rm nn) {mc ms : Nat} {Post : Option PV_ → Hp_ → Prop} {PostX : Hp_ → Prop} (hQ : TQB K w mc ms Post PostX) (hp : Post none h) (hd : decode cc pc = .ok (.return_, 1)) : TT K w mc ms pc lv [] h := by
  obtain ⟨⟨p, l, e, R, s, m, args, below, meth, c, Q⟩, ⟨o1, c1, n1, D, cy, A, n0, ad0⟩⟩ := K
  obtain ⟨rfl, hGX, hl9, htab, hm1, hm2⟩ := hQ
  intro ad H locs ls had hP hD hS hl
  exact vx_ret (TT_vret (K := ((p, l, e, R, s, m, args, below, meth, c, MQ below (QC_ D cy A n0 ad0 w Post) args s mc ms A), (o1, c1, n1, D, cy, A, n0, ad0))) hK ⟨rfl, hm1, hm2⟩ hp hd ad H locs ls had hP hD hS hl)
theorem TT_callVB {hh : List (Nat × Nat × Nat × Nat)} (hK : TOk K own cc nL ret rm nn) (hH : TH K hh) {y : MethodName} {bytes : ByteArray} {maxL : Nat} {rt : Option FieldType} {rmc : Room} {mc ms index n : Nat} {As : List PV_} {Post : Option PV_ → Hp_ → Prop} {PostX : Hp_ → Prop} {C : String} {T : u_T} {N ci o : Nat} (hC : CtrB y bytes maxL rt rmc w mc ms (vR o :: As) h Post PostX) (hcl : classes[ci]? = some (C, T, N)) (hl12 : ci < 12) (ho : o < w.1) (hs : (sh o).1 = ci) (hrm : rmc.cells = mc ∧ rmc.slots = ms) (hroom : rmc.frames + 1 ≤ rm.frames ∧ 8 + (maxL + 11) + rmc.locals ≤ rm.locals) (hcode : Cond.code y bytes maxL rt ∈ lw_good) (hd1 : y.cls = C ∧ y.cls ≠ "java/lang/invoke/MethodHandle" ∧ y.cls ≠ "java/lang/invoke/VarHandle" ∧ (parseMethodDescriptor y.desc).map (fun d => d.parameters.length) = some n) (hw : ∀ w ∈ [Cond.methodLink own index y, .instanceMethod y, .selects C y y, .initialized C], w ∈ lw_good) (hn : As.length = n) (hnn : nn ≤ w.1) (hlo : lv.all (fun q => pok w.1 q.2) = true) (hso : st.all (pok w.1) = true) (hcat : (st.map pcat).sum ≤ 8) (hf : kc + mc ≤ rm.cells ∧ ks + ms ≤ rm.slots) (hd : decode cc pc = .ok (.invokevirtual index, 3))
    (x : ExceptionTableEntry) (htab : tableOf hh = [x]) (hcov : covers x pc = true) (h0 : x.catchType ≠ 0) (hclink : Cond.classLink own x.catchType IAE_ ∈ lw_good) (hcast : Cond.castable IAE_ IAE_ ∈ lw_ot) {i ln : Nat} (hi : i < nL) (hd2 : (∃ k4 : Fin 4, (k4 : Nat) = i ∧ decode cc x.handlerPc = .ok (.astore_n k4, 1) ∧ ln = 1) ∨ (decode cc x.handlerPc = .ok (.astore i, 2) ∧ ln = 2))
    (kk : ∀ (r : Option PV_) (h' : Hp_), Post r h' → TT K w (kc + mc) (ks + ms) (pc + 3) lv (r.toList ++ st) h')
    (kx : ∀ h' : Hp_, PostX h' → TT K w (kc + mc) (ks + ms) (x.handlerPc + ln) (lv.filter (lvf1 i)) [] h') : TT K w kc ks pc lv (As.reverse ++ vR o :: st) h := by
  obtain ⟨⟨p, l, e, R, s, m, args, below, meth, c, Q⟩, ⟨o1, c1, n1, D, cy, A, n0, ad0⟩⟩ := K
  obtain ⟨rfl, rfl, rfl, hx, hb, hml, hown, hr, hlk, rfl, ⟨y9, b9, r9, hts9⟩, hG, hA, rfl⟩ := hK
  obtain ⟨hGX, hl9, htabC⟩ := hH
  have hts : ∀ w ∈ lw_good, w.before args s = true := fun w hw => hts9 w (List.mem_cons_of_mem _ hw)
  intro ad H locs ls had hP hD hS hl
  have he := wl_get (cy := cy) (ad := ad) (h := h) ho
  rw [ce_obj hs hl12] at he
  have hr := vx_runV (l := l) (e := e) (below := below) (meth := meth) (locs := locs) (cells := kc) (slots := ks) (g := F0 m pc ls ((As.reverse ++ vR o :: st).map (cv_ ad))) (As := As.map (cv_ ad)) (rest := st.map (cv_ ad)) ⟨hx, hb, hml, hown, hts9⟩ (hC l D cy ad H.size _ hl9 rfl) (cwV n hts9 (gin_ hw hcode) rfl hrm.1 hrm.2 hd1 hroom) ⟨pcX_blind, va_recv hG.1 hP hcl he, fun U hU hW => ⟨rfl, pcX_next hG hGX had hP hD hS hA hU hW⟩⟩ rfl (by rw [List.length_map]; exact hn) hl.1 (by show ((As.reverse ++ vR o :: st).map (cv_ ad)) = (As.map (cv_ ad)).reverse ++ .ref (ad o) :: st.map (cv_ ad); rw [List.map_append, List.map_reverse]; rfl) (lv_room (by rw [st_cat]; exact hcat)) hd hf
  intro T9 hT X
  rcases hr T9 hT X with ⟨v, st₀, t, T', L, h1, X', hL, e1, e2, hq, stp⟩ | ⟨q, st₀, t, T', L, E, ce, h1, X', hL, e1, e2, hXC, hce, hcv, hclE, stp⟩
  · obtain ⟨⟨r, h', ad', hv, hp, hag, hP', hD'⟩, hz, hk⟩ := hq
    cases hv
    rw [h1] at hz hk
    have hsub := AA_sub hD hS hA
    have had' : ∀ o, o < n0 ∨ 1000 ≤ o → ad' o = ad0 o := fun o ho => by
      rw [hag o (ho.elim (fun q => Or.inl (Nat.lt_of_lt_of_le q hnn)) Or.inr)]
      exact had o ho
    have hS' : va_S A s.heap T'.heap (locs ++ L) := by
      refine ⟨Nat.le_trans hS.1 (by rw [e1]; exact hz), fun q h1 h2 => ?_, fun q hq => ?_⟩
      · rw [e1, hk q (Nat.lt_of_lt_of_le h1 hS.1) (fun z => h2 (hsub q z))]
        exact hS.2.1 q h1 h2
      · rcases List.mem_append.mp hq with z | z
        · exact hS.2.2 q z
        · exact hsub _ (hL q z)
    have k1 := kk r h' hp ad' T'.heap (locs ++ L) ls had' (by rw [e1]; exact hP') (hD'.weaken fun _ q _ z => hsub q.1 z) hS' (by rw [lv_map hag hlo]; exact hl) T' rfl X'
    obtain ⟨t2, a1, b1⟩ := k1
    refine ⟨t2, stp t2 ?_, b1⟩
    have e3 : (r.toList ++ st).map (cv_ ad') = (r.map (cv_ ad')).toList ++ st.map (cv_ ad) := by
      rw [List.map_append, st_map hag hso]
      cases r <;> rfl
    rw [e3] at a1
    exact a1
  · obtain ⟨rfl, ⟨h', ad', hp, hag, hP', hD'⟩, hz, hk⟩ := hXC
    rw [h1] at hz hk
    have hsub := AA_sub hD hS hA
    have had' : ∀ o, o < n0 ∨ 1000 ≤ o → ad' o = ad0 o := fun o ho => by
      rw [hag o (ho.elim (fun q => Or.inl (Nat.lt_of_lt_of_le q hnn)) Or.inr)]
      exact had o ho
    have hS' : va_S A s.heap T'.heap (locs ++ L) := by
      refine ⟨Nat.le_trans hS.1 (by rw [e1]; exact hz), fun q h1 h2 => ?_, fun q hq => ?_⟩
      · rw [e1, hk q (Nat.lt_of_lt_of_le h1 hS.1) (fun z => h2 (hsub q z))]
        exact hS.2.1 q h1 h2
      · rcases List.mem_append.mp hq with z | z
        · exact hS.2.2 q z
        · exact hsub _ (hL q z)
    have hl2 : lv_has ls n1 (lv.map fun q => (q.1, cv_ ad' q.2)) := by rw [lv_map hag hlo]; exact hl
    have efl : (lv.map fun q => (q.1, cv_ ad' q.2)).filter (fun q => !(q.1 == i) && !(q.1 + 1 == i && q.2.category == 2)) = (lv.filter (lvf1 i)).map fun q => (q.1, cv_ ad' q.2) := by
      have := lvm_st1 ad' (lv := lv) (i := i) (v := vI 0) rfl
      exact (List.cons.inj this).2
    have fin : ∀ ls' : Array Slot, lv_has ls' n1 ((i, Value.ref q) :: (lv.map fun q => (q.1, cv_ ad' q.2)).filter (fun q => !(q.1 == i) && !(q.1 + 1 == i && q.2.category == 2))) → W p l e R s m args below meth c T'.heap (locs ++ L) (kc + mc) (ks + ms) Q (F0 m (x.handlerPc + ln) ls' []) := by
      intro ls' hl3
      rw [efl] at hl3
      exact kx h' hp ad' T'.heap (locs ++ L) ls' had' (by rw [e1]; exact hP') (hD'.weaken fun _ q _ z => hsub q.1 z) hS' ⟨hl3.1, hl3.2.1, fun q hq => hl3.2.2 q (List.mem_cons_of_mem _ hq)⟩
    have kh : W p l e R s m args below meth c T'.heap (locs ++ L) (kc + mc) (ks + ms) Q (F0 m x.handlerPc ls [.ref q]) := by
      rcases hd2 with ⟨k4, hi4, hda, rfl⟩ | ⟨hda, rfl⟩
      · exact lv_astore_n hx hb hda hi4 hl2 hi rfl fin
      · exact lv_astore hx hb hda hl2 hi rfl fin
    have kw : vx_W p l e R s m args below meth c T'.heap (locs ++ L) (kc + mc) (ks + ms) Q (F0 m pc ls (st.map (cv_ ad))) q :=
      vx_catch hown [] x [] (by rw [htabC, htab]; rfl) (fun z hz => by cases hz) hcov h0 (hts _ hclink) (va_Nw.use rfl (hGX.2.2.1 _ hcast)) (by rw [e1]; exact hce) hcv hclE kh
    obtain ⟨t2, a1, b1⟩ := kw T' rfl X'
    exact ⟨t2, stp.trans a1, b1⟩
end TTB

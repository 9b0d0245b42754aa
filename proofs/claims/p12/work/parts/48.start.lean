theorem law_walk {K : TC_} {b L : Nat} {xs : Nat → Int32} {hh0 : List (Nat × Nat × Nat × Nat)} (hL : L ≤ 256) (hK : TOk K RL code 7 ret room_1 0) (hX : TLX K b L xs) (hT : TH K hh0) : TT K (0, rL lz_0) 0 0 0 [(0, vR 2000)] [] HZ := by
  refine TT_new hK (ci := 10) (N := 5) (C := RX11) (T := TX11) rfl uin_11 tyX11_ok (gd_ (tb_1 20 rfl) rfl) (gd_ (tb_1 21 rfl) rfl) (gd_ (tb_1 1 rfl) rfl) (by decide) rfl rfl (by decide +kernel) (fun _ => rfl) (by decide +kernel) (Nat.zero_le _) (by decide) rfl rfl (by decide) (Nat.le_of_ble_eq_true rfl) dL_law_0 ?_
  show TT K (1, rL lz_0) 1 5 3 [(0, vR 2000)] [vR 0] HZ
  refine TT_dup hK rfl dL_law_3 ?_
  refine TT_callI hK ci_0 (As := []) (n := 0) (w1 := (73, rL lz_74)) (mc := 72) (ms := 9330) ⟨rfl, rfl⟩ ⟨by decide, by decide⟩ (gd_ (tb_1 24 rfl) rfl) ⟨by decide, by decide, by decide +kernel⟩ rfl (List.forall_mem_cons.mpr ⟨(gd_ (tb_1 22 rfl) rfl), (List.forall_mem_cons.mpr ⟨(gd_ (tb_1 23 rfl) rfl), (List.forall_mem_cons.mpr ⟨(gd_ (tb_1 1 rfl) rfl), (fun _ z => absurd z List.not_mem_nil)⟩)⟩)⟩) rfl (Nat.zero_le _) rfl rfl (Nat.le_of_ble_eq_true rfl) ⟨by decide, Nat.le_of_ble_eq_true rfl⟩ dL_law_4 ?_
  intro r9 h9 hp9
  rw [hp9.1, hp9.2]
  show TT K (73, rL lz_74) 73 9335 7 [(0, vR 2000)] [vR 0] (tH Nm_0)
  refine TT_astore_n hK rfl (by decide) rfl dL_law_7 ?_
  refine TT_new hK (ci := 11) (N := 56) (C := RX12) (T := TX12) rfl uin_12 tyX12_ok (gd_ (tb_5 47 rfl) rfl) (gd_ (tb_5 48 rfl) rfl) (gd_ (tb_1 13 rfl) rfl) (by decide) rfl rfl (by decide +kernel) (fun j => tH_gz (b := 758) (by decide +kernel) (adr_ge (Nat.le_of_ble_eq_true (by decide +kernel)) (by decide)) j) (by decide +kernel) (Nat.zero_le _) (by decide) rfl rfl (by decide) (Nat.le_of_ble_eq_true rfl) dL_law_8 ?_
  show TT K (74, rL lz_74) 74 9391 11 [(1, vR 0), (0, vR 2000)] [vR 73] (tH Nm_0)
  refine TT_dup hK rfl dL_law_11 ?_
  refine TT_callI hK ci_73 (As := []) (n := 0) (w1 := (107, rL lz_107)) (mc := 33) (ms := 20428) ⟨rfl, rfl⟩ ⟨by decide, by decide⟩ (gd_ (tb_5 51 rfl) rfl) ⟨by decide, by decide, by decide +kernel⟩ rfl (List.forall_mem_cons.mpr ⟨(gd_ (tb_5 49 rfl) rfl), (List.forall_mem_cons.mpr ⟨(gd_ (tb_5 50 rfl) rfl), (List.forall_mem_cons.mpr ⟨(gd_ (tb_1 13 rfl) rfl), (fun _ z => absurd z List.not_mem_nil)⟩)⟩)⟩) rfl (Nat.zero_le _) rfl rfl (Nat.le_of_ble_eq_true rfl) ⟨by decide, Nat.le_of_ble_eq_true rfl⟩ dL_law_12 ?_
  intro r9 h9 hp9
  rw [hp9.1, hp9.2]
  show TT K (107, rL lz_107) 107 29819 15 [(1, vR 0), (0, vR 2000)] [vR 73] (tH Nm_96)
  refine TT_astore_n hK rfl (by decide) rfl dL_law_15 ?_
  refine TT_iconst hK dL_law_16 ?_
  refine TT_newa hK (t := 14) (N := 1) (ty := .long) rfl (gd_ (tb_7 55 rfl) rfl) (by decide) rfl (fun j => tH_gz (b := 1341) (by decide +kernel) (adr_ge (Nat.le_of_ble_eq_true (by decide +kernel)) (by decide)) j) (by decide +kernel) (Nat.zero_le _) (by decide) (by decide) (by decide) (by decide) rfl rfl (by decide) (Nat.le_of_ble_eq_true rfl) dL_law_17 ?_
  show TT K (108, rL lz_107) 108 29820 19 [(2, vR 73), (1, vR 0), (0, vR 2000)] [vR 107] (tH Nm_96)
  refine TT_ly lz_full fn_64 ?_
  refine TT_hp (congrArg tH N0_e) ?_
  refine TT_astore_n hK rfl (by decide) rfl dL_law_19 ?_
  refine TT_iconst hK dL_law_20 ?_
  refine TT_istore hK (by decide) rfl dL_law_21 ?_
  refine TT_sub [0, 4, 3, 2, 1] rfl ?_
  exact law_loop hL hK hX hT 65 0 108 29820 (tH N0_) rfl INV_0 (Nat.le_refl _) (Nat.le_refl _)
theorem whole_start {p : Program} {e : Env} {s : State} {m : MethodId} {below : List Frame} {meth : Method} {c : Code} (l : Launch) (hflags : l.flags = flags0) {b L : Nat} {xs : Nat → Int32} (hL : L ≤ 256) (C0 : lw_At p s m meth c b L xs) : W p l e room_1 s m #[Value.ref b] below meth c s.heap [] 0 0 (lw_Z below #[Value.ref b] s) (entryFrame m ([Value.ref b] : List Value).toArray 7) := by
  obtain ⟨hx, hb, hr, hml, hown, hts, hX, hbl, hlocks, hgv⟩ := id C0
  obtain ⟨D, cy, ad0, hb2, hG, hGX⟩ := law_start hts hgv
  have hl := lv_entry ([.ref b]) (n := 7) (Nat.le_of_ble_eq_true rfl)
  rw [lg_entry_eq]
  generalize (lg_sl ([.ref b]) ++ List.replicate (7 - (lg_sl ([.ref b])).length) Slot.unset).toArray = ls at hl ⊢
  have hl : lv_has ls 7 [(0, .ref b)] := hl
  have hst : l.stackTraces = false := by unfold Launch.stackTraces; rw [hflags]; decide +kernel
  obtain ⟨hh0, htab⟩ := tab_ex c.exceptionTable.toList
  have hcw : ∀ w ∈ (Cond.code yX3_pack cX3_pack 7 none :: lw_good), w.before #[Value.ref b] s = true := fun w hw => (List.mem_cons.mp hw).elim (fun e => by rw [e]; exact hts _ (gd_t (gd_ (tb_3 106 rfl) rfl))) (fun q => hts _ (gd_t q))
  have K1 := law_walk (K := ((p, l, e, room_1, s, m, #[Value.ref b], below, meth, c, lw_Z below #[Value.ref b] s), (RL, code, 7, D, cy, (fun q => s.heap.size ≤ q), 0, ad0))) (b := b) (xs := xs) (hh0 := hh0) hL
    ⟨rfl, rfl, rfl, hx, hb, hml, hown, hr, hlocks, rfl, ⟨_, _, _, hcw⟩, hG, fun _ h => h, rfl⟩ ⟨hX, hbl, Nat.not_le.mpr hbl, hb2, rfl, rfl, rfl, fun _ h => h, hr, hb⟩ ⟨hGX, hst, htab⟩
  exact K1 ad0 s.heap [] ls (fun _ _ => rfl) (fun k q h => by simp [wl] at h) ⟨fun i j p q h => by simp [wl] at h, fun k q h => by simp [wl] at h⟩ va_S.rf (by show lv_has ls 7 [(0, .ref (ad0 2000))]; rw [hb2]; exact hl)
set_option maxHeartbeats 4000000 in
theorem lw_walk (l : Launch) (hflags : l.flags = flags0) (b : Addr) (xs : List Int32) : MetFree l x (headSpec (Jvm.Cond.code x code maxLocals ret :: tables_1) room_1) (lw_P b xs) (fun _ _ _ _ _ => True) lw_Q := by
  refine MetFree.of_bodyS (code := code) (maxLocals := maxLocals) (ret := ret) (by decide) ?_ ?_
  · intro args s m h hn
    obtain ⟨meth, c, h1, h2, h3, h4, h5, h6, -, -⟩ := Cond.code_spec hn (atoms_spec (ws := Jvm.Cond.code x code maxLocals ret :: tables_1) h _ List.mem_cons_self)
    exact ⟨meth, c, h1, h2, h3, h4, h5, h6⟩
  · intro p e s m args below meth c s₁ B hml0 hP _
    obtain ⟨rfl, hx, hbd, hgv⟩ := hP
    obtain ⟨scr, harrAt, hlist, hof, hsmall⟩ := hx
    obtain ⟨hcb, hkn, -, -⟩ := State.arrayAt?_spec harrAt
    have hown : s.vm.findClass R_law = some m.cls := findClass_of_methodNamed B.named
    have hts0 : ∀ c ∈ (Jvm.Cond.code x code maxLocals ret :: tables_1), c.before #[Value.ref b] s = true := atoms_spec (ws := Jvm.Cond.code x code maxLocals ret :: tables_1) B.pre
    have hts : ∀ w ∈ lw_tbl, w.before #[Value.ref b] s = true := k2_hts_sels lw_privs (fun w hw => hts0 w (List.mem_cons_of_mem _ hw)) lw_privs_ok
    have hml : c.maxLocals = 7 := B.maxLocals_eq (hts0 _ List.mem_cons_self)
    have X₀ : Stand p l e room_1 s m #[Value.ref b] below meth c s₁ [] 0 0 := Stand.of_body B
    have hh0 : s₁.heap = s.heap := by rw [B.state]; rfl
    have hsz : scr.slots.size = xs.length := by rw [← Array.length_toList, hlist, List.length_map]
    have hval : ∀ j : Nat, j < xs.length → scr.slots[j]? = some (.int (xs.getD j 0)) := fun j hj => by
      rw [← Array.getElem?_toList, hlist]
      simp [hj]
    have hbl : b < s.heap.size := (Array.getElem?_eq_some_iff.mp hcb).1
    have hX : va_X b xs.length (fun j => xs.getD j 0) s s.heap := ⟨scr, hcb, hof, hkn, hsz, hval⟩
    have K : W p l e room_1 s m #[Value.ref b] below meth c s₁.heap [] 0 0 (lw_Z below #[Value.ref b] s) (entryFrame m ([Value.ref b] : List Value).toArray 7) := by
      rw [hh0]
      exact whole_start l hflags hbd ⟨B.exec, B.bytes, B.returns, hml, hown, hts, hX, hbl, B.notSynchronized, hgv⟩
    obtain ⟨t, a1, o, b1, b2, b3⟩ := K s₁ rfl X₀
    exact ⟨t, o, a1, b1, b2, b3⟩
theorem lw_pre_spec {args : Array Value} {s : State} (h : (Jvm.Cond.and given_1 narrow_1).before args s = true) (hr : rest_1_c.before args s = true) : ∃ (b : Addr) (xs : List Int32), lw_P b xs args s := by
  have hs := flat_of_before _ h
  have hq := flat_of_before _ hr
  have hc : (Cond.count 1).before args s = true := hs _ (by decide +kernel)
  have harr : (Cond.arrayOf (.arg 0) .int).before args s = true := hs _ (by decide +kernel)
  have hle : (Cond.le (.length (.arg 0)) (.int 256)).before args s = true := hs _ (by decide +kernel)
  have hlen : (Cond.isInt (.length (.arg 0))).before args s = true := hq _ (by decide +kernel)
  have hall : (Cond.all (.arg 0) (.isInt (.elem (.arg 0) (.index 0)))).before args s = true := hq _ (by decide +kernel)
  obtain ⟨b, xs, hb, hx⟩ := State.ints_of_pre rfl harr hlen hall
  have hsm : xs.length < 2 ^ 31 := hx.choose_spec.2.2.2
  have hev : (Term.length (.arg 0)).eval args s none [] s = some (.int xs.length.toInt32) := hx.length_eval hb
  have hv := Cond.le_ints hev (show (Term.int 256).eval args s none [] s = some (.int 256) from rfl)
  have hd : xs.length.toInt32 ≤ 256 := by
    simpa [Cond.before, Cond.holds, hv] using hle
  have hN : xs.length ≤ 256 := (Int32.ofNat_le_ofNat hsm (by decide)).mp (show Int32.ofNat xs.length ≤ Int32.ofNat 256 from hd)
  exact ⟨b, xs, Cond.one_arg hc (show args[0]? = some (.ref b) from hb), hx, hN, h⟩
theorem lw_comes (l : Launch) (hflags : l.flags = flags0) : Comes l x (Jvm.Cond.code x code maxLocals ret :: tables_1) room_1 (fun tb e args s => Calls_1 tb e args s ∧ rest_1 tb e args s ∧ Pre_1 tb e args s)
    (fun _ _ args s o t => lw_Q args s o t) := by
  intro p e ha hc hk s m args below hf hfit hheap happ hpre
  obtain ⟨b, xs, hP⟩ := lw_pre_spec hpre.2.2 hpre.2.1
  obtain ⟨k, o, h1, h2, h3, hQ⟩ := lw_walk l hflags b xs p e ha hc hk s m args below hf ((Spec.applies_iff_loose hf).mp happ).1 hP trivial
  exact ⟨k, o, h1, h2, h3, hQ⟩
theorem lw_frame {s t : State} {o : Outcome} {args : Array Value} (h : Framed s o t [] 241 30874) :
    Framed s o t (fieldLocs frame_1_writes args s ++ arrayLocs frame_1_arrays args s ++ staticLocs frame_1_statics s) 241 30874 := h
theorem lw_limb (L : Cond) (hL : ∀ (args : Array Value) (s t : State), L.after args s (.returned (some (.int 1))) t = true) :
    ArmFor flags0 classFile x code maxLocals ret World_1 tables_1 room_1 Calls_1 rest_1 Pre_1
      (fun tb e a s o t => postC L tb e a s o t ∧ Framed s o t (fieldLocs frame_1_writes a s ++ arrayLocs frame_1_arrays a s ++ staticLocs frame_1_statics s) 241 30874) := by
  intro l hflags _ _ p e ha hc hk s m args below hf hfit hheap happ hpre
  obtain ⟨k, o, h1, h2, h3, rfl, hF⟩ := lw_comes l hflags p e ha hc hk s m args below hf hfit hheap happ hpre
  exact ⟨k, _, h1, h2, h3, hL args s _, lw_frame hF⟩
theorem i_vc : Claimed_1_1 ∧ Claimed_1_2 := ⟨lw_limb limb_1_1 (fun args s t => by simp [limb_1_1, Cond.after, Cond.holds, Cond.value]), lw_limb limb_1_2 (fun args s t => Cond.after_iff.mpr (by
  first | (rw [show limb_1_2 = Cond.eq .result (.int 1) from rfl, Cond.eq_ints (x := 1) (y := 1) rfl rfl]; simp; done) | (simp [limb_1_2, Cond.value, Term.eval]; done)))⟩

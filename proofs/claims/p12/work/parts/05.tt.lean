/-! the judgement over the pure machine, its start, its end -/
abbrev TA_ : Type := Program × Launch × Env × Room × State × MethodId × Array Value × List Frame × Method × Code × (State → Prop)
abbrev TB_ : Type := String × ByteArray × Nat × va_G × (Nat → ClassId) × (Nat → Prop) × Nat × (Nat → Nat)
abbrev TC_ : Type := TA_ × TB_
def TT (K : TC_) (w : Ly_) (kc ks pc : Nat) (lv : List (Nat × PV_)) (st : List PV_) (h : Hp_) : Prop := match K with
  | ((p, l, e, R, s, m, args, below, meth, c, Q), (_, _, nL, D, cy, A, n0, ad0)) => ∀ (ad : Nat → Nat) (H : Heap) (locs : List Loc) (ls : Array Slot), (∀ o, o < n0 ∨ 1000 ≤ o → ad o = ad0 o) → va_P D classes (wl cy w ad h) H → va_D A (wl cy w ad h) → va_S A s.heap H locs → lv_has ls nL (lv.map fun q => (q.1, cv_ ad q.2)) → W p l e R s m args below meth c H locs kc ks Q (F0 m pc ls (st.map (cv_ ad)))
def TOk (K : TC_) (own : String) (cc : ByteArray) (nL : Nat) (ret : Option FieldType) (rm : Room) (nn : Nat) : Prop := match K with
  | ((p, _, _, R, s, m, args, _, meth, c, _), (own', cc', nL', D, cy, A, n0, ad0)) => own' = own ∧ cc' = cc ∧ nL' = nL ∧ p.tables.exec = Jvm.exec ∧ c.code = cc ∧ c.maxLocals = nL ∧ s.vm.findClass own = some m.cls ∧ meth.sig.returnType = ret ∧ meth.locks = false ∧ R = rm ∧ (∃ y b r, ∀ w ∈ (Cond.code y b nL r :: lw_good), w.before args s = true) ∧ GW_ D cy A ad0 s ∧ (∀ q, s.heap.size ≤ q → A q) ∧ n0 = nn
def TNm (K : TC_) (x : String) : Prop := match K with
  | ((_, _, _, _, _, _, _, _, meth, _, _), _) => meth.name = x
def QC_ (D : va_G) (cy : Nat → ClassId) (A : Nat → Prop) (n0 : Nat) (ad0 : Nat → Nat) (w1 : Ly_) (Post : Option PV_ → Hp_ → Prop) : Array Value → State → Outcome → State → Prop := fun _ st oc t =>
  (∃ (r : Option PV_) (h' : Hp_) (ad' : Nat → Nat), oc = .returned (r.map (cv_ ad')) ∧ Post r h' ∧ (∀ o, o < n0 ∨ 1000 ≤ o → ad' o = ad0 o) ∧ va_P D classes (wl cy w1 ad' h') t.heap ∧ va_D A (wl cy w1 ad' h')) ∧ va_F A st t
def AA_ (w0 : Ly_) (ad0 : Nat → Nat) (sz : Nat) : Nat → Prop := fun q => (∃ o, o < w0.1 ∧ q = ad0 o) ∨ sz ≤ q
def TQ (K : TC_) (w1 : Ly_) (mc ms : Nat) (Post : Option PV_ → Hp_ → Prop) : Prop := match K with
  | ((_, _, _, R, s, _, args, below, _, _, Q), (_, _, _, D, cy, A, n0, ad0)) => Q = MQ below (QC_ D cy A n0 ad0 w1 Post) args s mc ms A ∧ mc ≤ R.cells ∧ ms ≤ R.slots
def Ctr (y : MethodName) (cc : ByteArray) (nL : Nat) (ret : Option FieldType) (rm : Room) (w0 w1 : Ly_) (mc ms : Nat) (av : List PV_) (h : Hp_) (Post : Option PV_ → Hp_ → Prop) : Prop :=
  ∀ (l : Launch) (D : va_G) (cy : Nat → ClassId) (ad0 : Nat → Nat) (sz : Nat) (A : Nat → Prop), A = AA_ w0 ad0 sz →
    Met l y (Cond.code y cc nL ret :: lw_good) rm (va_Pc (av.map (cv_ ad0)) (fun U => U.heap.size = sz ∧ GW_ D cy A ad0 U ∧ va_P D classes (wl cy w0 ad0 h) U.heap ∧ va_D A (wl cy w0 ad0 h))) (QC_ D cy A w0.1 ad0 w1 Post) mc ms A
def lvA : Nat → List PV_ → List (Nat × PV_)
  | _, [] => []
  | i, v :: r => (i, v) :: lvA (i + pcat v) r
theorem lvA_map (ad : Nat → Nat) : ∀ (av : List PV_) (i : Nat), lv_args i (av.map (cv_ ad)) = (lvA i av).map fun q => (q.1, cv_ ad q.2) := by
  intro av
  induction av with
  | nil => intro i; rfl
  | cons v r ih =>
    intro i
    show (i, cv_ ad v) :: lv_args (if (cv_ ad v).category = 2 then i + 2 else i + 1) (r.map (cv_ ad)) = _
    rw [ih, show (if (cv_ ad v).category = 2 then i + 2 else i + 1) = i + pcat v by rw [pcat_cv]; rcases v with z | z | _ | o <;> rfl]
    rfl
theorem lgA_len (ad : Nat → Nat) : ∀ (av : List PV_), (lg_sl (av.map (cv_ ad))).length = (av.map pcat).sum := by
  intro av
  induction av with
  | nil => rfl
  | cons v r ih =>
    have h1 : lg_sl ((v :: r).map (cv_ ad)) = (if (cv_ ad v).category = 2 then [.val (cv_ ad v), .second] else [.val (cv_ ad v)]) ++ lg_sl (r.map (cv_ ad)) := by simp [lg_sl]
    rw [h1, List.length_append, ih, List.map_cons, List.sum_cons, pcat_cv]
    rcases v with z | z | _ | o <;> rfl
theorem Ctr_of {y : MethodName} {cc : ByteArray} {nL : Nat} {ret : Option FieldType} {rm : Room} {w0 w1 : Ly_} {mc ms : Nat} {av : List PV_} {h : Hp_} {Post : Option PV_ → Hp_ → Prop} (hy : plainName y.cls = true) (hn : (av.map pcat).sum ≤ nL) (hm : mc ≤ rm.cells ∧ ms ≤ rm.slots)
    (body : ∀ K : TC_, TOk K y.cls cc nL ret rm w0.1 → TQ K w1 mc ms Post → TNm K y.name → TT K w0 0 0 0 (lvA 0 av) [] h) : Ctr y cc nL ret rm w0 w1 mc ms av h Post := by
  intro l D cy ad0 sz A hA
  refine Met.ofW (cc := cc) (maxL := nL) (ret := ret) hy rfl ?_
  intro p e s m args below meth c s₁ B hml hv
  obtain ⟨rfl, hsz, hG, hP, hD⟩ := hv
  have hx := B.exec
  have hb := B.bytes
  have hr := B.returns
  have hts := atoms_spec (ws := Cond.code y cc nL ret :: lw_good) B.pre
  have hown : s.vm.findClass y.cls = some m.cls := findClass_of_methodNamed B.named
  have hlocks := B.notSynchronized
  have hAl : ∀ q : Nat, s.heap.size ≤ q → A q := fun q hq => by rw [hA]; exact Or.inr (by rw [← hsz]; exact hq)
  have hl := lv_entry (av.map (cv_ ad0)) (n := nL) (by rw [lgA_len]; exact hn)
  rw [lvA_map] at hl
  rw [lg_entry_eq]
  have K1 := body ((p, l, e, (headSpec (Cond.code y cc nL ret :: lw_good) rm).room, s, m, (av.map (cv_ ad0)).toArray, below, meth, c, MQ below (QC_ D cy A w0.1 ad0 w1 Post) (av.map (cv_ ad0)).toArray s mc ms A), (y.cls, cc, nL, D, cy, A, w0.1, ad0))
    ⟨rfl, rfl, rfl, hx, hb, hml, hown, hr, hlocks, rfl, ⟨_, _, _, hts⟩, hG, hAl, rfl⟩ ⟨rfl, hm.1, hm.2⟩ (name_of_methodNamed B.named B.method).1
  exact K1 ad0 s.heap [] _ (fun _ _ => rfl) hP hD va_S.rf hl
section TTR
variable {K : TC_} {own : String} {cc : ByteArray} {nL : Nat} {ret : Option FieldType} {rm : Room} {nn : Nat} {w : Ly_} {kc ks pc : Nat} {lv : List (Nat × PV_)} {st : List PV_} {h : Hp_}
theorem TT_hp {h' : Hp_} (e : h = h') (k : TT K w kc ks pc lv st h') : TT K w kc ks pc lv st h := e ▸ k
theorem TT_sub {lv' : List (Nat × PV_)} (js : List Nat) (hl : js.filterMap (fun k => lv[k]?) = lv') (k : TT K w kc ks pc lv' st h) : TT K w kc ks pc lv st h := by
  obtain ⟨⟨p, l, e, R, s, m, args, below, meth, c, Q⟩, ⟨o1, c1, n1, D, cy, A, n0, ad0⟩⟩ := K
  intro ad H locs ls had hP hD hS hl0
  refine k ad H locs ls had hP hD hS (lv_sub hl0 js ?_)
  subst hl
  show js.filterMap (fun k => (lv.map fun q => (q.1, cv_ ad q.2))[k]?) = _
  rw [List.map_filterMap]
  congr 1
  funext j
  rw [List.getElem?_map]
theorem TT_widen {kc' ks' : Nat} (h1 : kc ≤ kc') (h2 : ks ≤ ks') (k : TT K w kc' ks' pc lv st h) : TT K w kc ks pc lv st h := by
  obtain ⟨⟨p, l, e, R, s, m, args, below, meth, c, Q⟩, ⟨o1, c1, n1, D, cy, A, n0, ad0⟩⟩ := K
  intro ad H locs ls had hP hD hS hl0
  exact W.widen h1 h2 (k ad H locs ls had hP hD hS hl0)
end TTR

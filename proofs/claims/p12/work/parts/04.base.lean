/-! THE PURE MACHINE: cells by number (in the order in which they are made), whole numbers for ints and longs; one judgement TT over the kit's W -/
abbrev Hp_ : Type := Nat → Int → Int
abbrev PV_ : Type := Int ⊕ (Int ⊕ Option Nat)
abbrev vI (z : Int) : PV_ := .inl z
abbrev vJ (z : Int) : PV_ := .inr (.inl z)
abbrev vR (o : Nat) : PV_ := .inr (.inr (some o))
def cv_ (ad : Nat → Nat) : PV_ → Value
  | .inl z => .int (Int32.ofInt z)
  | .inr (.inl z) => .long (Int64.ofInt z)
  | .inr (.inr (some o)) => .ref (ad o)
  | .inr (.inr none) => .null
def pcat : PV_ → Nat
  | .inr (.inl _) => 2
  | _ => 1
theorem pcat_cv (ad : Nat → Nat) (v : PV_) : (cv_ ad v).category = pcat v := by
  rcases v with z | z | _ | o <;> rfl
def pok (n : Nat) : PV_ → Bool
  | .inr (.inr (some o)) => decide (o < n) || decide (1000 ≤ o)
  | _ => true
theorem pok_cv {n : Nat} {ad ad' : Nat → Nat} (h : ∀ o, o < n ∨ 1000 ≤ o → ad' o = ad o) {v : PV_} (hv : pok n v = true) : cv_ ad' v = cv_ ad v := by
  rcases v with z | z | _ | o
  · rfl
  · rfl
  · rfl
  · simp only [pok, Bool.or_eq_true, decide_eq_true_eq] at hv
    show Value.ref (ad' o) = Value.ref (ad o)
    rw [h o hv]
/-- one cell's place gets a value -/
def up (h : Hp_) (o : Nat) (i v : Int) : Hp_ := fun o' i' => if o' = o ∧ i' = i then v else h o' i'
/-- the places a .. b - 1 of a cell get the values of f -/
def setR (h : Hp_) (o : Nat) (a b : Int) (f : Int → Int) : Hp_ := fun o' i' => if o' = o ∧ a ≤ i' ∧ i' < b then f i' else h o' i'
theorem up_ne (h : Hp_) {o o' : Nat} (i v i' : Int) (hn : o' ≠ o) : up h o i v o' i' = h o' i' := by simp [up, hn]
theorem up_ni (h : Hp_) (o : Nat) {i i' : Int} (v : Int) (o' : Nat) (hn : i' ≠ i) : up h o i v o' i' = h o' i' := by simp [up, hn]
theorem up_eq (h : Hp_) (o : Nat) (i v : Int) : up h o i v o i = v := by simp [up]
def classes : List vw_C := [(RX0, TX0, 11), (RX1, TX1, 5), (RX2, TX2, 2), (RX3, TX3, 12), (RX4, TX4, 10), (RX5, TX5, 3), (RX6, TX6, 8), (RX7, TX7, 5), (RX8, TX8, 6), (RX10, TX10, 13), (RX11, TX11, 5), (RX12, TX12, 56)]
/-- the kind of a cell (0 .. 11: an object of that class of "classes"; 12 int[], 13 boolean[], 14 long[]) and the length of a row -/
def shL : List (Nat × Nat) := [(10, 0), (5, 0), (12, 64), (5, 0), (12, 64), (1, 0), (12, 1024), (3, 0), (0, 0), (12, 64), (12, 10), (12, 10), (12, 10), (12, 10), (12, 8), (12, 8), (12, 10), (12, 10), (12, 10), (12, 350), (12, 10), (12, 10), (1, 0), (12, 1024), (7, 0), (12, 1024), (12, 1024), (12, 34), (4, 0), (12, 100), (12, 100), (12, 100), (13, 100), (13, 100), (8, 0), (2, 0), (12, 19), (12, 19), (12, 1024), (6, 0), (2, 0), (12, 19), (12, 19), (12, 1024), (9, 0), (0, 0), (12, 64), (12, 10), (12, 10), (12, 10), (12, 10), (12, 8), (12, 8), (12, 10), (12, 10), (12, 10), (12, 10), (12, 10), (12, 10), (12, 30), (12, 30), (12, 10), (6, 0), (2, 0), (12, 19), (12, 19), (12, 1024), (4, 0), (12, 100), (12, 100), (12, 100), (13, 100), (13, 100), (11, 0), (12, 47), (12, 47), (12, 64), (12, 64), (12, 8), (12, 8), (12, 20), (12, 20), (12, 20), (12, 20), (12, 1280), (13, 1280), (12, 20), (12, 20), (12, 20), (12, 4400), (12, 10), (12, 10), (12, 350), (12, 100), (13, 64), (13, 64), (12, 19), (12, 19), (12, 3200), (12, 4400), (12, 4700), (12, 30), (12, 30), (12, 10), (12, 10), (12, 64), (12, 10), (14, 1)]
def sh (o : Nat) : Nat × Nat := shL.getD o (99, 0)
/-- the cell that a field of references holds for good -/
def rfL : List (List Nat) := [[1, 3, 5, 7, 44], [2, 0, 0], [], [4, 0, 0], [], [6, 0, 0, 0, 0], [], [8, 16, 17, 18, 19, 20, 21, 22, 24, 28, 34, 39], [9, 10, 11, 12, 13, 14, 15, 0, 0, 0, 0], [], [], [], [], [], [], [], [], [], [], [], [], [], [23, 0, 0, 0, 0], [], [25, 26, 27, 0, 0], [], [], [], [24, 29, 30, 31, 32, 33, 0, 0, 0, 0], [], [], [], [], [], [35, 38, 0, 0, 0, 0], [36, 37], [], [], [], [40, 43, 0, 0, 0, 0, 0, 0], [41, 42], [], [], [], [45, 53, 54, 55, 56, 57, 58, 59, 60, 61, 62, 67, 0], [46, 47, 48, 49, 50, 51, 52, 0, 0, 0, 0], [], [], [], [], [], [], [], [], [], [], [], [], [], [], [], [], [63, 66, 0, 0, 0, 0, 0, 0], [64, 65], [], [], [], [62, 68, 69, 70, 71, 72, 0, 0, 0, 0], [], [], [], [], [], [74, 75, 0, 0, 0, 76, 77, 78, 79, 80, 81, 82, 83, 84, 85, 86, 87, 88, 0, 89, 90, 91, 92, 93, 94, 95, 0, 0, 0, 0, 96, 97, 0, 0, 0, 98, 0, 99, 0, 0, 100, 0, 0, 0, 0, 0, 101, 102, 103, 104, 0, 0, 0, 105, 106, 0], [], [], [], [], [], [], [], [], [], [], [], [], [], [], [], [], [], [], [], [], [], [], [], [], [], [], [], [], [], [], [], [], [], []]
def rf_ (o k : Nat) : Nat := (rfL.getD o []).getD k 0
def fkL : List (List Nat) := [[2, 2, 2, 2, 2, 2, 2, 0, 0, 0, 0], [2, 0, 0, 0, 0], [2, 2], [2, 2, 2, 2, 2, 2, 2, 2, 2, 2, 2, 2], [2, 2, 2, 2, 2, 2, 0, 0, 0, 0], [2, 0, 0], [2, 2, 0, 0, 0, 0, 0, 1], [2, 2, 2, 0, 0], [2, 2, 0, 0, 0, 0], [2, 2, 2, 2, 2, 2, 2, 2, 2, 2, 2, 2, 0], [2, 2, 2, 2, 2], [2, 2, 0, 0, 0, 2, 2, 2, 2, 2, 2, 2, 2, 2, 2, 2, 2, 2, 0, 2, 2, 2, 2, 2, 2, 2, 0, 0, 0, 0, 2, 2, 1, 1, 0, 2, 0, 2, 0, 0, 2, 0, 0, 0, 0, 0, 2, 2, 2, 2, 0, 0, 0, 2, 2, 0]]
def fk_ (c k : Nat) : Nat := (fkL.getD c []).getD k 0
def fn_ (c : Nat) : Nat := (fkL.getD c []).length
/-- what is laid: how many cells there are, and which fields of references have got their cell -/
abbrev Ly_ : Type := Nat × (Nat → Nat → Bool)
def ly : Ly_ := (108, fun _ _ => true)
def fval (ρ : Nat → Nat → Bool) (ad : Nat → Nat) (f : Int → Int) (o c k : Nat) : Value := match fk_ c k with
  | 0 => .int (Int32.ofInt (f k))
  | 1 => .long (Int64.ofInt (f k))
  | _ => if ρ o k then .ref (ad (rf_ o k)) else .null
def ce (cy : Nat → ClassId) (ρ : Nat → Nat → Bool) (ad : Nat → Nat) (f : Int → Int) (o : Nat) : va_E :=
  if (sh o).1 < 12 then .inr ((sh o).1, (List.range (fn_ (sh o).1)).map (fval ρ ad f o (sh o).1))
  else .inl (cy (sh o).1, (sh o).2, if (sh o).1 = 14 then .inr (.inl (fun j => Int64.ofInt (f j))) else .inl (fun j => Int32.ofInt (f j)))
def wl (cy : Nat → ClassId) (w : Ly_) (ad : Nat → Nat) (h : Hp_) : va_W := (List.range w.1).map (fun o => (ad o, ce cy w.2 ad (h o) o))
theorem wl_get {cy : Nat → ClassId} {w : Ly_} {ad : Nat → Nat} {h : Hp_} {o : Nat} (ho : o < w.1) : (wl cy w ad h)[o]? = some (ad o, ce cy w.2 ad (h o) o) := by
  simp [wl, List.getElem?_map, List.getElem?_range ho]
theorem wl_len {cy : Nat → ClassId} {w : Ly_} {ad : Nat → Nat} {h : Hp_} : (wl cy w ad h).length = w.1 := by simp [wl]
theorem wl_set {cy : Nat → ClassId} {w : Ly_} {ad : Nat → Nat} {h h' : Hp_} {o : Nat} {e : va_E} (he : e = ce cy w.2 ad (h' o) o) (hn : ∀ q, q ≠ o → h' q = h q) : (wl cy w ad h).set o (ad o, e) = wl cy w ad h' := by
  apply List.ext_getElem
  · simp [wl]
  · intro i h1 h2
    rw [List.getElem_set]
    by_cases hi : o = i
    · subst hi; simp [wl, he]
    · rw [if_neg hi]; simp [wl, hn i (fun q => hi q.symm)]
theorem ce_ad {cy : Nat → ClassId} {ρ : Nat → Nat → Bool} {ad ad' : Nat → Nat} {f : Int → Int} {o : Nat} (h : ∀ k, ρ o k = true → fk_ (sh o).1 k ≥ 2 → ad' (rf_ o k) = ad (rf_ o k)) : ce cy ρ ad' f o = ce cy ρ ad f o := by
  unfold ce
  split
  · congr 2
    apply List.map_congr_left
    intro k _
    unfold fval
    split
    · rfl
    · rfl
    · rename_i h0 h1
      by_cases hr : ρ o k = true
      · rw [if_pos hr, if_pos hr, h k hr (by
          have : fk_ (sh o).1 k ≠ 0 := fun e => h0 e
          have : fk_ (sh o).1 k ≠ 1 := fun e => h1 e
          omega)]
      · rw [if_neg hr, if_neg hr]
  · rfl
/-- the words of the tables that hold for good -/
def lw_good : List Cond := lw_tbl.filter goodWord
def k_nest : Cond → Bool
  | .methodLinkNest .. => true
  | .fieldLinkNest .. => true
  | _ => false
def lw_nest : List Cond := lw_tbl.filter k_nest
theorem tb_1 {w : Cond} (i : Nat) (h : tables_1_1[i]? = some w) : w ∈ lw_tbl := List.mem_append_right _ (List.mem_append_left _ (List.mem_of_getElem? h))
theorem tb_2 {w : Cond} (i : Nat) (h : tables_1_2[i]? = some w) : w ∈ lw_tbl := List.mem_append_right _ (List.mem_append_right _ (List.mem_append_left _ (List.mem_of_getElem? h)))
theorem tb_3 {w : Cond} (i : Nat) (h : tables_1_3[i]? = some w) : w ∈ lw_tbl := List.mem_append_right _ (List.mem_append_right _ (List.mem_append_right _ (List.mem_append_left _ (List.mem_of_getElem? h))))
theorem tb_4 {w : Cond} (i : Nat) (h : tables_1_4[i]? = some w) : w ∈ lw_tbl := List.mem_append_right _ (List.mem_append_right _ (List.mem_append_right _ (List.mem_append_right _ (List.mem_append_left _ (List.mem_of_getElem? h)))))
theorem tb_5 {w : Cond} (i : Nat) (h : tables_1_5[i]? = some w) : w ∈ lw_tbl := List.mem_append_right _ (List.mem_append_right _ (List.mem_append_right _ (List.mem_append_right _ (List.mem_append_right _ (List.mem_append_left _ (List.mem_of_getElem? h))))))
theorem tb_6 {w : Cond} (i : Nat) (h : tables_1_6[i]? = some w) : w ∈ lw_tbl := List.mem_append_right _ (List.mem_append_right _ (List.mem_append_right _ (List.mem_append_right _ (List.mem_append_right _ (List.mem_append_right _ (List.mem_append_left _ (List.mem_of_getElem? h)))))))
theorem tb_7 {w : Cond} (i : Nat) (h : tables_1_7[i]? = some w) : w ∈ lw_tbl := List.mem_append_right _ (List.mem_append_right _ (List.mem_append_right _ (List.mem_append_right _ (List.mem_append_right _ (List.mem_append_right _ (List.mem_append_right _ (List.mem_of_getElem? h)))))))
theorem tb_s {w : Cond} {q : MethodName × Nat} (hq : q ∈ lw_privs) (h : w = Cond.selects q.1.cls q.1 q.1) : w ∈ lw_tbl := List.mem_append_left _ (by
  subst h
  exact List.mem_map.mpr ⟨q, hq, rfl⟩)
theorem gd_ {w : Cond} (h : w ∈ lw_tbl) (hg : goodWord w = true) : w ∈ lw_good := List.mem_filter.mpr ⟨h, hg⟩
theorem nd_ {w : Cond} (h : w ∈ lw_tbl) (hg : k_nest w = true) : w ∈ lw_nest := List.mem_filter.mpr ⟨h, hg⟩
/-- good words lie among a method's own -/
theorem gin_ {y y' : MethodName} {b b' : ByteArray} {n n' : Nat} {r r' : Option FieldType} {ws : List Cond} (hws : ∀ w ∈ ws, w ∈ lw_good) (hc : Cond.code y' b' n' r' ∈ lw_good) : GoodIn (Cond.code y b n r :: lw_good) (ws ++ (Cond.code y' b' n' r' :: lw_good)) := by
  have key : ∀ w ∈ lw_good, w ∈ (Cond.code y b n r :: lw_good) ∧ ((w.onTables && w.keeps) = true ∨ ∃ ty, w = .arrayClass ty) := fun w h =>
    ⟨List.mem_cons_of_mem _ h, good_of_word (List.mem_filter.mp h).2⟩
  intro w hw
  rcases List.mem_append.mp hw with h | h
  · exact key w (hws w h)
  · rcases List.mem_cons.mp h with h | h
    · subst h; exact key _ hc
    · exact key w h
def stT (i : Nat) : List Int := match i with
  | 0 => [0x5601, 0x3401, 0x1801, 0x0ac1, 0x0521, 0x0221, 0x5601, 0x5401, 0x4801, 0x3801, 0x3001, 0x2401, 0x1c01, 0x1601, 0x5601, 0x5401, 0x5101, 0x4801, 0x3801, 0x3401, 0x3001, 0x2801, 0x2401, 0x2201, 0x1c01, 0x1801, 0x1601, 0x1401, 0x1201, 0x1101, 0x0ac1, 0x09c1, 0x08a1, 0x0521, 0x0441, 0x02a1, 0x0221, 0x0141, 0x0111, 0x0085, 0x0049, 0x0025, 0x0015, 0x0009, 0x0005, 0x0001, 0x5601]
  | 1 => [1, 2, 3, 4, 5, 38, 7, 8, 9, 10, 11, 12, 13, 29, 15, 16, 17, 18, 19, 20, 21, 22, 23, 24, 25, 26, 27, 28, 29, 30, 31, 32, 33, 34, 35, 36, 37, 38, 39, 40, 41, 42, 43, 44, 45, 45, 46]
  | _ => [1, 6, 9, 12, 29, 33, 6, 14, 14, 14, 17, 18, 20, 21, 14, 14, 15, 16, 17, 18, 19, 19, 20, 21, 22, 23, 24, 25, 26, 27, 28, 29, 30, 31, 32, 33, 34, 35, 36, 37, 38, 39, 40, 41, 42, 43, 46]
def stN (i : Nat) : String := match i with
  | 0 => "SIZES"
  | 1 => "AFTER_LIKELY"
  | _ => "AFTER_OTHER"
def yTold : MethodName := ⟨RX9, "tellBit", "(II)I"⟩
/-- what the machine holds besides the cells -/
def GW_ (D : va_G) (cy : Nat → ClassId) (A : Nat → Prop) (ad : Nat → Nat) (U : State) : Prop :=
  va_K D classes [(cy 12, .int), (cy 13, .boolean), (cy 14, .long)] U ∧ (∀ w ∈ lw_nest, va_Nw w U) ∧ (va_Fw RX7 yTold yX7_tellBit U ∧ va_Fw RX6 yTold yX6_tellBit U) ∧
  ∀ i, i < 3 → va_Z "WaveletStream$Odds" (stN i) "[I" (.ref (ad (1000 + i))) A U U.heap ∧ va_T .int (ad (1000 + i)) 47 (fun j => .int (Int32.ofInt ((stT i).getD j 0))) A U U.heap
theorem GW_.next {D : va_G} {cy : Nat → ClassId} {A A' : Nat → Prop} {ad ad' : Nat → Nat} {s U : State} {H : Heap} (hg : GW_ D cy A ad s) (hU : U.heap = H) (hW : s.WarmedH U.vm) (hk : ∀ q : Nat, q < s.heap.size → ¬ A q → H[q]? = s.heap[q]?) (hA : ∀ q, A' q → A q) (had : ∀ o, 1000 ≤ o → ad' o = ad o) : GW_ D cy A' ad' U := by
  obtain ⟨h1, h2, h3, h4⟩ := hg
  have hal := hW.alike
  refine ⟨va_K.moved hal h1, fun w hw => ?_, ⟨h3.1.moved (by decide +kernel) hal, h3.2.moved (by decide +kernel) hal⟩, fun i hi => ?_⟩
  · have hn := (List.mem_filter.mp hw).2
    have h5 := h2 w hw
    cases w <;> first | (exact va_Nw.warmM hW h5) | (exact va_Nw.warmF hW h5) | (simp [k_nest] at hn)
  · rw [had _ (by omega), hU]
    exact ⟨((((h4 i hi).1).moved hal).kept hk).narrow hA, ((((h4 i hi).2).moved hal).kept hk).narrow hA⟩
theorem GW_.calling {D : va_G} {cy : Nat → ClassId} {A : Nat → Prop} {ad : Nat → Nat} {U : State} {g : JFrame} {mk : MethodId} {a : Array Value} (hg : GW_ D cy A ad U) : GW_ D cy A ad (U.calling g mk a) := by
  obtain ⟨h1, h2, h3, h4⟩ := hg
  have hal : U.vm.Alike (U.calling g mk a).vm := Vm.Alike.refl U.vm
  refine ⟨va_K.moved hal h1, fun w hw => ?_, ⟨h3.1.moved (by decide +kernel) hal, h3.2.moved (by decide +kernel) hal⟩, fun i hi => ⟨((h4 i hi).1).moved hal, ((h4 i hi).2).moved hal⟩⟩
  have hn := (List.mem_filter.mp hw).2
  refine va_Nw.same (u := U) ?_ (rfl : U.vm = (U.calling g mk a).vm) (h2 w hw)
  cases w <;> first | rfl | (simp [k_nest] at hn)

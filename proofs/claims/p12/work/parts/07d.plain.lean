/-! heaps in their plain form: cells set one over another, in the order of their numbers -/
def setO (h : Hp_) (o : Nat) (g : Int → Int) : Hp_ := fun o' => if o' = o then g else h o'
def fup (f : Int → Int) (i v : Int) : Int → Int := fun j => if j = i then v else f j
def fsr (f : Int → Int) (a b : Int) (g : Int → Int) : Int → Int := fun j => if a ≤ j ∧ j < b then g j else f j
theorem sOf_ne (h : Hp_) {o o' : Nat} (g : Int → Int) (hn : o' ≠ o) : setO h o g o' = h o' := if_neg hn
theorem sOf_eq (h : Hp_) (o : Nat) (g : Int → Int) : setO h o g o = g := if_pos rfl
theorem setO_same (h : Hp_) (o : Nat) (g g' : Int → Int) : setO (setO h o g) o g' = setO h o g' := by
  funext q; unfold setO; by_cases hq : q = o <;> simp [hq]
theorem setO_comm (h : Hp_) {o o' : Nat} (g g' : Int → Int) (hn : o' ≠ o) : setO (setO h o g) o' g' = setO (setO h o' g') o g := by
  funext q; unfold setO
  by_cases h1 : q = o'
  · subst h1; simp [hn]
  · by_cases h2 : q = o
    · subst h2; simp [h1]
    · simp [h1, h2]
theorem setO_cg {h h' : Hp_} {o : Nat} {g g' : Int → Int} (e1 : h = h') (e2 : g = g') : setO h o g = setO h' o g' := by rw [e1, e2]
theorem fup_ne (f : Int → Int) {i i' : Int} (v : Int) (hn : i' ≠ i) : fup f i v i' = f i' := if_neg hn
theorem fup_eq (f : Int → Int) (i v : Int) : fup f i v i = v := if_pos rfl
theorem fup_same (f : Int → Int) (i v v' : Int) : fup (fup f i v) i v' = fup f i v' := by
  funext q; unfold fup; by_cases hq : q = i <;> simp [hq]
theorem fup_comm (f : Int → Int) {i i' : Int} (v v' : Int) (hn : i' ≠ i) : fup (fup f i v) i' v' = fup (fup f i' v') i v := by
  funext q; unfold fup
  by_cases h1 : q = i'
  · subst h1; simp [hn]
  · by_cases h2 : q = i
    · subst h2; simp [h1]
    · simp [h1, h2]
theorem fup_cg {f f' : Int → Int} {i : Int} {v : Int} (e1 : f = f') : fup f i v = fup f' i v := by rw [e1]
theorem up_of (h : Hp_) (o : Nat) (i v : Int) : up h o i v = setO h o (fup (h o) i v) := by
  funext q j; unfold up setO fup
  by_cases h1 : q = o
  · subst h1; by_cases h2 : j = i <;> simp [h2]
  · simp [h1]
theorem up_can {C C' : Hp_} {o : Nat} {F F' : Int → Int} {i v : Int} (h1 : C o = F) (h2 : fup F i v = F') (h3 : setO C o F' = C') : up C o i v = C' := by
  rw [up_of, h1, h2, h3]
theorem fsr_0 (f : Int → Int) (a : Int) (g : Int → Int) : f = fsr f a a g := by
  funext j; unfold fsr; rw [if_neg (by omega)]
theorem fsr_step (f : Int → Int) {a i : Int} {g : Int → Int} {v : Int} (hi : a ≤ i) (hv : v = g i) : fup (fsr f a i g) i v = fsr f a (i + 1) g := by
  subst hv; funext j; unfold fup fsr
  by_cases h2 : j = i
  · subst h2; rw [if_pos rfl, if_pos ⟨hi, by omega⟩]
  · rw [if_neg h2]
    by_cases h3 : a ≤ j ∧ j < i
    · rw [if_pos h3, if_pos ⟨h3.1, by omega⟩]
    · rw [if_neg h3, if_neg (fun q => h3 ⟨q.1, by omega⟩)]
theorem fsr_in (f : Int → Int) {a b i : Int} (g : Int → Int) (h1 : a ≤ i) (h2 : i < b) : fsr f a b g i = g i := if_pos ⟨h1, h2⟩
theorem fsr_out (f : Int → Int) {a b i : Int} (g : Int → Int) (h1 : i < a ∨ b ≤ i) : fsr f a b g i = f i := if_neg (fun q => by omega)
theorem fsr_cg (f : Int → Int) {a b : Int} {g g' : Int → Int} (h : ∀ j, a ≤ j → j < b → g j = g' j) : fsr f a b g = fsr f a b g' := by
  funext j; unfold fsr
  by_cases h3 : a ≤ j ∧ j < b
  · rw [if_pos h3, if_pos h3, h j h3.1 h3.2]
  · rw [if_neg h3, if_neg h3]
theorem rd_ {C : Hp_} {o : Nat} {F : Int → Int} {i v : Int} (h1 : C o = F) (h2 : F i = v) : C o i = v := by rw [h1, h2]
/-- floor out of Java's division -/
theorem fl_neg {v b : Int} (hb : 0 < b) (h : v.tmod b < 0) : v.tdiv b - 1 = v / b := by
  have h1 := Int.mul_tdiv_add_tmod v b
  have h2 : -b < v.tmod b := by
    have := Int.lt_tmod_of_pos v hb
    omega
  have h3 := (Int.ediv_emod_unique (a := v) (r := v.tmod b + b) (q := v.tdiv b - 1) hb).mpr ⟨by rw [Int.mul_sub]; omega, by omega, by omega⟩
  exact h3.1.symm
theorem fl_pos {v b : Int} (hb : 0 < b) (h : 0 ≤ v.tmod b) : v.tdiv b = v / b := by
  have h1 := Int.mul_tdiv_add_tmod v b
  have h2 := Int.tmod_lt_of_pos v hb
  have h3 := (Int.ediv_emod_unique (a := v) (r := v.tmod b) (q := v.tdiv b) hb).mpr ⟨by omega, h, h2⟩
  exact h3.1.symm
theorem setO_new {h : Hp_} {o : Nat} {g : Int → Int} (e : h o = g) : h = setO h o g := by
  subst e; funext q; unfold setO; by_cases hq : q = o
  · subst hq; simp
  · simp [hq]
theorem setO_id {h : Hp_} {o : Nat} {g : Int → Int} (e : g = h o) : setO h o g = h := (setO_new e.symm).symm
/-- bounds of a row's places -/
def bdr (f : Int → Int) (n B : Int) : Prop := ∀ j, 0 ≤ j → j < n → -B ≤ f j ∧ f j ≤ B

/-! THE REFERENCE'S PASSES: the coder, who is awake, told, refined, below, the sizes -/
abbrev WM_ : Type := KM_ × (Int → Int) × (Int → Int) × (Int → Int) × (Int → Int) × (Int → Int)
def wkM (md : Int) (src : Int → Int) (m pl ce s : Int) (W : WM_) : WM_ := match W with
  | (K, aw, to, rf, bl, sz) =>
    let g := cutS (aw (s - 1) + aw (s + 1))
    let v := cutS (aw (s - 10) + aw (s + 10))
    let tu : Int := if g < 0 ∨ (g = 0 ∧ v < 0) then 1 else 0
    let cx := if tu = 1 then 9 + (-3 * g - v) else 9 + (3 * g + v)
    let bb := if tu = 1 then 1 - bl ce else bl ce
    let R := cdM md src m K cx bb
    let s2 := if tu = 1 then 1 - R.1 else R.1
    (R.2, fup aw s (if s2 = 1 then -1 else 1), to, rf, fup bl ce (if s2 = 1 then 1 else 0), if md = 1 then fup sz ce (ior_ (sz ce) (1 * 2 ^ pl.toNat)) else sz)
theorem wkM_e {md m pl ce s g v tu cx sg bb got s2 z wv : Int} {src aw to rf bl sz sz2 : Int → Int} {K : KM_}
    (hg : g = cutS (aw (s - 1) + aw (s + 1))) (hv : v = cutS (aw (s - 10) + aw (s + 10))) (htu : tu = if g < 0 ∨ (g = 0 ∧ v < 0) then 1 else 0) (hcx : cx = if tu = 1 then 9 + (-3 * g - v) else 9 + (3 * g + v)) (hsg : sg = bl ce) (hbb : bb = if tu = 1 then 1 - sg else sg)
    (hgot : got = (cdM md src m K cx bb).1) (hs2 : s2 = if tu = 1 then 1 - got else got) (hz : z = if s2 = 1 then 1 else 0) (hw : wv = if s2 = 1 then -1 else 1) (hsz : sz2 = if md = 1 then fup sz ce (ior_ (sz ce) (1 * 2 ^ pl.toNat)) else sz) :
    wkM md src m pl ce s (K, aw, to, rf, bl, sz) = ((cdM md src m K cx bb).2, fup aw s wv, to, rf, fup bl ce z, sz2) := by
  subst hg hv htu hcx hsg hbb hgot hs2 hz hw hsz
  rfl
theorem wk_cx {g v tu cx : Int} (hg : -1 ≤ g ∧ g ≤ 1) (hv : -1 ≤ v ∧ v ≤ 1) (htu : tu = if g < 0 ∨ (g = 0 ∧ v < 0) then 1 else 0) (hcx : cx = if tu = 1 then 9 + (-3 * g - v) else 9 + (3 * g + v)) : (tu = 0 ∨ tu = 1) ∧ 9 ≤ cx ∧ cx ≤ 13 := by
  by_cases q : g < 0 ∨ (g = 0 ∧ v < 0)
  · rw [if_pos q] at htu; subst htu; rw [if_pos rfl] at hcx; omega
  · rw [if_neg q] at htu; subst htu; rw [if_neg (by decide)] at hcx; omega

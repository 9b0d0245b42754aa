/-! CONTEXTS over a square of ten by ten, its border never awake -/
def hS (w : Int → Int) (p : Int) : Int := if w p = 0 then 0 else 1
def rowS (w : Int → Int) (p : Int) : Int := hS w (p - 1) + hS w (p + 1)
def colS (w : Int → Int) (p : Int) : Int := hS w (p - 10) + hS w (p + 10)
def acrS (w : Int → Int) (p : Int) : Int := hS w (p - 11) + hS w (p - 9) + hS w (p + 9) + hS w (p + 11)
def rfS (r v e : Int) : Int := if r = 2 then 8 else if r = 1 then (if v > 0 then 7 else if e > 0 then 6 else 5) else if v = 2 then 4 else if v = 1 then 3 else if e > 1 then 2 else e
def cfS (t e : Int) : Int := if e > 2 then 8 else if e = 2 then (if t > 0 then 7 else 6) else 3 * e + (if t < 2 then t else 2)
def cxS (kd r v e : Int) : Int := if kd = 2 then cfS (r + v) e else if kd = 1 then rfS v r e else rfS r v e
def ctxS (w : Int → Int) (kd p : Int) : Int := cxS kd (rowS w p) (colS w p) (acrS w p)
theorem hS_r (w : Int → Int) (p : Int) : 0 ≤ hS w p ∧ hS w p ≤ 1 := by unfold hS; split <;> omega
theorem rowS_r (w : Int → Int) (p : Int) : 0 ≤ rowS w p ∧ rowS w p ≤ 2 := by
  unfold rowS
  have h1 := hS_r w (p - 1)
  have h2 := hS_r w (p + 1)
  omega
theorem colS_r (w : Int → Int) (p : Int) : 0 ≤ colS w p ∧ colS w p ≤ 2 := by
  unfold colS
  have h1 := hS_r w (p - 10)
  have h2 := hS_r w (p + 10)
  omega
theorem acrS_r (w : Int → Int) (p : Int) : 0 ≤ acrS w p ∧ acrS w p ≤ 4 := by
  unfold acrS
  have h1 := hS_r w (p - 11)
  have h2 := hS_r w (p - 9)
  have h3 := hS_r w (p + 9)
  have h4 := hS_r w (p + 11)
  omega
theorem cxS_r {kd r v e : Int} (h1 : 0 ≤ r ∧ r ≤ 2) (h2 : 0 ≤ v ∧ v ≤ 2) (h3 : 0 ≤ e ∧ e ≤ 4) : 0 ≤ cxS kd r v e ∧ cxS kd r v e ≤ 8 := by
  unfold cxS rfS cfS
  (repeat' split) <;> omega
theorem ctxS_r (w : Int → Int) (kd p : Int) : 0 ≤ ctxS w kd p ∧ ctxS w kd p ≤ 8 := cxS_r (rowS_r w p) (colS_r w p) (acrS_r w p)
theorem hS_mod {w : Int → Int} {p : Int} (h : -1 ≤ w p ∧ w p ≤ 1) : w p % 2 = hS w p := by unfold hS; split <;> omega
/-- a sum cut to -1 .. 1 -/
def cutS (n : Int) : Int := if n > 0 then 1 else if n < 0 then -1 else 0
/-- what is told of a sign -/
def sgA (w : Int → Int) (p : Int) : Int := cutS (w (p - 1) + w (p + 1))
def sgB (w : Int → Int) (p : Int) : Int := cutS (w (p - 10) + w (p + 10))
def sgT (w : Int → Int) (p : Int) : Int := if sgA w p < 0 ∨ sgA w p = 0 ∧ sgB w p < 0 then 1 else 0
def sgX (w : Int → Int) (p : Int) : Int := if sgT w p = 1 then 9 + (-3 * sgA w p - sgB w p) else 9 + (3 * sgA w p + sgB w p)
def xr_ (a b : Int) : Int := if b = 1 then 1 - a else a
theorem cutS_r (n : Int) : -1 ≤ cutS n ∧ cutS n ≤ 1 := by unfold cutS; (repeat' split) <;> omega
theorem sgT_r (w : Int → Int) (p : Int) : sgT w p = 0 ∨ sgT w p = 1 := by unfold sgT; split <;> omega
theorem sgX_r (w : Int → Int) (p : Int) : 9 ≤ sgX w p ∧ sgX w p ≤ 13 := by
  have h1 := cutS_r (w (p - 1) + w (p + 1))
  have h2 := cutS_r (w (p - 10) + w (p + 10))
  unfold sgX sgT sgA sgB
  (repeat' split) <;> omega

theorem wrs1 (s : Int → Int) (a b : Int) : s = wrs s a b (fw (fun k => s (a + b * k)) 1) (1 : Int).toNat := by
  show s = fup s (a + b * ((0 : Nat) : Int)) (fw (fun k => s (a + b * k)) 1 ((0 : Nat) : Int))
  funext p
  unfold fup fw
  by_cases h : p = a + b * ((0 : Nat) : Int)
  · rw [if_pos h, if_pos rfl, h]; rfl
  · rw [if_neg h]
/-- s(k) out of the d that lie behind -/
theorem fourth_s {f D g : Int → Int} {n m : Int} (L : Int → Int) (hn : 2 ≤ n) (h0 : 0 ≤ m) (h1 : m < (n + 1) / 2) (hD : ∀ j, D j = dl L n (j - (n + 1) / 2)) :
    (fsr (fsr f ((n + 1) / 2) n D) 0 m g ((n + 1) / 2 + max (m - 1) 0) + fsr (fsr f ((n + 1) / 2) n D) 0 m g ((n + 1) / 2 + min m (n / 2 - 1)) + 2) / 4 = (dl L n (ck (m - 1) n) + dl L n (ck m n) + 2) / 4 := by
  have key : ∀ j, (n + 1) / 2 ≤ j → j < n → fsr (fsr f ((n + 1) / 2) n D) 0 m g j = dl L n (j - (n + 1) / 2) := fun j a b => by
    rw [fsr_out _ _ (Or.inr (by omega)), fsr_in _ _ a b, hD]
  have e1 : (n + 1) / 2 + max (m - 1) 0 - (n + 1) / 2 = ck (m - 1) n := by unfold ck; (repeat' split) <;> omega
  have e2 : (n + 1) / 2 + min m (n / 2 - 1) - (n + 1) / 2 = ck m n := by unfold ck; (repeat' split) <;> omega
  rw [key ((n + 1) / 2 + max (m - 1) 0) (by omega) (by omega), key ((n + 1) / 2 + min m (n / 2 - 1)) (by omega) (by omega), e1, e2]
theorem split_out (f L : Int → Int) {n j : Int} (hn : 2 ≤ n) (h0 : 0 ≤ j) (h1 : j < n) : fsr (fsr f ((n + 1) / 2) n (fun j => dl L n (j - (n + 1) / 2))) 0 ((n + 1) / 2) (fun j => fw L n j) j = fw L n j := by
  by_cases q : j < (n + 1) / 2
  · rw [fsr_in _ _ h0 q]
  · rw [fsr_out _ _ (Or.inr (by omega)), fsr_in _ _ (by omega) h1]
    unfold fw
    rw [if_neg (by omega), if_neg q]

/-! both streams are one -/
theorem DQS_i {cnt n : Int} {E : DT_} {ws : Int → Int} (hlq : LQ E.1 ws E.2.1 cnt) (hp : ∀ c : Int, 0 ≤ c → c < cnt → 0 ≤ E.1 c ∧ E.1 c ≤ 12) (hc : cnt ≤ 10) (hw : ∀ c : Int, 0 ≤ c → c < cnt → ws c ≤ 1000) (h0 : ∀ j : Int, 0 ≤ j → j < 350 → 0 ≤ E.2.1 j) (hn : n ≤ 3) : DQS cnt n E ws := by
  intro c i c0 c1 i0 i1
  have t := tkF_r (hp c c0 c1) ⟨i0, i1⟩ hn
  have z := LQ_sz hlq (hp c c0 c1) ⟨i0, i1⟩ hn ⟨⟨c0, c1⟩, by omega⟩ (hw c c0 c1) h0
  exact ⟨⟨t.1, t.2.1, t.2.2.1⟩, z.1.1, z.2.1, z.2.2⟩
theorem ST_fin {a b f : Int} {o p : Int → Int} {X : PBS_} (hC : CBR a f o X) (hu : 0 ≤ X.1 ∧ X.2.1 = 0) (hR : RBR b 0 p X) : a = b ∧ ∀ j : Int, 0 ≤ j → j < b → o j = p j := by
  have e1 := (CBR_l hC hu).1
  have e2 := (RBR_u hR).1
  refine ⟨by omega, fun j j0 j1 => ?_⟩
  have k1 := hC.2.2 j j0 (by omega)
  have k2 : p j = X.2.2 j := hR.2.2 j j0 (by rw [hu.2, if_neg (show ¬ (0 : Int) < 0 by decide)]; omega)
  rw [k1, k2]
theorem ST_eq {a b f W H l n cnt : Int} {o p cl : Int → Int} {D E : DT_} (hD : DQE cnt D E cl) (hE : DQS cnt n E cl) (hl : 0 ≤ l ∧ l ≤ 3) (hn : 1 ≤ n ∧ n ≤ 3) (hc : cnt = 3 * l + 1) (hC : CBR a f o (stS D n l n.toNat (y0S W H l n)).1 ∧ (0 ≤ (stS D n l n.toNat (y0S W H l n)).1.1 ∧ (stS D n l n.toNat (y0S W H l n)).1.2.1 = 0)) (hR : RBR b 0 p (stS E n l n.toNat (y0S W H l n)).1) : a = b ∧ ∀ j : Int, 0 ≤ j → j < b → o j = p j := by
  rw [stS_cg hD hE hl hc n.toNat (by omega)] at hC
  exact ST_fin hC.1 hC.2 hR

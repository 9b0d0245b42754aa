theorem hl_x {o : Int → Int} {e c pl n w : Int} (h : e - gpS o e c < w + (bl n - 1)) : (hlS o e c pl n w).1 = 1 := by
  unfold hlS
  rw [if_pos h]
theorem hl_p {o : Int → Int} {e c pl n w : Int} (h : ¬ e - gpS o e c < w + (bl n - 1)) : hlS o e c pl n w = (0, n, tbS o (gpS o e c) (w + (bl n - 1)).toNat, gpS o e c + (w + (bl n - 1)), pl, w) := by
  unfold hlS
  rw [if_neg h]
theorem hc_x {o : Int → Int} {e p pl tk w : Int} (h : (ctS o e p).1 < 0) : (hcS o e p pl tk w).1 = 1 := by
  unfold hcS
  rw [if_pos h]
theorem hc_m {o : Int → Int} {e p pl tk w : Int} (h : ¬ (ctS o e p).1 < 0) (h2 : pas pl < tk + (ctS o e p).1) : (hcS o e p pl tk w).1 = -1 := by
  unfold hcS
  rw [if_neg h, if_pos h2]
theorem hc_p {o : Int → Int} {e p pl tk w : Int} (h : ¬ (ctS o e p).1 < 0) (h2 : ¬ pas pl < tk + (ctS o e p).1) : hcS o e p pl tk w = hlS o e (ctS o e p).2 pl (ctS o e p).1 (w + gnS o e (ctS o e p).2) := by
  unfold hcS
  rw [if_neg h, if_neg h2]
theorem gp_b {o : Int → Int} {e c g : Int} (h0 : 0 ≤ g) (h1 : c + g < e) (h2 : ∀ j : Int, 0 ≤ j → j < g → bitO o (c + j) = 1) (h3 : bitO o (c + g) ≠ 1) : g = gnS o e c ∧ c + g + 1 = gpS o e c := by
  have k := gnS_u (o := o) (e := e) (p := c) (g := g) h0 (by omega) h2 (Or.inr h3)
  refine ⟨k, ?_⟩
  unfold gpS
  rw [← k, if_pos h1]
theorem gp_e {o : Int → Int} {e c g : Int} (h0 : 0 ≤ g) (h1 : c + g = e) (h2 : ∀ j : Int, 0 ≤ j → j < g → bitO o (c + j) = 1) : g = gnS o e c ∧ gpS o e c = e := by
  have k := gnS_u (o := o) (e := e) (p := c) (g := g) h0 (by omega) h2 (Or.inl h1)
  refine ⟨k, ?_⟩
  unfold gpS
  rw [← k, if_neg (by omega)]
  omega
/-- what is known of a head behind its planes -/
def GHA (o : Int → Int) (e p pl tk w ml m q plq : Int) : Prop := (ml = 1 → (hbS o e p pl tk w).1 = -1) ∧ (ml = 0 → m = 1 → (hbS o e p pl tk w).1 = 1) ∧ (ml = 0 → m = 0 → hbS o e p pl tk w = hcS o e q plq tk w ∧ p ≤ q ∧ q ≤ e)
theorem hb_1 {o : Int → Int} {e p pl tk w : Int} (c1 : 1 ≤ e - p) (b1 : tbS o p 1 = 1) (ht : tk ≠ 0) : hbS o e p pl tk w = hcS o e (p + 1) pl tk w := by
  unfold hbS
  rw [if_neg (by omega), if_neg (by omega), if_neg ht]
theorem hb_2 {o : Int → Int} {e p pl tk w : Int} (c1 : 1 ≤ e - p) (b1 : tbS o p 1 = 1) (ht : tk = 0) (c2 : e - (p + 1) < 4) : (hbS o e p pl tk w).1 = 1 := by
  unfold hbS
  rw [if_neg (by omega), if_neg (by omega), if_pos ht, if_pos c2]
theorem hb_3 {o : Int → Int} {e p pl tk w : Int} (c1 : 1 ≤ e - p) (b1 : tbS o p 1 = 1) (ht : tk = 0) (c2 : 4 ≤ e - (p + 1)) (b2 : ¬(1 ≤ tbS o (p + 1) 4 ∧ tbS o (p + 1) 4 ≤ 12)) (b3 : 0 ≤ tbS o (p + 1) 4) : (hbS o e p pl tk w).1 = -1 := by
  unfold hbS
  rw [if_neg (by omega), if_neg (by omega), if_pos ht, if_neg (by omega), if_pos (by omega)]
theorem hb_4 {o : Int → Int} {e p pl tk w : Int} (c1 : 1 ≤ e - p) (b1 : tbS o p 1 = 1) (ht : tk = 0) (c2 : 4 ≤ e - (p + 1)) (b2 : 1 ≤ tbS o (p + 1) 4 ∧ tbS o (p + 1) 4 ≤ 12) : hbS o e p pl tk w = hcS o e (p + 5) (tbS o (p + 1) 4) tk w := by
  unfold hbS
  rw [if_neg (by omega), if_neg (by omega), if_pos ht, if_neg (by omega), if_neg (by omega)]
theorem hb_5 {o : Int → Int} {e p pl tk w : Int} (c1 : e - p < 1) : (hbS o e p pl tk w).1 = 1 := by
  unfold hbS
  rw [if_pos c1]
theorem hb_6 {o : Int → Int} {e p pl tk w : Int} (c1 : 1 ≤ e - p) (b1 : tbS o p 1 = 0) : hbS o e p pl tk w = (0, 0, 0, p + 1, pl, w) := by
  unfold hbS
  rw [if_neg (by omega), if_pos (by omega)]
theorem GHA_1 {o : Int → Int} {e p pl tk w m z1 m1 p1 ml : Int} (g1 : GBQ o e m p 1 z1 m1 p1) (hm : m = 0) (h1 : z1 ≠ 0) (h10 : m1 = 0) (ht : tk ≠ 0) (hml : ml = 0) : GHA o e p pl tk w ml m1 p1 pl := by
  have t := tb_24 o p
  refine ⟨fun q => by omega, fun _ q => by omega, fun _ _ => ?_⟩
  rcases GB_c (k := 1) g1 (by omega) rfl (by decide) with ⟨_, c1, e1, _, ep1⟩ | ⟨m11, c⟩
  · rw [ep1]
    exact ⟨hb_1 c1 (by omega) ht, by omega, by omega⟩
  · exfalso; omega
theorem GHA_2 {o : Int → Int} {e p pl tk w m z1 m1 p1 z2 m2 p2 ml : Int} (g1 : GBQ o e m p 1 z1 m1 p1) (hm : m = 0) (h1 : z1 ≠ 0) (h10 : m1 = 0) (ht : tk = 0) (g2 : GBQ o e m1 p1 4 z2 m2 p2)
    (hml : (ml = 1 ∧ m2 = 0 ∧ ¬(1 ≤ z2 ∧ z2 ≤ 12)) ∨ (ml = 0 ∧ (m2 = 1 ∨ (1 ≤ z2 ∧ z2 ≤ 12)))) : GHA o e p pl tk w ml m2 p2 z2 := by
  have t := tb_24 o p
  have t2 := tb_24 o (p + 1)
  rcases GB_c (k := 1) g1 (by omega) rfl (by decide) with ⟨_, c1, e1, _, ep1⟩ | ⟨m11, c⟩
  · rw [ep1] at g2
    rcases GB_c (k := 4) g2 (by omega) rfl (by decide) with ⟨_, c2, e2, m20, ep2⟩ | ⟨m21, c⟩
    · refine ⟨fun q => hb_3 c1 (by omega) ht c2 (by omega) (by omega), fun _ q => by omega, fun q _ => ?_⟩
      have k := hb_4 (o := o) (e := e) (p := p) (pl := pl) (tk := tk) (w := w) c1 (by omega) ht c2 (by omega)
      rw [k, ep2, e2]
      exact ⟨by rw [show p + 1 + 4 = p + 5 by omega], by omega, by omega⟩
    · rcases c with c | c
      · exfalso; omega
      · exact ⟨fun q => by omega, fun _ _ => hb_2 c1 (by omega) ht c.2, fun _ q => by omega⟩
  · exfalso; omega
/-- behind its passes -/
def GHB (o : Int → Int) (e p pl tk w ml m q n plq : Int) : Prop := (ml = 1 → (hbS o e p pl tk w).1 = -1) ∧ (ml = 0 → m = 1 → (hbS o e p pl tk w).1 = 1) ∧ (ml = 0 → m = 0 → ∃ c : Int, (hbS o e p pl tk w = hcS o e c plq tk w ∧ p ≤ c ∧ c ≤ e) ∧ (ctS o e c).1 = n ∧ q = (ctS o e c).2)
theorem GHB_1 {o : Int → Int} {e p pl tk w ml m q n plq : Int} (h : GHA o e p pl tk w ml m q plq) (hml : ml = 1) : GHB o e p pl tk w ml m q n plq :=
  ⟨h.1, h.2.1, fun q => by omega⟩
theorem GHB_2 {o : Int → Int} {e p pl tk w ml m q n plq m2 q2 : Int} (h : GHA o e p pl tk w ml m q plq) (hml : ml = 0) (hm : 0 ≤ m ∧ m ≤ 1) (g : GPQ o e m q n m2 q2) : GHB o e p pl tk w ml m2 q2 n plq := by
  refine ⟨h.1, fun _ y => ?_, fun _ y => ?_⟩
  · by_cases c : m = 1
    · exact h.2.1 hml c
    · have k := h.2.2 hml (by omega)
      rw [k.1]
      refine hc_x ?_
      by_cases c2 : 0 ≤ (ctS o e q).1
      · have := (g.1 (by omega) c2).1.2
        omega
      · omega
  · have c : m = 0 := by
      by_cases c : m = 1
      · have := g.2.2 c
        omega
      · omega
    have c2 : 0 ≤ (ctS o e q).1 := by
      by_cases c2 : (ctS o e q).1 < 0
      · have := g.2.1 c c2
        omega
      · omega
    have u := g.1 c c2
    exact ⟨q, h.2.2 hml c, u.1.1.symm, u.2⟩
/-- behind the bound of its passes -/
def GHC (o : Int → Int) (e p pl tk w ml m q n plq : Int) : Prop := (ml = 1 → (hbS o e p pl tk w).1 = -1) ∧ (ml = 0 → m = 1 → (hbS o e p pl tk w).1 = 1) ∧ (ml = 0 → m = 0 → hbS o e p pl tk w = hlS o e q plq n (w + gnS o e q) ∧ p ≤ q ∧ q ≤ e)
theorem GHC_1 {o : Int → Int} {e p pl tk w ml m q n plq ml2 : Int} (h : GHB o e p pl tk w ml m q n plq) (hm : 0 ≤ m ∧ m ≤ 1) (hn : 0 ≤ n) (hc : (ml = 1 ∧ ml2 = 1) ∨ (ml = 0 ∧ m = 1 ∧ ml2 = 0) ∨ (ml = 0 ∧ m = 0 ∧ ml2 = 1 ∧ pas plq < tk + n) ∨ (ml = 0 ∧ m = 0 ∧ ml2 = 0 ∧ tk + n ≤ pas plq)) : GHC o e p pl tk w ml2 m q n plq := by
  rcases hc with c | c | c | c
  · exact ⟨fun _ => h.1 c.1, fun y => by omega, fun y => by omega⟩
  · exact ⟨fun y => by omega, fun _ y => h.2.1 c.1 y, fun _ y => by omega⟩
  · obtain ⟨c9, ⟨k, k1, k2⟩, k3, k4⟩ := h.2.2 c.1 c.2.1
    refine ⟨fun _ => ?_, fun y => by omega, fun y => by omega⟩
    rw [k]
    exact hc_m (by omega) (by rw [k3]; exact c.2.2.2)
  · obtain ⟨c9, ⟨k, k1, k2⟩, k3, k4⟩ := h.2.2 c.1 c.2.1
    refine ⟨fun y => by omega, fun _ y => by omega, fun _ _ => ?_⟩
    have r := (ctS_r o e c9).2 (by omega)
    rw [k, k4]
    refine ⟨?_, by omega, by omega⟩
    rw [hc_p (by omega) (by rw [k3]; omega), k3]
/-- while its width grows -/
def GHD (o : Int → Int) (e p pl tk w ml m q plq n gr wc : Int) : Prop := (ml = 1 → gr = 0 ∧ (hbS o e p pl tk w).1 = -1) ∧ (ml = 0 → m = 1 → (hbS o e p pl tk w).1 = 1) ∧ (ml = 0 → m = 0 → ∃ c : Int, (hbS o e p pl tk w = hlS o e c plq n (w + gnS o e c) ∧ p ≤ c ∧ c ≤ e) ∧ w ≤ wc ∧ (gr = 1 → (q = c + (wc - w) ∧ q ≤ e) ∧ ∀ j : Int, 0 ≤ j → j < wc - w → bitO o (c + j) = 1) ∧ (gr = 0 → wc = w + gnS o e c ∧ q = gpS o e c))
theorem GHD_0 {o : Int → Int} {e p pl tk w ml m q plq n gr wc : Int} (h : GHC o e p pl tk w ml m q n plq) (hg : (ml = 0 → gr = 1) ∧ (ml = 1 → gr = 0)) (hw : wc = w) : GHD o e p pl tk w ml m q plq n gr wc := by
  refine ⟨fun y => ⟨hg.2 y, h.1 y⟩, h.2.1, fun y y2 => ?_⟩
  have k := h.2.2 y y2
  have g1 := hg.1 y
  exact ⟨q, k, by omega, fun _ => ⟨⟨by omega, k.2.2⟩, fun j j0 j1 => by exfalso; omega⟩, fun y3 => by exfalso; omega⟩
theorem GHD_s {o : Int → Int} {e p pl tk w ml m q plq n gr wc z m2 q2 gr2 wc2 : Int} (h : GHD o e p pl tk w ml m q plq n gr wc) (h1 : gr = 1) (hml : 0 ≤ ml ∧ ml ≤ 1) (hm : 0 ≤ m ∧ m ≤ 1) (hw : 3 ≤ w) (hn : 1 ≤ n ∧ n ≤ 37) (g : GBQ o e m q 1 z m2 q2)
    (hg : (gr2 = 1 ∧ z = 1 ∧ m2 = 0 ∧ wc2 = wc + 1) ∨ (gr2 = 0 ∧ (z ≠ 1 ∨ m2 = 1) ∧ wc2 = wc)) : GHD o e p pl tk w ml m2 q2 plq n gr2 wc2 := by
  have ml0 : ml = 0 := by
    by_cases c : ml = 1
    · have := (h.1 c).1
      omega
    · omega
  have bn := bl_n hn
  rcases GB_c (k := 1) g hm rfl (by decide) with ⟨m0, c1, e1, m20, ep⟩ | ⟨m21, c⟩
  · obtain ⟨c9, k, hwc, k1, _⟩ := h.2.2 ml0 m0
    obtain ⟨⟨kq, kq2⟩, kb⟩ := k1 h1
    rw [tbS_1] at e1
    refine ⟨fun y => by omega, fun _ y => by omega, fun _ _ => ⟨c9, k, by omega, fun y => ?_, fun y => ?_⟩⟩
    · have y2 : z = 1 ∧ wc2 = wc + 1 := by omega
      refine ⟨⟨by omega, by omega⟩, fun j j0 j1 => ?_⟩
      by_cases d : j = wc - w
      · rw [d, ← kq, ← e1]
        exact y2.1
      · exact kb j j0 (by omega)
    · have y2 : z ≠ 1 ∧ wc2 = wc := by omega
      have u := gp_b (o := o) (e := e) (c := c9) (g := wc - w) (by omega) (by omega) kb (by rw [← kq, ← e1]; exact y2.1)
      omega
  · refine ⟨fun y => by omega, fun _ _ => ?_, fun _ y => by omega⟩
    rcases c with c | c
    · exact h.2.1 ml0 c
    · obtain ⟨c9, k, hwc, k1, _⟩ := h.2.2 ml0 c.1
      obtain ⟨⟨kq, kq2⟩, kb⟩ := k1 h1
      have u := gp_e (o := o) (e := e) (c := c9) (g := wc - w) (by omega) (by omega) kb
      rw [k.1]
      exact hl_x (by rw [u.2]; omega)
/-- what a head's reading leaves: n83, t86, w88, d104 behind it, t0 and c104 before it -/
def GHP (R : BR_) (m ml q n83 t0 t86 w88 c104 d104 : Int) : Prop := ((R.1 = 0 → (m = 0 ∧ ml = 0) ∧ q = R.2.2.2.1 ∧ n83 = R.2.2.2.2.1 ∧ t86 = t0 + R.2.1 ∧ w88 = R.2.2.2.2.2 ∧ (RVQ d104 R.2.2.1 ∨ (R.2.2.1 = 0 ∧ d104 = c104))) ∧ (R.1 = 1 → m = 1 ∧ ml = 0)) ∧ (R.1 = -1 → ml = 1) ∧ (R.1 = 0 ∨ R.1 = 1 ∨ R.1 = -1)
theorem GHP_0 {o : Int → Int} {e p pl tk w m z1 m1 p1 ml c : Int} (g1 : GBQ o e m p 1 z1 m1 p1) (hm : m = 0) (hml : ml = 0) (hz : z1 = 0 ∨ m1 = 1) : GHP (hbS o e p pl tk w) m1 ml p1 pl tk tk w c c := by
  have t := tb_24 o p
  rcases GB_c (k := 1) g1 (by omega) rfl (by decide) with ⟨_, c1, e1, m10, ep1⟩ | ⟨m11, d⟩
  · rw [hb_6 c1 (by omega)]
    exact ⟨⟨fun _ => ⟨⟨m10, hml⟩, ep1, rfl, (show tk = tk + 0 by omega), rfl, Or.inr ⟨rfl, rfl⟩⟩, fun y => absurd y (show ¬((0 : Int) = 1) by decide)⟩, fun y => absurd y (show ¬((0 : Int) = -1) by decide), Or.inl rfl⟩
  · have k := hb_5 (o := o) (e := e) (p := p) (pl := pl) (tk := tk) (w := w) (by omega)
    exact ⟨⟨fun y => by omega, fun _ => ⟨m11, hml⟩⟩, fun y => by omega, by omega⟩
theorem GHP_1 {o : Int → Int} {e p pl tk w m q plq n gr wc ml n83 t0 t86 w88 c d : Int} (h : GHD o e p pl tk w ml m q plq n gr wc) (hml : ml = 1) : GHP (hbS o e p pl tk w) m ml q n83 t0 t86 w88 c d := by
  have k := (h.1 hml).2
  exact ⟨⟨fun y => by omega, fun y => by omega⟩, fun _ => hml, by omega⟩
theorem GHP_2 {o : Int → Int} {e p pl tk w ml m q plq n gr wc z m2 q2 t86 c : Int} (h : GHD o e p pl tk w ml m q plq n gr wc) (hgr : gr = 0) (hml : ml = 0) (hm : 0 ≤ m ∧ m ≤ 1) (g : GBQ o e m q (wc + (bl n - 1)) z m2 q2) (ht : m2 = 1 ∨ (m2 = 0 ∧ t86 = tk + n)) : GHP (hbS o e p pl tk w) m2 ml q2 plq tk t86 wc c z := by
  by_cases y : m2 = 1
  · have k : (hbS o e p pl tk w).1 = 1 := by
      by_cases c1 : m = 1
      · exact h.2.1 hml c1
      · obtain ⟨c9, k, hwc, _, k2⟩ := h.2.2 hml (by omega)
        have k3 := k2 hgr
        rw [k.1]
        refine hl_x ?_
        by_cases c2 : wc + (bl n - 1) ≤ e - q
        · have := (g.1 (by omega) c2).1.2
          omega
        · omega
    exact ⟨⟨fun u => by omega, fun _ => ⟨y, hml⟩⟩, fun u => by omega, by omega⟩
  · have m0 : m = 0 := by
      by_cases c1 : m = 1
      · have := (g.2.2.1 c1).2
        omega
      · omega
    obtain ⟨c9, k, hwc, _, k2⟩ := h.2.2 hml m0
    obtain ⟨k3, k4⟩ := k2 hgr
    have c2 : wc + (bl n - 1) ≤ e - q := by
      by_cases c2 : e - q < wc + (bl n - 1)
      · have := g.2.1 m0 c2
        omega
      · omega
    have u := g.1 m0 c2
    have r := k.1
    rw [hl_p (by omega), ← k3, ← k4] at r
    rw [r]
    exact ⟨⟨fun _ => ⟨⟨by omega, hml⟩, u.2, rfl, (show t86 = tk + n by omega), rfl, Or.inl (by rw [u.1.1]; exact RVQ_t _ _ _)⟩, fun v => absurd v (show ¬((0 : Int) = 1) by decide)⟩, fun v => absurd v (show ¬((0 : Int) = -1) by decide), Or.inl rfl⟩
theorem GHP_m {R : BR_} {m ml q n83 t0 t86 w88 c d : Int} (h : GHP R m ml q n83 t0 t86 w88 c d) (hm : m = 1) (hl : ml = 0) : R.1 = 1 := by
  rcases h.2.2 with y | y | y
  · have := (h.1.1 y).1.1
    omega
  · exact y
  · have := h.2.1 y
    omega
theorem GHP_l {R : BR_} {m ml q n83 t0 t86 w88 c d : Int} (h : GHP R m ml q n83 t0 t86 w88 c d) (hl : ml = 1) : R.1 = -1 := by
  rcases h.2.2 with y | y | y
  · have := (h.1.1 y).1.2
    omega
  · have := (h.1.2 y).2
    omega
  · exact y
theorem GHP_k {R : BR_} {m ml q n83 t0 t86 w88 c d : Int} (h : GHP R m ml q n83 t0 t86 w88 c d) (hl : ml = 0) (hm : m = 0) : R.1 = 0 := by
  rcases h.2.2 with y | y | y
  · exact y
  · have := (h.1.2 y).1
    omega
  · have := h.2.1 y
    omega
theorem GHP_r {o : Int → Int} {e p pl tk w m ml q n83 t86 w88 c d : Int} (g : GHP (hbS o e p pl tk w) m ml q n83 tk t86 w88 c d) (hp : 0 ≤ p ∧ p ≤ e) (hl : 0 ≤ pl ∧ pl ≤ 12) (ht : 0 ≤ tk ∧ tk ≤ 34) (hw : 3 ≤ w) (y : (hbS o e p pl tk w).1 = 0) : (p ≤ q ∧ q ≤ e) ∧ ((0 ≤ t86 ∧ t86 ≤ 34) ∧ (0 ≤ n83 ∧ n83 ≤ 12)) ∧ 0 ≤ (hbS o e p pl tk w).2.2.1 := by
  have r := hbS_r hp hl ht.1 hw y
  have k := (g.1.1 y).2
  generalize hbS o e p pl tk w = R at r k y ⊢
  obtain ⟨a1, a2, a3, a4, a5, a6⟩ := R
  dsimp only at r k ⊢
  omega
set_option maxRecDepth 20000 in
theorem s_getHead_e (b : Int) (h : Hp_) (hT : TY h) (hb : 10 ≤ b ∧ b ≤ 19) (h44 : (h 73 44) ≤ 4400) (hm9 : (h 73 45) = 0 ∧ (h 73 50) = 0) (htk : 0 ≤ (h 86) b ∧ (h 86) b ≤ 34) (hw : 3 ≤ (h 88) b ∧ (h 88) b ≤ 3 + (8 * (h 73 42) + (h 73 43))) : Ctr yX12_getHead cX12_getHead 4 none (rmd 3) ly ly 0 0 [vR 73, vI b] h (fun r h' => (TY h' ∧ FRM [73, 83, 86, 88, 104] [42, 43, 45, 50] h h') ∧ r = none ∧ (8 * (h 73 42) + (h 73 43) ≤ 8 * (h' 73 42) + (h' 73 43)) ∧ (∀ q : Int, q < 10 → (h' 83) q = (h 83) q) ∧ (GHP (hbS (h 100) (8 * (h 73 44)) (8 * (h 73 42) + (h 73 43)) ((h 83) b) ((h 86) b) ((h 88) b)) (h' 73 45) (h' 73 50) (8 * (h' 73 42) + (h' 73 43)) ((h' 83) b) ((h 86) b) ((h' 86) b) ((h' 88) b) ((h 104) (b - 10)) ((h' 104) (b - 10))) ∧ ((∀ j : Int, j ≠ b → (h' 83) j = (h 83) j ∧ (h' 86) j = (h 86) j ∧ (h' 88) j = (h 88) j) ∧ ∀ j : Int, j ≠ b - 10 → (h' 104) j = (h 104) j) ∧ (3 ≤ (h' 88) b ∧ (h' 88) b ≤ 3 + (8 * (h' 73 42) + (h' 73 43)))) := by
  refine Ctr_of (by decide) (Nat.le_of_ble_eq_true rfl) ⟨Nat.le_refl _, Nat.le_refl _⟩ (fun K hK hQ _ => ?_)
  show TT K ly 0 0 0 [(0, vR 73), (1, vI b)] [] h
  have hF : FRM [73, 83, 86, 88, 104] [42, 43, 45, 50] h h := FRM_rf _ _ _
  refine TT_aload_n hK rfl 0 rfl dX12_getHead_0 ?_
  refine TT_iconst hK dX12_getHead_1 ?_
  have e1_73_44 : h 73 44 = (h 73) 44 := rfl
  have e2_73_45 : h 73 45 = (h 73) 45 := rfl
  refine iv_X12_372 hK (s_getBits_e 1 h hT (by first | omega | (simp [up, setR] <;> omega)) (by first | omega | (simp [up, setR] <;> omega)) (by rewrite [e1_73_44]; first | omega | (simp [up, setR] <;> omega)) (by rewrite [e2_73_45]; first | omega | (simp [up, setR] <;> omega))) (by decide) rfl ⟨by decide, by decide⟩ (by decide) rfl rfl (Nat.le_of_ble_eq_true rfl) ⟨by decide, by decide⟩ dX12_getHead_2 ?_
  intro r9 g2_3 hp9
  obtain ⟨⟨hT_3, hG_3⟩, z2_3, hr9, hz_3, p2_3, p3_3, p6_3, gb_3, g01_3⟩ := hp9
  rw [hr9]
  have hF_3 : FRM [73, 83, 86, 88, 104] [42, 43, 45, 50] h g2_3 := FRM_tr hF hG_3 (by decide) (by decide)
  rw [show h 73 42 = (h 73) 42 from rfl] at p3_3
  rw [show h 73 43 = (h 73) 43 from rfl] at p3_3
  rw [show h 73 44 = (h 73) 44 from rfl] at p3_3
  rw [show h 73 42 = (h 73) 42 from rfl] at p6_3
  rw [show h 73 43 = (h 73) 43 from rfl] at p6_3
  rw [show h 73 42 = (h 73) 42 from rfl] at gb_3
  rw [show h 73 43 = (h 73) 43 from rfl] at gb_3
  rw [show h 73 44 = (h 73) 44 from rfl] at gb_3
  rw [show h 73 45 = (h 73) 45 from rfl] at gb_3
  have gb_at2 := gb_3
  have g01_at2 := g01_3
  show TT K ly 0 0 5 [(0, vR 73), (1, vI b)] [vI z2_3] g2_3
  refine TT_if_eq hK (tgt := 15) (irm (by omega) (by omega)) dX12_getHead_5 (by decide) (fun hb5_4 => ?_) (fun hb5_4 => ?_)
  · refine TT_vret hK hQ ?_ dX12_getHead_15
    have e5_73_42 : g2_3 73 42 = (g2_3 73) 42 := rfl
    have e6_73_43 : g2_3 73 43 = (g2_3 73) 43 := rfl
    have e7_83 : g2_3 83 = h 83 := (hG_3.1 83 (by decide))
    have e8_104 : g2_3 104 = h 104 := (hG_3.1 104 (by decide))
    have e9_73_42 : g2_3 73 42 = (g2_3 73) 42 := rfl
    have e10_73_43 : g2_3 73 43 = (g2_3 73) 43 := rfl
    have e11_73_45 : g2_3 73 45 = (g2_3 73) 45 := rfl
    have e12_73_50 : g2_3 73 50 = (h 73) 50 := (hG_3.2 50 (by decide))
    have e13_83 : g2_3 83 = h 83 := (hG_3.1 83 (by decide))
    have e14_86 : g2_3 86 = h 86 := (hG_3.1 86 (by decide))
    have e15_88 : g2_3 88 = h 88 := (hG_3.1 88 (by decide))
    have e16_104 : g2_3 104 = h 104 := (hG_3.1 104 (by decide))
    have e17_83 : g2_3 83 = h 83 := (hG_3.1 83 (by decide))
    have e18_86 : g2_3 86 = h 86 := (hG_3.1 86 (by decide))
    have e19_88 : g2_3 88 = h 88 := (hG_3.1 88 (by decide))
    have e20_73_42 : g2_3 73 42 = (g2_3 73) 42 := rfl
    have e21_73_43 : g2_3 73 43 = (g2_3 73) 43 := rfl
    have e22_88 : g2_3 88 = h 88 := (hG_3.1 88 (by decide))
    exact ⟨⟨hT_3, hF_3⟩, rfl, (by rewrite [e5_73_42, e6_73_43]; omega), (by rewrite [e7_83]; first | (intro q hq; rfl) | (intro q hq; exact fup_ne _ _ (by omega))), (by rewrite [e8_104, e9_73_42, e10_73_43, e11_73_45, e12_73_50, e13_83, e14_86, e15_88]; exact GHP_0 gb_at2 hm9.1 hm9.2 (by omega)), (by rewrite [e16_104, e17_83, e18_86, e19_88]; exact ⟨fun j hj => ⟨rfl, rfl, rfl⟩, fun j hj => rfl⟩), (by rewrite [e20_73_42, e21_73_43, e22_88]; omega)⟩
  · refine TT_aload_n hK rfl 0 rfl dX12_getHead_8 ?_
    refine gf_X12_365 hK (by decide) rfl (v := (g2_3 73) 45) rfl dX12_getHead_9 ?_
    have r23 := ty_73_45 (v := (g2_3 73) 45) hT_3 rfl
    refine TT_if_eq hK (tgt := 16) (irm (by omega) (by omega)) dX12_getHead_12 (by decide) (fun hb12_24 => ?_) (fun hb12_24 => ?_)
    · have J74_25 : ∀ (w74_25 : Hp_), TY w74_25 → FRM [73, 83, 86, 88, 104] [42, 43, 45, 50] h w74_25 → (8 * (h 73 42) + (h 73 43) ≤ 8 * (w74_25 73 42) + (w74_25 73 43)) → (∀ q : Int, q < 10 → (w74_25 83) q = h 83 q) → ((0 ≤ (w74_25 73 45) ∧ (w74_25 73 45) ≤ 1) ∧ (0 ≤ (w74_25 73 50) ∧ (w74_25 73 50) ≤ 1)) → ((w74_25 86) = h 86) → ((w74_25 88) = h 88) → ((w74_25 104) = h 104) → (∀ j : Int, j ≠ b → (w74_25 83) j = h 83 j) → (GHA (h 100) (8 * (h 73 44)) (8 * (h 73 42) + h 73 43) (h 83 b) (h 86 b) (h 88 b) (w74_25 73 50) (w74_25 73 45) ((8 * (w74_25 73 42) + (w74_25 73 43))) ((w74_25 83) b)) → TT K ly 0 0 74 [(0, vR 73), (1, vI b)] [] w74_25 := by
        intro w74_25 hT74_25 hF74_25 hc1 k83i r01 k86 k88 k104 k83 ga
        have J90_26 : ∀ (n : Int) (w90_26 : Hp_), TY w90_26 → FRM [73, 83, 86, 88, 104] [42, 43, 45, 50] h w90_26 → (1 ≤ n ∧ n ≤ 37) → (8 * (h 73 42) + (h 73 43) ≤ 8 * (w90_26 73 42) + (w90_26 73 43)) → (∀ q : Int, q < 10 → (w90_26 83) q = h 83 q) → ((0 ≤ (w90_26 73 45) ∧ (w90_26 73 45) ≤ 1) ∧ (0 ≤ (w90_26 73 50) ∧ (w90_26 73 50) ≤ 1)) → ((w90_26 86) = h 86) → ((w90_26 88) = h 88) → ((w90_26 104) = h 104) → (∀ j : Int, j ≠ b → (w90_26 83) j = h 83 j) → (GHB (h 100) (8 * (h 73 44)) (8 * (h 73 42) + h 73 43) (h 83 b) (h 86 b) (h 88 b) (w90_26 73 50) (w90_26 73 45) ((8 * (w90_26 73 42) + (w90_26 73 43))) n ((w90_26 83) b)) → ((8 * (h 73 42) + h 73 43) ≤ (8 * (w90_26 73 42) + (w90_26 73 43))) → TT K ly 0 0 90 [(0, vR 73), (1, vI b), (2, vI n)] [] w90_26 := by
          intro n w90_26 hT90_26 hF90_26 hn hc2 k83i r01 k86 k88 k104 k83 gb9 bp
          have J129_27 : ∀ (w129_27 : Hp_), TY w129_27 → FRM [73, 83, 86, 88, 104] [42, 43, 45, 50] h w129_27 → (8 * (h 73 42) + (h 73 43) ≤ 8 * (w129_27 73 42) + (w129_27 73 43)) → (∀ q : Int, q < 10 → (w129_27 83) q = h 83 q) → ((0 ≤ (w129_27 73 45) ∧ (w129_27 73 45) ≤ 1) ∧ (0 ≤ (w129_27 73 50) ∧ (w129_27 73 50) ≤ 1)) → ((w129_27 86) = h 86) → ((w129_27 88) = h 88) → ((w129_27 104) = h 104) → (∀ j : Int, j ≠ b → (w129_27 83) j = h 83 j) → (GHC (h 100) (8 * (h 73 44)) (8 * (h 73 42) + h 73 43) (h 83 b) (h 86 b) (h 88 b) (w129_27 73 50) (w129_27 73 45) ((8 * (w129_27 73 42) + (w129_27 73 43))) n ((w129_27 83) b)) → ((8 * (h 73 42) + h 73 43) ≤ (8 * (w129_27 73 42) + (w129_27 73 43))) → TT K ly 0 0 129 [(0, vR 73), (1, vI b), (2, vI n)] [] w129_27 := by
            intro w129_27 hT129_27 hF129_27 hc3 k83i r01 k86 k88 k104 k83 gc cp
            have J141_28 : ∀ (g0 : Int), (0 ≤ g0 ∧ g0 ≤ 1) → (((w129_27 73 50) = 0 → g0 = 1) ∧ ((w129_27 73 50) = 1 → g0 = 0)) → TT K ly 0 0 141 [(0, vR 73), (1, vI b), (2, vI n)] [vI g0] w129_27 := by
              intro g0 hg0 hg9
              refine TT_istore_n hK rfl (lv' := [(3, vI g0), (0, vR 73), (1, vI b), (2, vI n)]) (by decide) rfl dX12_getHead_141 ?_
              have L142_29 : ∀ (k29 : Nat) (gr : Int) (ml9 : Int) (w142_29 : Hp_), TY w142_29 → FRM [73, 83, 86, 88, 104] [42, 43, 45, 50] h w142_29 → (0 ≤ gr ∧ gr ≤ 1) → (8 * (h 73 42) + (h 73 43) ≤ 8 * (w142_29 73 42) + (w142_29 73 43)) → (∀ q : Int, q < 10 → (w142_29 83) q = h 83 q) → ((0 ≤ (w142_29 73 45) ∧ (w142_29 73 45) ≤ 1) ∧ (0 ≤ (w142_29 73 50) ∧ (w142_29 73 50) ≤ 1)) → ((w142_29 73 50) = ml9) → ((w142_29 86) = h 86) → ((w142_29 104) = h 104) → (∀ j : Int, j ≠ b → (w142_29 83) j = h 83 j) → (∀ j : Int, j ≠ b → (w142_29 88) j = h 88 j) → (GHD (h 100) (8 * (h 73 44)) (8 * (h 73 42) + h 73 43) (h 83 b) (h 86 b) (h 88 b) (w142_29 73 50) (w142_29 73 45) ((8 * (w142_29 73 42) + (w142_29 73 43))) ((w142_29 83) b) n gr ((w142_29 88) b)) → (h 88 b ≤ (w142_29 88) b ∧ (w142_29 88) b ≤ 3 + (8 * (w142_29 73 42) + (w142_29 73 43))) → ((8 * (h 73 42) + h 73 43) ≤ (8 * (w142_29 73 42) + (w142_29 73 43))) → (8 * (h 73 44) + 1 - (8 * (w142_29 73 42) + (w142_29 73 43))).toNat + gr.toNat < k29 → TT K ly 0 0 142 [(0, vR 73), (1, vI b), (2, vI n), (3, vI gr)] [] w142_29 := by
                intro k29
                induction k29 with
                | zero => intro gr ml9 w142_29 hT142_29 hF142_29 hgr hc4 k83i r01 kml k86 k104 k83 k88c gd dw dp hk29; exact absurd hk29 (Nat.not_lt_zero _)
                | succ k29 ih29 =>
                  intro gr ml9 w142_29 hT142_29 hF142_29 hgr hc4 k83i r01 kml k86 k104 k83 k88c gd dw dp hk29
                  refine TT_iload_n hK rfl 3 rfl dX12_getHead_142 ?_
                  refine TT_if_eq hK (tgt := 198) (irm (by omega) (by omega)) dX12_getHead_143 (by decide) (fun hb143_30 => ?_) (fun hb143_30 => ?_)
                  · refine TT_aload_n hK rfl 0 rfl dX12_getHead_198 ?_
                    refine gf_X12_375 hK (by decide) rfl (v := (w142_29 73) 50) rfl dX12_getHead_199 ?_
                    have r31 := ty_73_50 (v := (w142_29 73) 50) hT142_29 rfl
                    refine TT_if_ne hK (tgt := 259) (irm (by omega) (by omega)) dX12_getHead_202 (by decide) (fun hb202_32 => ?_) (fun hb202_32 => ?_)
                    · refine TT_vret hK hQ ?_ dX12_getHead_259
                      have e33_73_42 : w142_29 73 42 = (w142_29 73) 42 := rfl
                      have e34_73_43 : w142_29 73 43 = (w142_29 73) 43 := rfl
                      have e35_73_42 : w142_29 73 42 = (w142_29 73) 42 := rfl
                      have e36_73_43 : w142_29 73 43 = (w142_29 73) 43 := rfl
                      have e37_73_45 : w142_29 73 45 = (w142_29 73) 45 := rfl
                      have e38_73_50 : w142_29 73 50 = (w142_29 73) 50 := rfl
                      have e39_73_42 : w142_29 73 42 = (w142_29 73) 42 := rfl
                      have e40_73_43 : w142_29 73 43 = (w142_29 73) 43 := rfl
                      exact ⟨⟨hT142_29, hF142_29⟩, rfl, (by rewrite [e33_73_42, e34_73_43]; omega), (by first | exact k83i | (intro q hq; rfl) | (intro q hq; exact fup_ne _ _ (by omega)) | (intro q hq; rw [fup_ne _ _ (by omega)]; exact k83i q hq)), (by rewrite [e35_73_42, e36_73_43, e37_73_45, e38_73_50]; exact GHP_1 gd (by omega)), (by exact ⟨fun j hj => ⟨k83 j hj, congrFun k86 j, k88c j hj⟩, fun j hj => congrFun k104 j⟩), (by rewrite [e39_73_42, e40_73_43]; omega)⟩
                    · refine TT_aload_n hK rfl 0 rfl dX12_getHead_205 ?_
                      refine gf_X12_108 hK (by decide) rfl (q := 104) rfl rfl dX12_getHead_206 ?_
                      refine TT_iload_n hK rfl 1 rfl dX12_getHead_209 ?_
                      refine TT_bipush hK (by decide) dX12_getHead_210 ?_
                      refine TT_isub hK dX12_getHead_212 ?_
                      refine TT_aload_n hK rfl 0 rfl dX12_getHead_213 ?_
                      refine TT_aload_n hK rfl 0 rfl dX12_getHead_214 ?_
                      refine gf_X12_60 hK (by decide) rfl (q := 88) rfl rfl dX12_getHead_215 ?_
                      refine TT_iload_n hK rfl 1 rfl dX12_getHead_218 ?_
                      refine TT_iald hK (o := 88) (n := 20) (by decide) rfl (by first | omega | (simp [up, setR] <;> omega)) (by first | omega | (simp [up, setR] <;> omega)) (v := (w142_29 88) b) rfl dX12_getHead_219 ?_
                      have r41 := ty_88 (i := b) (v := (w142_29 88) b) hT142_29 rfl (by omega) (by omega)
                      refine TT_iload_n hK rfl 2 rfl dX12_getHead_220 ?_
                      refine iv_X12_323 hK (s_log_e n w142_29 hT142_29 (by first | omega | (simp [up, setR] <;> omega))) ⟨by decide, by decide⟩ (by decide) rfl rfl (Nat.le_of_ble_eq_true rfl) ⟨by decide, by decide⟩ dX12_getHead_221 ?_
                      intro r9 g221_42 hp9
                      obtain ⟨⟨hT_42, hG_42⟩, z221_42, hr9, hz_42, lg_42⟩ := hp9
                      rw [hr9]
                      have hF_42 : FRM [73, 83, 86, 88, 104] [42, 43, 45, 50] h g221_42 := FRM_tr hF142_29 hG_42 (by decide) (by decide)
                      have lg_at221 := lg_42
                      show TT K ly 0 0 224 [(0, vR 73), (1, vI b), (2, vI n), (3, vI gr)] [vI z221_42, vI ((w142_29 88) b), vR 73, vI (b - 10), vR 104] g221_42
                      refine TT_cgI (b := bl n - 1) (by exact lg_at221 (by omega)) ?_
                      refine TT_iadd hK dX12_getHead_224 ?_
                      have bn9 := bl_n (n := n) (by omega)
                      have k86c := congrFun k86 b
                      have u42 := ty_73_42 (v := (w142_29 73) 42) hT142_29 rfl
                      have u43 := ty_73_43 (v := (w142_29 73) 43) hT142_29 rfl
                      have e43_73_44 : g221_42 73 44 = (h 73) 44 := (congrFun (hG_42.1 73 (by decide)) 44).trans (hF142_29.2 44 (by decide))
                      have e44_73_45 : g221_42 73 45 = (w142_29 73) 45 := congrFun (hG_42.1 73 (by decide)) 45
                      refine iv_X12_372 hK (s_getBits_e (((w142_29 88) b) + (bl n - 1)) g221_42 hT_42 (by first | omega | (simp [up, setR] <;> omega)) (by first | omega | (simp [up, setR] <;> omega)) (by rewrite [e43_73_44]; first | omega | (simp [up, setR] <;> omega)) (by rewrite [e44_73_45]; first | omega | (simp [up, setR] <;> omega))) (by decide) rfl ⟨by decide, by decide⟩ (by decide) rfl rfl (Nat.le_of_ble_eq_true rfl) ⟨by decide, by decide⟩ dX12_getHead_225 ?_
                      intro r9 g225_45 hp9
                      obtain ⟨⟨hT_45, hG_45⟩, z225_45, hr9, hz_45, p2_45, p3_45, p6_45, gb_45, g01_45⟩ := hp9
                      rw [hr9]
                      have hF_45 : FRM [73, 83, 86, 88, 104] [42, 43, 45, 50] h g225_45 := FRM_tr hF_42 hG_45 (by decide) (by decide)
                      rw [show g221_42 73 42 = (w142_29 73) 42 from congrFun (hG_42.1 73 (by decide)) 42] at p3_45
                      rw [show g221_42 73 43 = (w142_29 73) 43 from congrFun (hG_42.1 73 (by decide)) 43] at p3_45
                      rw [show g221_42 73 44 = (h 73) 44 from (congrFun (hG_42.1 73 (by decide)) 44).trans (hF142_29.2 44 (by decide))] at p3_45
                      rw [show g221_42 73 42 = (w142_29 73) 42 from congrFun (hG_42.1 73 (by decide)) 42] at p6_45
                      rw [show g221_42 73 43 = (w142_29 73) 43 from congrFun (hG_42.1 73 (by decide)) 43] at p6_45
                      rw [show g221_42 100 = h 100 from ((hG_42.1 100 (by decide))).trans (hF142_29.1 100 (by decide))] at gb_45
                      rw [show g221_42 73 42 = (w142_29 73) 42 from congrFun (hG_42.1 73 (by decide)) 42] at gb_45
                      rw [show g221_42 73 43 = (w142_29 73) 43 from congrFun (hG_42.1 73 (by decide)) 43] at gb_45
                      rw [show g221_42 73 44 = (h 73) 44 from (congrFun (hG_42.1 73 (by decide)) 44).trans (hF142_29.2 44 (by decide))] at gb_45
                      rw [show g221_42 73 45 = (w142_29 73) 45 from congrFun (hG_42.1 73 (by decide)) 45] at gb_45
                      have gb_at225 := gb_45
                      have g01_at225 := g01_45
                      show TT K ly 0 0 228 [(0, vR 73), (1, vI b), (2, vI n), (3, vI gr)] [vI z225_45, vI (b - 10), vR 104] g225_45
                      refine TT_iast hK (o := 104) (n := 10) (by decide) rfl (by omega) (by omega) dX12_getHead_228 ?_
                      refine TT_hp (h' := setO g225_45 104 (fup (w142_29 104) (b - 10) z225_45)) (up_can (((hG_45.1 104 (by decide))).trans (hG_42.1 104 (by decide))) rfl rfl) ?_
                      have hT_46 : TY (setO g225_45 104 (fup (w142_29 104) (b - 10) z225_45)) := tu_104 hT_45 (show up g225_45 104 (b - 10) z225_45 = (setO g225_45 104 (fup (w142_29 104) (b - 10) z225_45)) from up_can (((hG_45.1 104 (by decide))).trans (hG_42.1 104 (by decide))) rfl rfl) (by omega)
                      have hF_46 : FRM [73, 83, 86, 88, 104] [42, 43, 45, 50] h (setO g225_45 104 (fup (w142_29 104) (b - 10) z225_45)) := FRM_up (show up g225_45 104 (b - 10) z225_45 = (setO g225_45 104 (fup (w142_29 104) (b - 10) z225_45)) from up_can (((hG_45.1 104 (by decide))).trans (hG_42.1 104 (by decide))) rfl rfl) hF_45 (by decide) (by decide)
                      refine TT_aload_n hK rfl 0 rfl dX12_getHead_229 ?_
                      refine gf_X12_54 hK (by decide) rfl (q := 86) rfl rfl dX12_getHead_230 ?_
                      refine TT_iload_n hK rfl 1 rfl dX12_getHead_233 ?_
                      refine TT_aload_n hK rfl 0 rfl dX12_getHead_234 ?_
                      refine gf_X12_365 hK (by decide) rfl (v := (g225_45 73) 45) (rd_ (sOf_ne _ _ (by decide)) rfl) dX12_getHead_235 ?_
                      have r47 := ty_73_45 (v := (g225_45 73) 45) hT_46 (rd_ (sOf_ne _ _ (by decide)) rfl)
                      refine TT_if_eq hK (tgt := 250) (irm (by omega) (by omega)) dX12_getHead_238 (by decide) (fun hb238_48 => ?_) (fun hb238_48 => ?_)
                      · refine TT_aload_n hK rfl 0 rfl dX12_getHead_250 ?_
                        refine gf_X12_54 hK (by decide) rfl (q := 86) rfl rfl dX12_getHead_251 ?_
                        refine TT_iload_n hK rfl 1 rfl dX12_getHead_254 ?_
                        refine TT_iald hK (o := 86) (n := 20) (by decide) rfl (by first | omega | (simp [up, setR] <;> omega)) (by first | omega | (simp [up, setR] <;> omega)) (v := (w142_29 86) b) (rd_ ((sOf_ne _ _ (by decide)).trans (((hG_45.1 86 (by decide))).trans (hG_42.1 86 (by decide)))) rfl) dX12_getHead_255 ?_
                        have r49 := ty_86 (i := b) (v := (w142_29 86) b) hT_46 (rd_ ((sOf_ne _ _ (by decide)).trans (((hG_45.1 86 (by decide))).trans (hG_42.1 86 (by decide)))) rfl) (by omega) (by omega)
                        refine TT_iload_n hK rfl 2 rfl dX12_getHead_256 ?_
                        refine TT_iadd hK dX12_getHead_257 ?_
                        refine TT_iast hK (o := 86) (n := 20) (by decide) rfl (by omega) (by omega) dX12_getHead_258 ?_
                        refine TT_hp (h' := setO (setO g225_45 86 (fup (w142_29 86) b (((w142_29 86) b) + n))) 104 (fup (w142_29 104) (b - 10) z225_45)) (up_can ((sOf_ne _ _ (by decide)).trans (((hG_45.1 86 (by decide))).trans (hG_42.1 86 (by decide)))) rfl ((setO_comm _ _ _ (by decide)).trans (setO_cg rfl rfl))) ?_
                        have hT_50 : TY (setO (setO g225_45 86 (fup (w142_29 86) b (((w142_29 86) b) + n))) 104 (fup (w142_29 104) (b - 10) z225_45)) := tu_86 hT_46 (show up (setO g225_45 104 (fup (w142_29 104) (b - 10) z225_45)) 86 b (((w142_29 86) b) + n) = (setO (setO g225_45 86 (fup (w142_29 86) b (((w142_29 86) b) + n))) 104 (fup (w142_29 104) (b - 10) z225_45)) from up_can ((sOf_ne _ _ (by decide)).trans (((hG_45.1 86 (by decide))).trans (hG_42.1 86 (by decide)))) rfl ((setO_comm _ _ _ (by decide)).trans (setO_cg rfl rfl))) (by omega)
                        have hF_50 : FRM [73, 83, 86, 88, 104] [42, 43, 45, 50] h (setO (setO g225_45 86 (fup (w142_29 86) b (((w142_29 86) b) + n))) 104 (fup (w142_29 104) (b - 10) z225_45)) := FRM_up (show up (setO g225_45 104 (fup (w142_29 104) (b - 10) z225_45)) 86 b (((w142_29 86) b) + n) = (setO (setO g225_45 86 (fup (w142_29 86) b (((w142_29 86) b) + n))) 104 (fup (w142_29 104) (b - 10) z225_45)) from up_can ((sOf_ne _ _ (by decide)).trans (((hG_45.1 86 (by decide))).trans (hG_42.1 86 (by decide)))) rfl ((setO_comm _ _ _ (by decide)).trans (setO_cg rfl rfl))) hF_46 (by decide) (by decide)
                        refine TT_vret hK hQ ?_ dX12_getHead_259
                        have e51_73_42 : (setO (setO g225_45 86 (fup (w142_29 86) b (((w142_29 86) b) + n))) 104 (fup (w142_29 104) (b - 10) z225_45)) 73 42 = (g225_45 73) 42 := rd_ ((sOf_ne _ _ (by decide)).trans (sOf_ne _ _ (by decide))) rfl
                        have e52_73_43 : (setO (setO g225_45 86 (fup (w142_29 86) b (((w142_29 86) b) + n))) 104 (fup (w142_29 104) (b - 10) z225_45)) 73 43 = (g225_45 73) 43 := rd_ ((sOf_ne _ _ (by decide)).trans (sOf_ne _ _ (by decide))) rfl
                        have e53_83 : (setO (setO g225_45 86 (fup (w142_29 86) b (((w142_29 86) b) + n))) 104 (fup (w142_29 104) (b - 10) z225_45)) 83 = w142_29 83 := (sOf_ne _ _ (by decide)).trans ((sOf_ne _ _ (by decide)).trans (((hG_45.1 83 (by decide))).trans (hG_42.1 83 (by decide))))
                        have e54_104 : (setO (setO g225_45 86 (fup (w142_29 86) b (((w142_29 86) b) + n))) 104 (fup (w142_29 104) (b - 10) z225_45)) 104 = fup (w142_29 104) (b - 10) z225_45 := sOf_eq _ _ _
                        have e55_73_42 : (setO (setO g225_45 86 (fup (w142_29 86) b (((w142_29 86) b) + n))) 104 (fup (w142_29 104) (b - 10) z225_45)) 73 42 = (g225_45 73) 42 := rd_ ((sOf_ne _ _ (by decide)).trans (sOf_ne _ _ (by decide))) rfl
                        have e56_73_43 : (setO (setO g225_45 86 (fup (w142_29 86) b (((w142_29 86) b) + n))) 104 (fup (w142_29 104) (b - 10) z225_45)) 73 43 = (g225_45 73) 43 := rd_ ((sOf_ne _ _ (by decide)).trans (sOf_ne _ _ (by decide))) rfl
                        have e57_73_45 : (setO (setO g225_45 86 (fup (w142_29 86) b (((w142_29 86) b) + n))) 104 (fup (w142_29 104) (b - 10) z225_45)) 73 45 = (g225_45 73) 45 := rd_ ((sOf_ne _ _ (by decide)).trans (sOf_ne _ _ (by decide))) rfl
                        have e58_73_50 : (setO (setO g225_45 86 (fup (w142_29 86) b (((w142_29 86) b) + n))) 104 (fup (w142_29 104) (b - 10) z225_45)) 73 50 = (w142_29 73) 50 := (rd_ ((sOf_ne _ _ (by decide)).trans (sOf_ne _ _ (by decide))) rfl).trans (((hG_45.2 50 (by decide))).trans (congrFun (hG_42.1 73 (by decide)) 50))
                        have e59_83 : (setO (setO g225_45 86 (fup (w142_29 86) b (((w142_29 86) b) + n))) 104 (fup (w142_29 104) (b - 10) z225_45)) 83 = w142_29 83 := (sOf_ne _ _ (by decide)).trans ((sOf_ne _ _ (by decide)).trans (((hG_45.1 83 (by decide))).trans (hG_42.1 83 (by decide))))
                        have e60_86 : (setO (setO g225_45 86 (fup (w142_29 86) b (((w142_29 86) b) + n))) 104 (fup (w142_29 104) (b - 10) z225_45)) 86 = fup (w142_29 86) b (((w142_29 86) b) + n) := (sOf_ne _ _ (by decide)).trans (sOf_eq _ _ _)
                        have e61_88 : (setO (setO g225_45 86 (fup (w142_29 86) b (((w142_29 86) b) + n))) 104 (fup (w142_29 104) (b - 10) z225_45)) 88 = w142_29 88 := (sOf_ne _ _ (by decide)).trans ((sOf_ne _ _ (by decide)).trans (((hG_45.1 88 (by decide))).trans (hG_42.1 88 (by decide))))
                        have e62_104 : (setO (setO g225_45 86 (fup (w142_29 86) b (((w142_29 86) b) + n))) 104 (fup (w142_29 104) (b - 10) z225_45)) 104 = fup (w142_29 104) (b - 10) z225_45 := sOf_eq _ _ _
                        have e63_83 : (setO (setO g225_45 86 (fup (w142_29 86) b (((w142_29 86) b) + n))) 104 (fup (w142_29 104) (b - 10) z225_45)) 83 = w142_29 83 := (sOf_ne _ _ (by decide)).trans ((sOf_ne _ _ (by decide)).trans (((hG_45.1 83 (by decide))).trans (hG_42.1 83 (by decide))))
                        have e64_86 : (setO (setO g225_45 86 (fup (w142_29 86) b (((w142_29 86) b) + n))) 104 (fup (w142_29 104) (b - 10) z225_45)) 86 = fup (w142_29 86) b (((w142_29 86) b) + n) := (sOf_ne _ _ (by decide)).trans (sOf_eq _ _ _)
                        have e65_88 : (setO (setO g225_45 86 (fup (w142_29 86) b (((w142_29 86) b) + n))) 104 (fup (w142_29 104) (b - 10) z225_45)) 88 = w142_29 88 := (sOf_ne _ _ (by decide)).trans ((sOf_ne _ _ (by decide)).trans (((hG_45.1 88 (by decide))).trans (hG_42.1 88 (by decide))))
                        have e66_73_42 : (setO (setO g225_45 86 (fup (w142_29 86) b (((w142_29 86) b) + n))) 104 (fup (w142_29 104) (b - 10) z225_45)) 73 42 = (g225_45 73) 42 := rd_ ((sOf_ne _ _ (by decide)).trans (sOf_ne _ _ (by decide))) rfl
                        have e67_73_43 : (setO (setO g225_45 86 (fup (w142_29 86) b (((w142_29 86) b) + n))) 104 (fup (w142_29 104) (b - 10) z225_45)) 73 43 = (g225_45 73) 43 := rd_ ((sOf_ne _ _ (by decide)).trans (sOf_ne _ _ (by decide))) rfl
                        have e68_88 : (setO (setO g225_45 86 (fup (w142_29 86) b (((w142_29 86) b) + n))) 104 (fup (w142_29 104) (b - 10) z225_45)) 88 = w142_29 88 := (sOf_ne _ _ (by decide)).trans ((sOf_ne _ _ (by decide)).trans (((hG_45.1 88 (by decide))).trans (hG_42.1 88 (by decide))))
                        exact ⟨⟨hT_50, hF_50⟩, rfl, (by rewrite [e51_73_42, e52_73_43]; omega), (by rewrite [e53_83]; first | exact k83i | (intro q hq; rfl) | (intro q hq; exact fup_ne _ _ (by omega)) | (intro q hq; rw [fup_ne _ _ (by omega)]; exact k83i q hq)), (by rewrite [e54_104, e55_73_42, e56_73_43, e57_73_45, e58_73_50, e59_83, e60_86, e61_88]; rw [fup_eq, fup_eq]; exact GHP_2 gd (by omega) (by omega) r01.1 gb_at225 (by first | exact Or.inl (by omega) | (have e9 := congrFun k86 b; exact Or.inr ⟨by omega, by omega⟩))), (by rewrite [e62_104, e63_83, e64_86, e65_88]; refine ⟨fun j hj => ⟨k83 j hj, ?_, k88c j hj⟩, fun j hj => ?_⟩; (rw [fup_ne _ _ hj]; exact congrFun k86 j); (rw [fup_ne _ _ hj]; exact congrFun k104 j)), (by rewrite [e66_73_42, e67_73_43, e68_88]; omega)⟩
                      · refine TT_aload_n hK rfl 0 rfl dX12_getHead_241 ?_
                        refine gf_X12_54 hK (by decide) rfl (q := 86) rfl rfl dX12_getHead_242 ?_
                        refine TT_iload_n hK rfl 1 rfl dX12_getHead_245 ?_
                        refine TT_iald hK (o := 86) (n := 20) (by decide) rfl (by first | omega | (simp [up, setR] <;> omega)) (by first | omega | (simp [up, setR] <;> omega)) (v := (w142_29 86) b) (rd_ ((sOf_ne _ _ (by decide)).trans (((hG_45.1 86 (by decide))).trans (hG_42.1 86 (by decide)))) rfl) dX12_getHead_246 ?_
                        have r69 := ty_86 (i := b) (v := (w142_29 86) b) hT_46 (rd_ ((sOf_ne _ _ (by decide)).trans (((hG_45.1 86 (by decide))).trans (hG_42.1 86 (by decide)))) rfl) (by omega) (by omega)
                        refine TT_goto hK (tgt := 258) dX12_getHead_247 (by decide) ?_
                        refine TT_iast hK (o := 86) (n := 20) (by decide) rfl (by omega) (by omega) dX12_getHead_258 ?_
                        refine TT_hp (h' := setO (setO g225_45 86 (fup (w142_29 86) b ((w142_29 86) b))) 104 (fup (w142_29 104) (b - 10) z225_45)) (up_can ((sOf_ne _ _ (by decide)).trans (((hG_45.1 86 (by decide))).trans (hG_42.1 86 (by decide)))) rfl ((setO_comm _ _ _ (by decide)).trans (setO_cg rfl rfl))) ?_
                        have hT_70 : TY (setO (setO g225_45 86 (fup (w142_29 86) b ((w142_29 86) b))) 104 (fup (w142_29 104) (b - 10) z225_45)) := tu_86 hT_46 (show up (setO g225_45 104 (fup (w142_29 104) (b - 10) z225_45)) 86 b ((w142_29 86) b) = (setO (setO g225_45 86 (fup (w142_29 86) b ((w142_29 86) b))) 104 (fup (w142_29 104) (b - 10) z225_45)) from up_can ((sOf_ne _ _ (by decide)).trans (((hG_45.1 86 (by decide))).trans (hG_42.1 86 (by decide)))) rfl ((setO_comm _ _ _ (by decide)).trans (setO_cg rfl rfl))) (by omega)
                        have hF_70 : FRM [73, 83, 86, 88, 104] [42, 43, 45, 50] h (setO (setO g225_45 86 (fup (w142_29 86) b ((w142_29 86) b))) 104 (fup (w142_29 104) (b - 10) z225_45)) := FRM_up (show up (setO g225_45 104 (fup (w142_29 104) (b - 10) z225_45)) 86 b ((w142_29 86) b) = (setO (setO g225_45 86 (fup (w142_29 86) b ((w142_29 86) b))) 104 (fup (w142_29 104) (b - 10) z225_45)) from up_can ((sOf_ne _ _ (by decide)).trans (((hG_45.1 86 (by decide))).trans (hG_42.1 86 (by decide)))) rfl ((setO_comm _ _ _ (by decide)).trans (setO_cg rfl rfl))) hF_46 (by decide) (by decide)
                        refine TT_vret hK hQ ?_ dX12_getHead_259
                        have e71_73_42 : (setO (setO g225_45 86 (fup (w142_29 86) b ((w142_29 86) b))) 104 (fup (w142_29 104) (b - 10) z225_45)) 73 42 = (g225_45 73) 42 := rd_ ((sOf_ne _ _ (by decide)).trans (sOf_ne _ _ (by decide))) rfl
                        have e72_73_43 : (setO (setO g225_45 86 (fup (w142_29 86) b ((w142_29 86) b))) 104 (fup (w142_29 104) (b - 10) z225_45)) 73 43 = (g225_45 73) 43 := rd_ ((sOf_ne _ _ (by decide)).trans (sOf_ne _ _ (by decide))) rfl
                        have e73_83 : (setO (setO g225_45 86 (fup (w142_29 86) b ((w142_29 86) b))) 104 (fup (w142_29 104) (b - 10) z225_45)) 83 = w142_29 83 := (sOf_ne _ _ (by decide)).trans ((sOf_ne _ _ (by decide)).trans (((hG_45.1 83 (by decide))).trans (hG_42.1 83 (by decide))))
                        have e74_104 : (setO (setO g225_45 86 (fup (w142_29 86) b ((w142_29 86) b))) 104 (fup (w142_29 104) (b - 10) z225_45)) 104 = fup (w142_29 104) (b - 10) z225_45 := sOf_eq _ _ _
                        have e75_73_42 : (setO (setO g225_45 86 (fup (w142_29 86) b ((w142_29 86) b))) 104 (fup (w142_29 104) (b - 10) z225_45)) 73 42 = (g225_45 73) 42 := rd_ ((sOf_ne _ _ (by decide)).trans (sOf_ne _ _ (by decide))) rfl
                        have e76_73_43 : (setO (setO g225_45 86 (fup (w142_29 86) b ((w142_29 86) b))) 104 (fup (w142_29 104) (b - 10) z225_45)) 73 43 = (g225_45 73) 43 := rd_ ((sOf_ne _ _ (by decide)).trans (sOf_ne _ _ (by decide))) rfl
                        have e77_73_45 : (setO (setO g225_45 86 (fup (w142_29 86) b ((w142_29 86) b))) 104 (fup (w142_29 104) (b - 10) z225_45)) 73 45 = (g225_45 73) 45 := rd_ ((sOf_ne _ _ (by decide)).trans (sOf_ne _ _ (by decide))) rfl
                        have e78_73_50 : (setO (setO g225_45 86 (fup (w142_29 86) b ((w142_29 86) b))) 104 (fup (w142_29 104) (b - 10) z225_45)) 73 50 = (w142_29 73) 50 := (rd_ ((sOf_ne _ _ (by decide)).trans (sOf_ne _ _ (by decide))) rfl).trans (((hG_45.2 50 (by decide))).trans (congrFun (hG_42.1 73 (by decide)) 50))
                        have e79_83 : (setO (setO g225_45 86 (fup (w142_29 86) b ((w142_29 86) b))) 104 (fup (w142_29 104) (b - 10) z225_45)) 83 = w142_29 83 := (sOf_ne _ _ (by decide)).trans ((sOf_ne _ _ (by decide)).trans (((hG_45.1 83 (by decide))).trans (hG_42.1 83 (by decide))))
                        have e80_86 : (setO (setO g225_45 86 (fup (w142_29 86) b ((w142_29 86) b))) 104 (fup (w142_29 104) (b - 10) z225_45)) 86 = fup (w142_29 86) b ((w142_29 86) b) := (sOf_ne _ _ (by decide)).trans (sOf_eq _ _ _)
                        have e81_88 : (setO (setO g225_45 86 (fup (w142_29 86) b ((w142_29 86) b))) 104 (fup (w142_29 104) (b - 10) z225_45)) 88 = w142_29 88 := (sOf_ne _ _ (by decide)).trans ((sOf_ne _ _ (by decide)).trans (((hG_45.1 88 (by decide))).trans (hG_42.1 88 (by decide))))
                        have e82_104 : (setO (setO g225_45 86 (fup (w142_29 86) b ((w142_29 86) b))) 104 (fup (w142_29 104) (b - 10) z225_45)) 104 = fup (w142_29 104) (b - 10) z225_45 := sOf_eq _ _ _
                        have e83_83 : (setO (setO g225_45 86 (fup (w142_29 86) b ((w142_29 86) b))) 104 (fup (w142_29 104) (b - 10) z225_45)) 83 = w142_29 83 := (sOf_ne _ _ (by decide)).trans ((sOf_ne _ _ (by decide)).trans (((hG_45.1 83 (by decide))).trans (hG_42.1 83 (by decide))))
                        have e84_86 : (setO (setO g225_45 86 (fup (w142_29 86) b ((w142_29 86) b))) 104 (fup (w142_29 104) (b - 10) z225_45)) 86 = fup (w142_29 86) b ((w142_29 86) b) := (sOf_ne _ _ (by decide)).trans (sOf_eq _ _ _)
                        have e85_88 : (setO (setO g225_45 86 (fup (w142_29 86) b ((w142_29 86) b))) 104 (fup (w142_29 104) (b - 10) z225_45)) 88 = w142_29 88 := (sOf_ne _ _ (by decide)).trans ((sOf_ne _ _ (by decide)).trans (((hG_45.1 88 (by decide))).trans (hG_42.1 88 (by decide))))
                        have e86_73_42 : (setO (setO g225_45 86 (fup (w142_29 86) b ((w142_29 86) b))) 104 (fup (w142_29 104) (b - 10) z225_45)) 73 42 = (g225_45 73) 42 := rd_ ((sOf_ne _ _ (by decide)).trans (sOf_ne _ _ (by decide))) rfl
                        have e87_73_43 : (setO (setO g225_45 86 (fup (w142_29 86) b ((w142_29 86) b))) 104 (fup (w142_29 104) (b - 10) z225_45)) 73 43 = (g225_45 73) 43 := rd_ ((sOf_ne _ _ (by decide)).trans (sOf_ne _ _ (by decide))) rfl
                        have e88_88 : (setO (setO g225_45 86 (fup (w142_29 86) b ((w142_29 86) b))) 104 (fup (w142_29 104) (b - 10) z225_45)) 88 = w142_29 88 := (sOf_ne _ _ (by decide)).trans ((sOf_ne _ _ (by decide)).trans (((hG_45.1 88 (by decide))).trans (hG_42.1 88 (by decide))))
                        exact ⟨⟨hT_70, hF_70⟩, rfl, (by rewrite [e71_73_42, e72_73_43]; omega), (by rewrite [e73_83]; first | exact k83i | (intro q hq; rfl) | (intro q hq; exact fup_ne _ _ (by omega)) | (intro q hq; rw [fup_ne _ _ (by omega)]; exact k83i q hq)), (by rewrite [e74_104, e75_73_42, e76_73_43, e77_73_45, e78_73_50, e79_83, e80_86, e81_88]; rw [fup_eq, fup_eq]; exact GHP_2 gd (by omega) (by omega) r01.1 gb_at225 (by first | exact Or.inl (by omega) | (have e9 := congrFun k86 b; exact Or.inr ⟨by omega, by omega⟩))), (by rewrite [e82_104, e83_83, e84_86, e85_88]; refine ⟨fun j hj => ⟨k83 j hj, ?_, k88c j hj⟩, fun j hj => ?_⟩; (rw [fup_ne _ _ hj]; exact congrFun k86 j); (rw [fup_ne _ _ hj]; exact congrFun k104 j)), (by rewrite [e86_73_42, e87_73_43, e88_88]; omega)⟩
                  · refine TT_aload_n hK rfl 0 rfl dX12_getHead_146 ?_
                    refine TT_iconst hK dX12_getHead_147 ?_
                    have e89_73_44 : w142_29 73 44 = (h 73) 44 := (hF142_29.2 44 (by decide))
                    have e90_73_45 : w142_29 73 45 = (w142_29 73) 45 := rfl
                    refine iv_X12_372 hK (s_getBits_e 1 w142_29 hT142_29 (by first | omega | (simp [up, setR] <;> omega)) (by first | omega | (simp [up, setR] <;> omega)) (by rewrite [e89_73_44]; first | omega | (simp [up, setR] <;> omega)) (by rewrite [e90_73_45]; first | omega | (simp [up, setR] <;> omega))) (by decide) rfl ⟨by decide, by decide⟩ (by decide) rfl rfl (Nat.le_of_ble_eq_true rfl) ⟨by decide, by decide⟩ dX12_getHead_148 ?_
                    intro r9 g148_91 hp9
                    obtain ⟨⟨hT_91, hG_91⟩, z148_91, hr9, hz_91, p2_91, p3_91, p6_91, gb_91, g01_91⟩ := hp9
                    rw [hr9]
                    have hF_91 : FRM [73, 83, 86, 88, 104] [42, 43, 45, 50] h g148_91 := FRM_tr hF142_29 hG_91 (by decide) (by decide)
                    rw [show w142_29 73 42 = (w142_29 73) 42 from rfl] at p3_91
                    rw [show w142_29 73 43 = (w142_29 73) 43 from rfl] at p3_91
                    rw [show w142_29 73 44 = (h 73) 44 from (hF142_29.2 44 (by decide))] at p3_91
                    rw [show w142_29 73 42 = (w142_29 73) 42 from rfl] at p6_91
                    rw [show w142_29 73 43 = (w142_29 73) 43 from rfl] at p6_91
                    rw [show w142_29 100 = h 100 from (hF142_29.1 100 (by decide))] at gb_91
                    rw [show w142_29 73 42 = (w142_29 73) 42 from rfl] at gb_91
                    rw [show w142_29 73 43 = (w142_29 73) 43 from rfl] at gb_91
                    rw [show w142_29 73 44 = (h 73) 44 from (hF142_29.2 44 (by decide))] at gb_91
                    rw [show w142_29 73 45 = (w142_29 73) 45 from rfl] at gb_91
                    have gb_at148 := gb_91
                    have g01_at148 := g01_91
                    show TT K ly 0 0 151 [(0, vR 73), (1, vI b), (2, vI n), (3, vI gr)] [vI z148_91] g148_91
                    refine TT_iconst hK dX12_getHead_151 ?_
                    refine TT_icmp_ne hK (tgt := 166) (irm (by omega) (by omega)) (by decide) dX12_getHead_152 (by decide) (fun hb152_92 => ?_) (fun hb152_92 => ?_)
                    · refine TT_iconst hK dX12_getHead_166 ?_
                      refine TT_istore_n hK rfl (lv' := [(3, vI 0), (0, vR 73), (1, vI b), (2, vI n)]) (by decide) rfl dX12_getHead_167 ?_
                      refine TT_aload_n hK rfl 1 rfl dX12_getHead_168 ?_
                      refine gf_X12_60 hK (by decide) rfl (q := 88) rfl rfl dX12_getHead_169 ?_
                      refine TT_iload_n hK rfl 2 rfl dX12_getHead_172 ?_
                      refine TT_iload_n hK rfl 0 rfl dX12_getHead_173 ?_
                      refine TT_if_eq hK (tgt := 188) (by decide) dX12_getHead_174 (by decide) (fun hb174_93 => ?_) (fun hb174_93 => ?_)
                      · refine TT_aload_n hK rfl 1 rfl dX12_getHead_188 ?_
                        refine gf_X12_60 hK (by decide) rfl (q := 88) rfl rfl dX12_getHead_189 ?_
                        refine TT_iload_n hK rfl 2 rfl dX12_getHead_192 ?_
                        refine TT_iald hK (o := 88) (n := 20) (by decide) rfl (by first | omega | (simp [up, setR] <;> omega)) (by first | omega | (simp [up, setR] <;> omega)) (v := (w142_29 88) b) (rd_ (hG_91.1 88 (by decide)) rfl) dX12_getHead_193 ?_
                        have r94 := ty_88 (i := b) (v := (w142_29 88) b) hT_91 (rd_ (hG_91.1 88 (by decide)) rfl) (by omega) (by omega)
                        refine TT_iast hK (o := 88) (n := 20) (by decide) rfl (by omega) (by omega) dX12_getHead_194 ?_
                        refine TT_hp (h' := setO g148_91 88 (fup (w142_29 88) b ((w142_29 88) b))) (up_can (hG_91.1 88 (by decide)) rfl rfl) ?_
                        have hT_95 : TY (setO g148_91 88 (fup (w142_29 88) b ((w142_29 88) b))) := tu_88 hT_91 (show up g148_91 88 b ((w142_29 88) b) = (setO g148_91 88 (fup (w142_29 88) b ((w142_29 88) b))) from up_can (hG_91.1 88 (by decide)) rfl rfl) (by omega)
                        have hF_95 : FRM [73, 83, 86, 88, 104] [42, 43, 45, 50] h (setO g148_91 88 (fup (w142_29 88) b ((w142_29 88) b))) := FRM_up (show up g148_91 88 b ((w142_29 88) b) = (setO g148_91 88 (fup (w142_29 88) b ((w142_29 88) b))) from up_can (hG_91.1 88 (by decide)) rfl rfl) hF_91 (by decide) (by decide)
                        refine TT_goto hK (tgt := 142) dX12_getHead_195 (by decide) ?_
                        refine TT_sub [1, 2, 3, 0] rfl ?_
                        have e96_73_42 : (setO g148_91 88 (fup (w142_29 88) b ((w142_29 88) b))) 73 42 = (g148_91 73) 42 := rd_ (sOf_ne _ _ (by decide)) rfl
                        have e97_73_43 : (setO g148_91 88 (fup (w142_29 88) b ((w142_29 88) b))) 73 43 = (g148_91 73) 43 := rd_ (sOf_ne _ _ (by decide)) rfl
                        have e98_83 : (setO g148_91 88 (fup (w142_29 88) b ((w142_29 88) b))) 83 = w142_29 83 := (sOf_ne _ _ (by decide)).trans (hG_91.1 83 (by decide))
                        have e99_73_45 : (setO g148_91 88 (fup (w142_29 88) b ((w142_29 88) b))) 73 45 = (g148_91 73) 45 := rd_ (sOf_ne _ _ (by decide)) rfl
                        have e100_73_50 : (setO g148_91 88 (fup (w142_29 88) b ((w142_29 88) b))) 73 50 = (w142_29 73) 50 := (rd_ (sOf_ne _ _ (by decide)) rfl).trans (hG_91.2 50 (by decide))
                        have e101_73_50 : (setO g148_91 88 (fup (w142_29 88) b ((w142_29 88) b))) 73 50 = (w142_29 73) 50 := (rd_ (sOf_ne _ _ (by decide)) rfl).trans (hG_91.2 50 (by decide))
                        have e102_86 : (setO g148_91 88 (fup (w142_29 88) b ((w142_29 88) b))) 86 = w142_29 86 := (sOf_ne _ _ (by decide)).trans (hG_91.1 86 (by decide))
                        have e103_104 : (setO g148_91 88 (fup (w142_29 88) b ((w142_29 88) b))) 104 = w142_29 104 := (sOf_ne _ _ (by decide)).trans (hG_91.1 104 (by decide))
                        have e104_83 : (setO g148_91 88 (fup (w142_29 88) b ((w142_29 88) b))) 83 = w142_29 83 := (sOf_ne _ _ (by decide)).trans (hG_91.1 83 (by decide))
                        have e105_88 : (setO g148_91 88 (fup (w142_29 88) b ((w142_29 88) b))) 88 = fup (w142_29 88) b ((w142_29 88) b) := sOf_eq _ _ _
                        have e106_73_42 : (setO g148_91 88 (fup (w142_29 88) b ((w142_29 88) b))) 73 42 = (g148_91 73) 42 := rd_ (sOf_ne _ _ (by decide)) rfl
                        have e107_73_43 : (setO g148_91 88 (fup (w142_29 88) b ((w142_29 88) b))) 73 43 = (g148_91 73) 43 := rd_ (sOf_ne _ _ (by decide)) rfl
                        have e108_73_45 : (setO g148_91 88 (fup (w142_29 88) b ((w142_29 88) b))) 73 45 = (g148_91 73) 45 := rd_ (sOf_ne _ _ (by decide)) rfl
                        have e109_73_50 : (setO g148_91 88 (fup (w142_29 88) b ((w142_29 88) b))) 73 50 = (w142_29 73) 50 := (rd_ (sOf_ne _ _ (by decide)) rfl).trans (hG_91.2 50 (by decide))
                        have e110_83 : (setO g148_91 88 (fup (w142_29 88) b ((w142_29 88) b))) 83 = w142_29 83 := (sOf_ne _ _ (by decide)).trans (hG_91.1 83 (by decide))
                        have e111_88 : (setO g148_91 88 (fup (w142_29 88) b ((w142_29 88) b))) 88 = fup (w142_29 88) b ((w142_29 88) b) := sOf_eq _ _ _
                        have e112_73_42 : (setO g148_91 88 (fup (w142_29 88) b ((w142_29 88) b))) 73 42 = (g148_91 73) 42 := rd_ (sOf_ne _ _ (by decide)) rfl
                        have e113_73_43 : (setO g148_91 88 (fup (w142_29 88) b ((w142_29 88) b))) 73 43 = (g148_91 73) 43 := rd_ (sOf_ne _ _ (by decide)) rfl
                        have e114_88 : (setO g148_91 88 (fup (w142_29 88) b ((w142_29 88) b))) 88 = fup (w142_29 88) b ((w142_29 88) b) := sOf_eq _ _ _
                        have e115_73_42 : (setO g148_91 88 (fup (w142_29 88) b ((w142_29 88) b))) 73 42 = (g148_91 73) 42 := rd_ (sOf_ne _ _ (by decide)) rfl
                        have e116_73_43 : (setO g148_91 88 (fup (w142_29 88) b ((w142_29 88) b))) 73 43 = (g148_91 73) 43 := rd_ (sOf_ne _ _ (by decide)) rfl
                        have e117_73_42 : (setO g148_91 88 (fup (w142_29 88) b ((w142_29 88) b))) 73 42 = (g148_91 73) 42 := rd_ (sOf_ne _ _ (by decide)) rfl
                        have e118_73_43 : (setO g148_91 88 (fup (w142_29 88) b ((w142_29 88) b))) 73 43 = (g148_91 73) 43 := rd_ (sOf_ne _ _ (by decide)) rfl
                        exact ih29 0 ml9 (setO g148_91 88 (fup (w142_29 88) b ((w142_29 88) b))) hT_95 hF_95 (by first | omega | (simp [up, setR] <;> omega)) (by rewrite [e96_73_42, e97_73_43]; first | omega | (simp [up, setR] <;> omega)) (by rewrite [e98_83]; first | exact k83i | (intro q hq; rfl) | (intro q hq; exact fup_ne _ _ (by omega)) | (intro q hq; rw [fup_ne _ _ (by omega)]; exact k83i q hq)) (by rewrite [e99_73_45, e100_73_50]; first | omega | (simp [up, setR] <;> omega)) (by rewrite [e101_73_50]; exact kml) (by rewrite [e102_86]; first | rfl | exact k86) (by rewrite [e103_104]; first | rfl | exact k104) (by rewrite [e104_83]; first | exact k83 | (intro j hj; rfl) | (intro j hj; exact fup_ne _ _ hj)) (by rewrite [e105_88]; first | exact k88c | (intro j hj; rw [fup_ne _ _ hj]; exact k88c j hj)) (by rewrite [e106_73_42, e107_73_43, e108_73_45, e109_73_50, e110_83, e111_88]; exact GHD_s gd (by omega) (by omega) r01.1 hw.1 hn gb_at148 (by first | exact Or.inl ⟨rfl, by omega, by omega, by rw [fup_eq]⟩ | exact Or.inr ⟨rfl, by omega, by rw [fup_eq]⟩)) (by rewrite [e112_73_42, e113_73_43, e114_88]; rw [fup_eq]; omega) (by rewrite [e115_73_42, e116_73_43]; first | omega | (simp [up, setR] <;> omega)) (by rewrite [e117_73_42, e118_73_43]; first | omega | (simp [up, setR] <;> omega))
                      · exact absurd hb174_93 (by decide)
                    · refine TT_aload_n hK rfl 0 rfl dX12_getHead_155 ?_
                      refine gf_X12_365 hK (by decide) rfl (v := (g148_91 73) 45) rfl dX12_getHead_156 ?_
                      have r119 := ty_73_45 (v := (g148_91 73) 45) hT_91 rfl
                      refine TT_if_ne hK (tgt := 166) (irm (by omega) (by omega)) dX12_getHead_159 (by decide) (fun hb159_120 => ?_) (fun hb159_120 => ?_)
                      · refine TT_iconst hK dX12_getHead_166 ?_
                        refine TT_istore_n hK rfl (lv' := [(3, vI 0), (0, vR 73), (1, vI b), (2, vI n)]) (by decide) rfl dX12_getHead_167 ?_
                        refine TT_aload_n hK rfl 1 rfl dX12_getHead_168 ?_
                        refine gf_X12_60 hK (by decide) rfl (q := 88) rfl rfl dX12_getHead_169 ?_
                        refine TT_iload_n hK rfl 2 rfl dX12_getHead_172 ?_
                        refine TT_iload_n hK rfl 0 rfl dX12_getHead_173 ?_
                        refine TT_if_eq hK (tgt := 188) (by decide) dX12_getHead_174 (by decide) (fun hb174_121 => ?_) (fun hb174_121 => ?_)
                        · refine TT_aload_n hK rfl 1 rfl dX12_getHead_188 ?_
                          refine gf_X12_60 hK (by decide) rfl (q := 88) rfl rfl dX12_getHead_189 ?_
                          refine TT_iload_n hK rfl 2 rfl dX12_getHead_192 ?_
                          refine TT_iald hK (o := 88) (n := 20) (by decide) rfl (by first | omega | (simp [up, setR] <;> omega)) (by first | omega | (simp [up, setR] <;> omega)) (v := (w142_29 88) b) (rd_ (hG_91.1 88 (by decide)) rfl) dX12_getHead_193 ?_
                          have r122 := ty_88 (i := b) (v := (w142_29 88) b) hT_91 (rd_ (hG_91.1 88 (by decide)) rfl) (by omega) (by omega)
                          refine TT_iast hK (o := 88) (n := 20) (by decide) rfl (by omega) (by omega) dX12_getHead_194 ?_
                          refine TT_hp (h' := setO g148_91 88 (fup (w142_29 88) b ((w142_29 88) b))) (up_can (hG_91.1 88 (by decide)) rfl rfl) ?_
                          have hT_123 : TY (setO g148_91 88 (fup (w142_29 88) b ((w142_29 88) b))) := tu_88 hT_91 (show up g148_91 88 b ((w142_29 88) b) = (setO g148_91 88 (fup (w142_29 88) b ((w142_29 88) b))) from up_can (hG_91.1 88 (by decide)) rfl rfl) (by omega)
                          have hF_123 : FRM [73, 83, 86, 88, 104] [42, 43, 45, 50] h (setO g148_91 88 (fup (w142_29 88) b ((w142_29 88) b))) := FRM_up (show up g148_91 88 b ((w142_29 88) b) = (setO g148_91 88 (fup (w142_29 88) b ((w142_29 88) b))) from up_can (hG_91.1 88 (by decide)) rfl rfl) hF_91 (by decide) (by decide)
                          refine TT_goto hK (tgt := 142) dX12_getHead_195 (by decide) ?_
                          refine TT_sub [1, 2, 3, 0] rfl ?_
                          have e124_73_42 : (setO g148_91 88 (fup (w142_29 88) b ((w142_29 88) b))) 73 42 = (g148_91 73) 42 := rd_ (sOf_ne _ _ (by decide)) rfl
                          have e125_73_43 : (setO g148_91 88 (fup (w142_29 88) b ((w142_29 88) b))) 73 43 = (g148_91 73) 43 := rd_ (sOf_ne _ _ (by decide)) rfl
                          have e126_83 : (setO g148_91 88 (fup (w142_29 88) b ((w142_29 88) b))) 83 = w142_29 83 := (sOf_ne _ _ (by decide)).trans (hG_91.1 83 (by decide))
                          have e127_73_45 : (setO g148_91 88 (fup (w142_29 88) b ((w142_29 88) b))) 73 45 = (g148_91 73) 45 := rd_ (sOf_ne _ _ (by decide)) rfl
                          have e128_73_50 : (setO g148_91 88 (fup (w142_29 88) b ((w142_29 88) b))) 73 50 = (w142_29 73) 50 := (rd_ (sOf_ne _ _ (by decide)) rfl).trans (hG_91.2 50 (by decide))
                          have e129_73_50 : (setO g148_91 88 (fup (w142_29 88) b ((w142_29 88) b))) 73 50 = (w142_29 73) 50 := (rd_ (sOf_ne _ _ (by decide)) rfl).trans (hG_91.2 50 (by decide))
                          have e130_86 : (setO g148_91 88 (fup (w142_29 88) b ((w142_29 88) b))) 86 = w142_29 86 := (sOf_ne _ _ (by decide)).trans (hG_91.1 86 (by decide))
                          have e131_104 : (setO g148_91 88 (fup (w142_29 88) b ((w142_29 88) b))) 104 = w142_29 104 := (sOf_ne _ _ (by decide)).trans (hG_91.1 104 (by decide))
                          have e132_83 : (setO g148_91 88 (fup (w142_29 88) b ((w142_29 88) b))) 83 = w142_29 83 := (sOf_ne _ _ (by decide)).trans (hG_91.1 83 (by decide))
                          have e133_88 : (setO g148_91 88 (fup (w142_29 88) b ((w142_29 88) b))) 88 = fup (w142_29 88) b ((w142_29 88) b) := sOf_eq _ _ _
                          have e134_73_42 : (setO g148_91 88 (fup (w142_29 88) b ((w142_29 88) b))) 73 42 = (g148_91 73) 42 := rd_ (sOf_ne _ _ (by decide)) rfl
                          have e135_73_43 : (setO g148_91 88 (fup (w142_29 88) b ((w142_29 88) b))) 73 43 = (g148_91 73) 43 := rd_ (sOf_ne _ _ (by decide)) rfl
                          have e136_73_45 : (setO g148_91 88 (fup (w142_29 88) b ((w142_29 88) b))) 73 45 = (g148_91 73) 45 := rd_ (sOf_ne _ _ (by decide)) rfl
                          have e137_73_50 : (setO g148_91 88 (fup (w142_29 88) b ((w142_29 88) b))) 73 50 = (w142_29 73) 50 := (rd_ (sOf_ne _ _ (by decide)) rfl).trans (hG_91.2 50 (by decide))
                          have e138_83 : (setO g148_91 88 (fup (w142_29 88) b ((w142_29 88) b))) 83 = w142_29 83 := (sOf_ne _ _ (by decide)).trans (hG_91.1 83 (by decide))
                          have e139_88 : (setO g148_91 88 (fup (w142_29 88) b ((w142_29 88) b))) 88 = fup (w142_29 88) b ((w142_29 88) b) := sOf_eq _ _ _
                          have e140_73_42 : (setO g148_91 88 (fup (w142_29 88) b ((w142_29 88) b))) 73 42 = (g148_91 73) 42 := rd_ (sOf_ne _ _ (by decide)) rfl
                          have e141_73_43 : (setO g148_91 88 (fup (w142_29 88) b ((w142_29 88) b))) 73 43 = (g148_91 73) 43 := rd_ (sOf_ne _ _ (by decide)) rfl
                          have e142_88 : (setO g148_91 88 (fup (w142_29 88) b ((w142_29 88) b))) 88 = fup (w142_29 88) b ((w142_29 88) b) := sOf_eq _ _ _
                          have e143_73_42 : (setO g148_91 88 (fup (w142_29 88) b ((w142_29 88) b))) 73 42 = (g148_91 73) 42 := rd_ (sOf_ne _ _ (by decide)) rfl
                          have e144_73_43 : (setO g148_91 88 (fup (w142_29 88) b ((w142_29 88) b))) 73 43 = (g148_91 73) 43 := rd_ (sOf_ne _ _ (by decide)) rfl
                          have e145_73_42 : (setO g148_91 88 (fup (w142_29 88) b ((w142_29 88) b))) 73 42 = (g148_91 73) 42 := rd_ (sOf_ne _ _ (by decide)) rfl
                          have e146_73_43 : (setO g148_91 88 (fup (w142_29 88) b ((w142_29 88) b))) 73 43 = (g148_91 73) 43 := rd_ (sOf_ne _ _ (by decide)) rfl
                          exact ih29 0 ml9 (setO g148_91 88 (fup (w142_29 88) b ((w142_29 88) b))) hT_123 hF_123 (by first | omega | (simp [up, setR] <;> omega)) (by rewrite [e124_73_42, e125_73_43]; first | omega | (simp [up, setR] <;> omega)) (by rewrite [e126_83]; first | exact k83i | (intro q hq; rfl) | (intro q hq; exact fup_ne _ _ (by omega)) | (intro q hq; rw [fup_ne _ _ (by omega)]; exact k83i q hq)) (by rewrite [e127_73_45, e128_73_50]; first | omega | (simp [up, setR] <;> omega)) (by rewrite [e129_73_50]; exact kml) (by rewrite [e130_86]; first | rfl | exact k86) (by rewrite [e131_104]; first | rfl | exact k104) (by rewrite [e132_83]; first | exact k83 | (intro j hj; rfl) | (intro j hj; exact fup_ne _ _ hj)) (by rewrite [e133_88]; first | exact k88c | (intro j hj; rw [fup_ne _ _ hj]; exact k88c j hj)) (by rewrite [e134_73_42, e135_73_43, e136_73_45, e137_73_50, e138_83, e139_88]; exact GHD_s gd (by omega) (by omega) r01.1 hw.1 hn gb_at148 (by first | exact Or.inl ⟨rfl, by omega, by omega, by rw [fup_eq]⟩ | exact Or.inr ⟨rfl, by omega, by rw [fup_eq]⟩)) (by rewrite [e140_73_42, e141_73_43, e142_88]; rw [fup_eq]; omega) (by rewrite [e143_73_42, e144_73_43]; first | omega | (simp [up, setR] <;> omega)) (by rewrite [e145_73_42, e146_73_43]; first | omega | (simp [up, setR] <;> omega))
                        · exact absurd hb174_121 (by decide)
                      · refine TT_iconst hK dX12_getHead_162 ?_
                        refine TT_goto hK (tgt := 167) dX12_getHead_163 (by decide) ?_
                        refine TT_istore_n hK rfl (lv' := [(3, vI 1), (0, vR 73), (1, vI b), (2, vI n)]) (by decide) rfl dX12_getHead_167 ?_
                        refine TT_aload_n hK rfl 1 rfl dX12_getHead_168 ?_
                        refine gf_X12_60 hK (by decide) rfl (q := 88) rfl rfl dX12_getHead_169 ?_
                        refine TT_iload_n hK rfl 2 rfl dX12_getHead_172 ?_
                        refine TT_iload_n hK rfl 0 rfl dX12_getHead_173 ?_
                        refine TT_if_eq hK (tgt := 188) (by decide) dX12_getHead_174 (by decide) (fun hb174_147 => ?_) (fun hb174_147 => ?_)
                        · exact absurd hb174_147 (by decide)
                        · refine TT_aload_n hK rfl 1 rfl dX12_getHead_177 ?_
                          refine gf_X12_60 hK (by decide) rfl (q := 88) rfl rfl dX12_getHead_178 ?_
                          refine TT_iload_n hK rfl 2 rfl dX12_getHead_181 ?_
                          refine TT_iald hK (o := 88) (n := 20) (by decide) rfl (by first | omega | (simp [up, setR] <;> omega)) (by first | omega | (simp [up, setR] <;> omega)) (v := (w142_29 88) b) (rd_ (hG_91.1 88 (by decide)) rfl) dX12_getHead_182 ?_
                          have r148 := ty_88 (i := b) (v := (w142_29 88) b) hT_91 (rd_ (hG_91.1 88 (by decide)) rfl) (by omega) (by omega)
                          refine TT_iconst hK dX12_getHead_183 ?_
                          refine TT_iadd hK dX12_getHead_184 ?_
                          refine TT_goto hK (tgt := 194) dX12_getHead_185 (by decide) ?_
                          refine TT_iast hK (o := 88) (n := 20) (by decide) rfl (by omega) (by omega) dX12_getHead_194 ?_
                          refine TT_hp (h' := setO g148_91 88 (fup (w142_29 88) b (((w142_29 88) b) + 1))) (up_can (hG_91.1 88 (by decide)) rfl rfl) ?_
                          have hT_149 : TY (setO g148_91 88 (fup (w142_29 88) b (((w142_29 88) b) + 1))) := tu_88 hT_91 (show up g148_91 88 b (((w142_29 88) b) + 1) = (setO g148_91 88 (fup (w142_29 88) b (((w142_29 88) b) + 1))) from up_can (hG_91.1 88 (by decide)) rfl rfl) (by omega)
                          have hF_149 : FRM [73, 83, 86, 88, 104] [42, 43, 45, 50] h (setO g148_91 88 (fup (w142_29 88) b (((w142_29 88) b) + 1))) := FRM_up (show up g148_91 88 b (((w142_29 88) b) + 1) = (setO g148_91 88 (fup (w142_29 88) b (((w142_29 88) b) + 1))) from up_can (hG_91.1 88 (by decide)) rfl rfl) hF_91 (by decide) (by decide)
                          refine TT_goto hK (tgt := 142) dX12_getHead_195 (by decide) ?_
                          refine TT_sub [1, 2, 3, 0] rfl ?_
                          have e150_73_42 : (setO g148_91 88 (fup (w142_29 88) b (((w142_29 88) b) + 1))) 73 42 = (g148_91 73) 42 := rd_ (sOf_ne _ _ (by decide)) rfl
                          have e151_73_43 : (setO g148_91 88 (fup (w142_29 88) b (((w142_29 88) b) + 1))) 73 43 = (g148_91 73) 43 := rd_ (sOf_ne _ _ (by decide)) rfl
                          have e152_83 : (setO g148_91 88 (fup (w142_29 88) b (((w142_29 88) b) + 1))) 83 = w142_29 83 := (sOf_ne _ _ (by decide)).trans (hG_91.1 83 (by decide))
                          have e153_73_45 : (setO g148_91 88 (fup (w142_29 88) b (((w142_29 88) b) + 1))) 73 45 = (g148_91 73) 45 := rd_ (sOf_ne _ _ (by decide)) rfl
                          have e154_73_50 : (setO g148_91 88 (fup (w142_29 88) b (((w142_29 88) b) + 1))) 73 50 = (w142_29 73) 50 := (rd_ (sOf_ne _ _ (by decide)) rfl).trans (hG_91.2 50 (by decide))
                          have e155_73_50 : (setO g148_91 88 (fup (w142_29 88) b (((w142_29 88) b) + 1))) 73 50 = (w142_29 73) 50 := (rd_ (sOf_ne _ _ (by decide)) rfl).trans (hG_91.2 50 (by decide))
                          have e156_86 : (setO g148_91 88 (fup (w142_29 88) b (((w142_29 88) b) + 1))) 86 = w142_29 86 := (sOf_ne _ _ (by decide)).trans (hG_91.1 86 (by decide))
                          have e157_104 : (setO g148_91 88 (fup (w142_29 88) b (((w142_29 88) b) + 1))) 104 = w142_29 104 := (sOf_ne _ _ (by decide)).trans (hG_91.1 104 (by decide))
                          have e158_83 : (setO g148_91 88 (fup (w142_29 88) b (((w142_29 88) b) + 1))) 83 = w142_29 83 := (sOf_ne _ _ (by decide)).trans (hG_91.1 83 (by decide))
                          have e159_88 : (setO g148_91 88 (fup (w142_29 88) b (((w142_29 88) b) + 1))) 88 = fup (w142_29 88) b (((w142_29 88) b) + 1) := sOf_eq _ _ _
                          have e160_73_42 : (setO g148_91 88 (fup (w142_29 88) b (((w142_29 88) b) + 1))) 73 42 = (g148_91 73) 42 := rd_ (sOf_ne _ _ (by decide)) rfl
                          have e161_73_43 : (setO g148_91 88 (fup (w142_29 88) b (((w142_29 88) b) + 1))) 73 43 = (g148_91 73) 43 := rd_ (sOf_ne _ _ (by decide)) rfl
                          have e162_73_45 : (setO g148_91 88 (fup (w142_29 88) b (((w142_29 88) b) + 1))) 73 45 = (g148_91 73) 45 := rd_ (sOf_ne _ _ (by decide)) rfl
                          have e163_73_50 : (setO g148_91 88 (fup (w142_29 88) b (((w142_29 88) b) + 1))) 73 50 = (w142_29 73) 50 := (rd_ (sOf_ne _ _ (by decide)) rfl).trans (hG_91.2 50 (by decide))
                          have e164_83 : (setO g148_91 88 (fup (w142_29 88) b (((w142_29 88) b) + 1))) 83 = w142_29 83 := (sOf_ne _ _ (by decide)).trans (hG_91.1 83 (by decide))
                          have e165_88 : (setO g148_91 88 (fup (w142_29 88) b (((w142_29 88) b) + 1))) 88 = fup (w142_29 88) b (((w142_29 88) b) + 1) := sOf_eq _ _ _
                          have e166_73_42 : (setO g148_91 88 (fup (w142_29 88) b (((w142_29 88) b) + 1))) 73 42 = (g148_91 73) 42 := rd_ (sOf_ne _ _ (by decide)) rfl
                          have e167_73_43 : (setO g148_91 88 (fup (w142_29 88) b (((w142_29 88) b) + 1))) 73 43 = (g148_91 73) 43 := rd_ (sOf_ne _ _ (by decide)) rfl
                          have e168_88 : (setO g148_91 88 (fup (w142_29 88) b (((w142_29 88) b) + 1))) 88 = fup (w142_29 88) b (((w142_29 88) b) + 1) := sOf_eq _ _ _
                          have e169_73_42 : (setO g148_91 88 (fup (w142_29 88) b (((w142_29 88) b) + 1))) 73 42 = (g148_91 73) 42 := rd_ (sOf_ne _ _ (by decide)) rfl
                          have e170_73_43 : (setO g148_91 88 (fup (w142_29 88) b (((w142_29 88) b) + 1))) 73 43 = (g148_91 73) 43 := rd_ (sOf_ne _ _ (by decide)) rfl
                          have e171_73_42 : (setO g148_91 88 (fup (w142_29 88) b (((w142_29 88) b) + 1))) 73 42 = (g148_91 73) 42 := rd_ (sOf_ne _ _ (by decide)) rfl
                          have e172_73_43 : (setO g148_91 88 (fup (w142_29 88) b (((w142_29 88) b) + 1))) 73 43 = (g148_91 73) 43 := rd_ (sOf_ne _ _ (by decide)) rfl
                          exact ih29 1 ml9 (setO g148_91 88 (fup (w142_29 88) b (((w142_29 88) b) + 1))) hT_149 hF_149 (by first | omega | (simp [up, setR] <;> omega)) (by rewrite [e150_73_42, e151_73_43]; first | omega | (simp [up, setR] <;> omega)) (by rewrite [e152_83]; first | exact k83i | (intro q hq; rfl) | (intro q hq; exact fup_ne _ _ (by omega)) | (intro q hq; rw [fup_ne _ _ (by omega)]; exact k83i q hq)) (by rewrite [e153_73_45, e154_73_50]; first | omega | (simp [up, setR] <;> omega)) (by rewrite [e155_73_50]; exact kml) (by rewrite [e156_86]; first | rfl | exact k86) (by rewrite [e157_104]; first | rfl | exact k104) (by rewrite [e158_83]; first | exact k83 | (intro j hj; rfl) | (intro j hj; exact fup_ne _ _ hj)) (by rewrite [e159_88]; first | exact k88c | (intro j hj; rw [fup_ne _ _ hj]; exact k88c j hj)) (by rewrite [e160_73_42, e161_73_43, e162_73_45, e163_73_50, e164_83, e165_88]; exact GHD_s gd (by omega) (by omega) r01.1 hw.1 hn gb_at148 (by first | exact Or.inl ⟨rfl, by omega, by omega, by rw [fup_eq]⟩ | exact Or.inr ⟨rfl, by omega, by rw [fup_eq]⟩)) (by rewrite [e166_73_42, e167_73_43, e168_88]; rw [fup_eq]; omega) (by rewrite [e169_73_42, e170_73_43]; first | omega | (simp [up, setR] <;> omega)) (by rewrite [e171_73_42, e172_73_43]; first | omega | (simp [up, setR] <;> omega))
              refine TT_sub [1, 2, 3, 0] rfl ?_
              have e173_73_42 : w129_27 73 42 = (w129_27 73) 42 := rfl
              have e174_73_43 : w129_27 73 43 = (w129_27 73) 43 := rfl
              have e175_73_45 : w129_27 73 45 = (w129_27 73) 45 := rfl
              have e176_73_50 : w129_27 73 50 = (w129_27 73) 50 := rfl
              have e177_73_50 : w129_27 73 50 = (w129_27 73) 50 := rfl
              have e178_73_42 : w129_27 73 42 = (w129_27 73) 42 := rfl
              have e179_73_43 : w129_27 73 43 = (w129_27 73) 43 := rfl
              have e180_73_45 : w129_27 73 45 = (w129_27 73) 45 := rfl
              have e181_73_50 : w129_27 73 50 = (w129_27 73) 50 := rfl
              have e182_73_42 : w129_27 73 42 = (w129_27 73) 42 := rfl
              have e183_73_43 : w129_27 73 43 = (w129_27 73) 43 := rfl
              have e184_73_42 : w129_27 73 42 = (w129_27 73) 42 := rfl
              have e185_73_43 : w129_27 73 43 = (w129_27 73) 43 := rfl
              exact L142_29 (((8 * (h 73 44) + 1 - (8 * (w129_27 73 42) + (w129_27 73 43))).toNat + g0.toNat) + 1) g0 ((w129_27 73) 50) w129_27 hT129_27 hF129_27 (by first | omega | (simp [up, setR] <;> omega)) (by rewrite [e173_73_42, e174_73_43]; first | omega | (simp [up, setR] <;> omega)) (by first | exact k83i | (intro q hq; rfl) | (intro q hq; exact fup_ne _ _ (by omega)) | (intro q hq; rw [fup_ne _ _ (by omega)]; exact k83i q hq)) (by rewrite [e175_73_45, e176_73_50]; first | omega | (simp [up, setR] <;> omega)) (by rewrite [e177_73_50]; rfl) (by first | rfl | exact k86) (by first | rfl | exact k104) (by first | exact k83 | (intro j hj; rfl) | (intro j hj; exact fup_ne _ _ hj)) (by intro j hj; rw [k88]) (by rewrite [e178_73_42, e179_73_43, e180_73_45, e181_73_50]; exact GHD_0 gc hg9 (congrFun k88 b)) (by rewrite [e182_73_42, e183_73_43]; have k9 := congrFun k88 b; omega) (by rewrite [e184_73_42, e185_73_43]; first | omega | (simp [up, setR] <;> omega)) (Nat.lt_succ_self _)
            refine TT_aload_n hK rfl 0 rfl dX12_getHead_129 ?_
            refine gf_X12_375 hK (by decide) rfl (v := (w129_27 73) 50) rfl dX12_getHead_130 ?_
            have r186 := ty_73_50 (v := (w129_27 73) 50) hT129_27 rfl
            refine TT_if_ne hK (tgt := 140) (irm (by omega) (by omega)) dX12_getHead_133 (by decide) (fun hb133_187 => ?_) (fun hb133_187 => ?_)
            · refine TT_iconst hK dX12_getHead_140 ?_
              have e188_73_50 : w129_27 73 50 = (w129_27 73) 50 := rfl
              exact J141_28 0 (by first | omega | (simp [up, setR] <;> omega)) (by rewrite [e188_73_50]; first | omega | (simp [up, setR] <;> omega))
            · refine TT_iconst hK dX12_getHead_136 ?_
              refine TT_goto hK (tgt := 141) dX12_getHead_137 (by decide) ?_
              have e189_73_50 : w129_27 73 50 = (w129_27 73) 50 := rfl
              exact J141_28 1 (by first | omega | (simp [up, setR] <;> omega)) (by rewrite [e189_73_50]; first | omega | (simp [up, setR] <;> omega))
          refine TT_aload_n hK rfl 0 rfl dX12_getHead_90 ?_
          refine TT_aload_n hK rfl 0 rfl dX12_getHead_91 ?_
          refine gf_X12_375 hK (by decide) rfl (v := (w90_26 73) 50) rfl dX12_getHead_92 ?_
          have r190 := ty_73_50 (v := (w90_26 73) 50) hT90_26 rfl
          refine TT_if_ne hK (tgt := 121) (irm (by omega) (by omega)) dX12_getHead_95 (by decide) (fun hb95_191 => ?_) (fun hb95_191 => ?_)
          · refine TT_iconst hK dX12_getHead_121 ?_
            refine TT_goto hK (tgt := 126) dX12_getHead_122 (by decide) ?_
            refine pf_X12_375 hK (by decide) rfl (by first | decide | omega) dX12_getHead_126 ?_
            refine TT_hp (h' := setO w90_26 73 (fup (w90_26 73) 50 1)) (up_can rfl rfl rfl) ?_
            have hT_192 : TY (setO w90_26 73 (fup (w90_26 73) 50 1)) := tu_73_50 hT90_26 (show up w90_26 73 50 1 = (setO w90_26 73 (fup (w90_26 73) 50 1)) from up_can rfl rfl rfl) (by omega)
            have hF_192 : FRM [73, 83, 86, 88, 104] [42, 43, 45, 50] h (setO w90_26 73 (fup (w90_26 73) 50 1)) := FRM_f (show up w90_26 73 50 1 = (setO w90_26 73 (fup (w90_26 73) 50 1)) from up_can rfl rfl rfl) hF90_26 (by decide) (by decide)
            have e193_73_42 : (setO w90_26 73 (fup (w90_26 73) 50 1)) 73 42 = (w90_26 73) 42 := rd_ (sOf_eq _ _ _) (fup_ne _ _ (by decide))
            have e194_73_43 : (setO w90_26 73 (fup (w90_26 73) 50 1)) 73 43 = (w90_26 73) 43 := rd_ (sOf_eq _ _ _) (fup_ne _ _ (by decide))
            have e195_83 : (setO w90_26 73 (fup (w90_26 73) 50 1)) 83 = w90_26 83 := sOf_ne _ _ (by decide)
            have e196_73_45 : (setO w90_26 73 (fup (w90_26 73) 50 1)) 73 45 = (w90_26 73) 45 := rd_ (sOf_eq _ _ _) (fup_ne _ _ (by decide))
            have e197_73_50 : (setO w90_26 73 (fup (w90_26 73) 50 1)) 73 50 = 1 := rd_ (sOf_eq _ _ _) (fup_eq _ _ _)
            have e198_86 : (setO w90_26 73 (fup (w90_26 73) 50 1)) 86 = w90_26 86 := sOf_ne _ _ (by decide)
            have e199_88 : (setO w90_26 73 (fup (w90_26 73) 50 1)) 88 = w90_26 88 := sOf_ne _ _ (by decide)
            have e200_104 : (setO w90_26 73 (fup (w90_26 73) 50 1)) 104 = w90_26 104 := sOf_ne _ _ (by decide)
            have e201_83 : (setO w90_26 73 (fup (w90_26 73) 50 1)) 83 = w90_26 83 := sOf_ne _ _ (by decide)
            have e202_73_42 : (setO w90_26 73 (fup (w90_26 73) 50 1)) 73 42 = (w90_26 73) 42 := rd_ (sOf_eq _ _ _) (fup_ne _ _ (by decide))
            have e203_73_43 : (setO w90_26 73 (fup (w90_26 73) 50 1)) 73 43 = (w90_26 73) 43 := rd_ (sOf_eq _ _ _) (fup_ne _ _ (by decide))
            have e204_73_45 : (setO w90_26 73 (fup (w90_26 73) 50 1)) 73 45 = (w90_26 73) 45 := rd_ (sOf_eq _ _ _) (fup_ne _ _ (by decide))
            have e205_73_50 : (setO w90_26 73 (fup (w90_26 73) 50 1)) 73 50 = 1 := rd_ (sOf_eq _ _ _) (fup_eq _ _ _)
            have e206_83 : (setO w90_26 73 (fup (w90_26 73) 50 1)) 83 = w90_26 83 := sOf_ne _ _ (by decide)
            have e207_73_42 : (setO w90_26 73 (fup (w90_26 73) 50 1)) 73 42 = (w90_26 73) 42 := rd_ (sOf_eq _ _ _) (fup_ne _ _ (by decide))
            have e208_73_43 : (setO w90_26 73 (fup (w90_26 73) 50 1)) 73 43 = (w90_26 73) 43 := rd_ (sOf_eq _ _ _) (fup_ne _ _ (by decide))
            exact J129_27 (setO w90_26 73 (fup (w90_26 73) 50 1)) hT_192 hF_192 (by rewrite [e193_73_42, e194_73_43]; first | omega | (simp [up, setR] <;> omega)) (by rewrite [e195_83]; first | exact k83i | (intro q hq; rfl) | (intro q hq; exact fup_ne _ _ (by omega)) | (intro q hq; rw [fup_ne _ _ (by omega)]; exact k83i q hq)) (by rewrite [e196_73_45, e197_73_50]; first | omega | (simp [up, setR] <;> omega)) (by rewrite [e198_86]; first | rfl | exact k86) (by rewrite [e199_88]; first | rfl | exact k88) (by rewrite [e200_104]; first | rfl | exact k104) (by rewrite [e201_83]; first | exact k83 | (intro j hj; rfl) | (intro j hj; exact fup_ne _ _ hj)) (by rewrite [e202_73_42, e203_73_43, e204_73_45, e205_73_50, e206_83]; exact GHC_1 gb9 r01.1 (by omega) (by omega)) (by rewrite [e207_73_42, e208_73_43]; first | omega | (simp [up, setR] <;> omega))
          · refine TT_aload_n hK rfl 0 rfl dX12_getHead_98 ?_
            refine gf_X12_365 hK (by decide) rfl (v := (w90_26 73) 45) rfl dX12_getHead_99 ?_
            have r209 := ty_73_45 (v := (w90_26 73) 45) hT90_26 rfl
            refine TT_if_ne hK (tgt := 125) (irm (by omega) (by omega)) dX12_getHead_102 (by decide) (fun hb102_210 => ?_) (fun hb102_210 => ?_)
            · refine TT_iconst hK dX12_getHead_125 ?_
              refine pf_X12_375 hK (by decide) rfl (by first | decide | omega) dX12_getHead_126 ?_
              refine TT_hp (h' := setO w90_26 73 (fup (w90_26 73) 50 0)) (up_can rfl rfl rfl) ?_
              have hT_211 : TY (setO w90_26 73 (fup (w90_26 73) 50 0)) := tu_73_50 hT90_26 (show up w90_26 73 50 0 = (setO w90_26 73 (fup (w90_26 73) 50 0)) from up_can rfl rfl rfl) (by omega)
              have hF_211 : FRM [73, 83, 86, 88, 104] [42, 43, 45, 50] h (setO w90_26 73 (fup (w90_26 73) 50 0)) := FRM_f (show up w90_26 73 50 0 = (setO w90_26 73 (fup (w90_26 73) 50 0)) from up_can rfl rfl rfl) hF90_26 (by decide) (by decide)
              have e212_73_42 : (setO w90_26 73 (fup (w90_26 73) 50 0)) 73 42 = (w90_26 73) 42 := rd_ (sOf_eq _ _ _) (fup_ne _ _ (by decide))
              have e213_73_43 : (setO w90_26 73 (fup (w90_26 73) 50 0)) 73 43 = (w90_26 73) 43 := rd_ (sOf_eq _ _ _) (fup_ne _ _ (by decide))
              have e214_83 : (setO w90_26 73 (fup (w90_26 73) 50 0)) 83 = w90_26 83 := sOf_ne _ _ (by decide)
              have e215_73_45 : (setO w90_26 73 (fup (w90_26 73) 50 0)) 73 45 = (w90_26 73) 45 := rd_ (sOf_eq _ _ _) (fup_ne _ _ (by decide))
              have e216_73_50 : (setO w90_26 73 (fup (w90_26 73) 50 0)) 73 50 = 0 := rd_ (sOf_eq _ _ _) (fup_eq _ _ _)
              have e217_86 : (setO w90_26 73 (fup (w90_26 73) 50 0)) 86 = w90_26 86 := sOf_ne _ _ (by decide)
              have e218_88 : (setO w90_26 73 (fup (w90_26 73) 50 0)) 88 = w90_26 88 := sOf_ne _ _ (by decide)
              have e219_104 : (setO w90_26 73 (fup (w90_26 73) 50 0)) 104 = w90_26 104 := sOf_ne _ _ (by decide)
              have e220_83 : (setO w90_26 73 (fup (w90_26 73) 50 0)) 83 = w90_26 83 := sOf_ne _ _ (by decide)
              have e221_73_42 : (setO w90_26 73 (fup (w90_26 73) 50 0)) 73 42 = (w90_26 73) 42 := rd_ (sOf_eq _ _ _) (fup_ne _ _ (by decide))
              have e222_73_43 : (setO w90_26 73 (fup (w90_26 73) 50 0)) 73 43 = (w90_26 73) 43 := rd_ (sOf_eq _ _ _) (fup_ne _ _ (by decide))
              have e223_73_45 : (setO w90_26 73 (fup (w90_26 73) 50 0)) 73 45 = (w90_26 73) 45 := rd_ (sOf_eq _ _ _) (fup_ne _ _ (by decide))
              have e224_73_50 : (setO w90_26 73 (fup (w90_26 73) 50 0)) 73 50 = 0 := rd_ (sOf_eq _ _ _) (fup_eq _ _ _)
              have e225_83 : (setO w90_26 73 (fup (w90_26 73) 50 0)) 83 = w90_26 83 := sOf_ne _ _ (by decide)
              have e226_73_42 : (setO w90_26 73 (fup (w90_26 73) 50 0)) 73 42 = (w90_26 73) 42 := rd_ (sOf_eq _ _ _) (fup_ne _ _ (by decide))
              have e227_73_43 : (setO w90_26 73 (fup (w90_26 73) 50 0)) 73 43 = (w90_26 73) 43 := rd_ (sOf_eq _ _ _) (fup_ne _ _ (by decide))
              exact J129_27 (setO w90_26 73 (fup (w90_26 73) 50 0)) hT_211 hF_211 (by rewrite [e212_73_42, e213_73_43]; first | omega | (simp [up, setR] <;> omega)) (by rewrite [e214_83]; first | exact k83i | (intro q hq; rfl) | (intro q hq; exact fup_ne _ _ (by omega)) | (intro q hq; rw [fup_ne _ _ (by omega)]; exact k83i q hq)) (by rewrite [e215_73_45, e216_73_50]; first | omega | (simp [up, setR] <;> omega)) (by rewrite [e217_86]; first | rfl | exact k86) (by rewrite [e218_88]; first | rfl | exact k88) (by rewrite [e219_104]; first | rfl | exact k104) (by rewrite [e220_83]; first | exact k83 | (intro j hj; rfl) | (intro j hj; exact fup_ne _ _ hj)) (by rewrite [e221_73_42, e222_73_43, e223_73_45, e224_73_50, e225_83]; exact GHC_1 gb9 r01.1 (by omega) (by omega)) (by rewrite [e226_73_42, e227_73_43]; first | omega | (simp [up, setR] <;> omega))
            · refine TT_aload_n hK rfl 0 rfl dX12_getHead_105 ?_
              refine gf_X12_54 hK (by decide) rfl (q := 86) rfl rfl dX12_getHead_106 ?_
              refine TT_iload_n hK rfl 1 rfl dX12_getHead_109 ?_
              refine TT_iald hK (o := 86) (n := 20) (by decide) rfl (by first | omega | (simp [up, setR] <;> omega)) (by first | omega | (simp [up, setR] <;> omega)) (v := (w90_26 86) b) rfl dX12_getHead_110 ?_
              have r228 := ty_86 (i := b) (v := (w90_26 86) b) hT90_26 rfl (by omega) (by omega)
              refine TT_iload_n hK rfl 2 rfl dX12_getHead_111 ?_
              refine TT_iadd hK dX12_getHead_112 ?_
              refine TT_aload_n hK rfl 0 rfl dX12_getHead_113 ?_
              refine TT_iload_n hK rfl 1 rfl dX12_getHead_114 ?_
              refine iv_X12_296 hK (s_passesOf_x b w90_26 hT90_26 (by first | omega | (simp [up, setR] <;> omega))) (by decide) rfl ⟨by decide, by decide⟩ (by decide) rfl rfl (Nat.le_of_ble_eq_true rfl) ⟨by decide, by decide⟩ dX12_getHead_115 ?_
              intro r9 g115_229 hp9
              obtain ⟨⟨hT_229, hG_229⟩, z115_229, hr9, hz_229, p1_229, p2_229⟩ := hp9
              rw [hr9]
              have hF_229 : FRM [73, 83, 86, 88, 104] [42, 43, 45, 50] h g115_229 := FRM_tr hF90_26 hG_229 (by decide) (by decide)
              have p2_at115 := p2_229
              show TT K ly 0 0 118 [(0, vR 73), (1, vI b), (2, vI n)] [vI z115_229, vI (((w90_26 86) b) + n), vR 73] g115_229
              have p29 := p2_at115
              have k86b := congrFun k86 b
              refine TT_icmp_le hK (tgt := 125) (irm (by omega) (by omega)) (irm (by omega) (by omega)) dX12_getHead_118 (by decide) (fun hb118_230 => ?_) (fun hb118_230 => ?_)
              · refine TT_iconst hK dX12_getHead_125 ?_
                refine pf_X12_375 hK (by decide) rfl (by first | decide | omega) dX12_getHead_126 ?_
                refine TT_hp (h' := setO g115_229 73 (fup (w90_26 73) 50 0)) (up_can (hG_229.1 73 (by decide)) rfl rfl) ?_
                have hT_231 : TY (setO g115_229 73 (fup (w90_26 73) 50 0)) := tu_73_50 hT_229 (show up g115_229 73 50 0 = (setO g115_229 73 (fup (w90_26 73) 50 0)) from up_can (hG_229.1 73 (by decide)) rfl rfl) (by omega)
                have hF_231 : FRM [73, 83, 86, 88, 104] [42, 43, 45, 50] h (setO g115_229 73 (fup (w90_26 73) 50 0)) := FRM_f (show up g115_229 73 50 0 = (setO g115_229 73 (fup (w90_26 73) 50 0)) from up_can (hG_229.1 73 (by decide)) rfl rfl) hF_229 (by decide) (by decide)
                have e232_73_42 : (setO g115_229 73 (fup (w90_26 73) 50 0)) 73 42 = (w90_26 73) 42 := rd_ (sOf_eq _ _ _) (fup_ne _ _ (by decide))
                have e233_73_43 : (setO g115_229 73 (fup (w90_26 73) 50 0)) 73 43 = (w90_26 73) 43 := rd_ (sOf_eq _ _ _) (fup_ne _ _ (by decide))
                have e234_83 : (setO g115_229 73 (fup (w90_26 73) 50 0)) 83 = w90_26 83 := (sOf_ne _ _ (by decide)).trans (hG_229.1 83 (by decide))
                have e235_73_45 : (setO g115_229 73 (fup (w90_26 73) 50 0)) 73 45 = (w90_26 73) 45 := rd_ (sOf_eq _ _ _) (fup_ne _ _ (by decide))
                have e236_73_50 : (setO g115_229 73 (fup (w90_26 73) 50 0)) 73 50 = 0 := rd_ (sOf_eq _ _ _) (fup_eq _ _ _)
                have e237_86 : (setO g115_229 73 (fup (w90_26 73) 50 0)) 86 = w90_26 86 := (sOf_ne _ _ (by decide)).trans (hG_229.1 86 (by decide))
                have e238_88 : (setO g115_229 73 (fup (w90_26 73) 50 0)) 88 = w90_26 88 := (sOf_ne _ _ (by decide)).trans (hG_229.1 88 (by decide))
                have e239_104 : (setO g115_229 73 (fup (w90_26 73) 50 0)) 104 = w90_26 104 := (sOf_ne _ _ (by decide)).trans (hG_229.1 104 (by decide))
                have e240_83 : (setO g115_229 73 (fup (w90_26 73) 50 0)) 83 = w90_26 83 := (sOf_ne _ _ (by decide)).trans (hG_229.1 83 (by decide))
                have e241_73_42 : (setO g115_229 73 (fup (w90_26 73) 50 0)) 73 42 = (w90_26 73) 42 := rd_ (sOf_eq _ _ _) (fup_ne _ _ (by decide))
                have e242_73_43 : (setO g115_229 73 (fup (w90_26 73) 50 0)) 73 43 = (w90_26 73) 43 := rd_ (sOf_eq _ _ _) (fup_ne _ _ (by decide))
                have e243_73_45 : (setO g115_229 73 (fup (w90_26 73) 50 0)) 73 45 = (w90_26 73) 45 := rd_ (sOf_eq _ _ _) (fup_ne _ _ (by decide))
                have e244_73_50 : (setO g115_229 73 (fup (w90_26 73) 50 0)) 73 50 = 0 := rd_ (sOf_eq _ _ _) (fup_eq _ _ _)
                have e245_83 : (setO g115_229 73 (fup (w90_26 73) 50 0)) 83 = w90_26 83 := (sOf_ne _ _ (by decide)).trans (hG_229.1 83 (by decide))
                have e246_73_42 : (setO g115_229 73 (fup (w90_26 73) 50 0)) 73 42 = (w90_26 73) 42 := rd_ (sOf_eq _ _ _) (fup_ne _ _ (by decide))
                have e247_73_43 : (setO g115_229 73 (fup (w90_26 73) 50 0)) 73 43 = (w90_26 73) 43 := rd_ (sOf_eq _ _ _) (fup_ne _ _ (by decide))
                exact J129_27 (setO g115_229 73 (fup (w90_26 73) 50 0)) hT_231 hF_231 (by rewrite [e232_73_42, e233_73_43]; first | omega | (simp [up, setR] <;> omega)) (by rewrite [e234_83]; first | exact k83i | (intro q hq; rfl) | (intro q hq; exact fup_ne _ _ (by omega)) | (intro q hq; rw [fup_ne _ _ (by omega)]; exact k83i q hq)) (by rewrite [e235_73_45, e236_73_50]; first | omega | (simp [up, setR] <;> omega)) (by rewrite [e237_86]; first | rfl | exact k86) (by rewrite [e238_88]; first | rfl | exact k88) (by rewrite [e239_104]; first | rfl | exact k104) (by rewrite [e240_83]; first | exact k83 | (intro j hj; rfl) | (intro j hj; exact fup_ne _ _ hj)) (by rewrite [e241_73_42, e242_73_43, e243_73_45, e244_73_50, e245_83]; exact GHC_1 gb9 r01.1 (by omega) (by omega)) (by rewrite [e246_73_42, e247_73_43]; first | omega | (simp [up, setR] <;> omega))
              · refine TT_iconst hK dX12_getHead_121 ?_
                refine TT_goto hK (tgt := 126) dX12_getHead_122 (by decide) ?_
                refine pf_X12_375 hK (by decide) rfl (by first | decide | omega) dX12_getHead_126 ?_
                refine TT_hp (h' := setO g115_229 73 (fup (w90_26 73) 50 1)) (up_can (hG_229.1 73 (by decide)) rfl rfl) ?_
                have hT_248 : TY (setO g115_229 73 (fup (w90_26 73) 50 1)) := tu_73_50 hT_229 (show up g115_229 73 50 1 = (setO g115_229 73 (fup (w90_26 73) 50 1)) from up_can (hG_229.1 73 (by decide)) rfl rfl) (by omega)
                have hF_248 : FRM [73, 83, 86, 88, 104] [42, 43, 45, 50] h (setO g115_229 73 (fup (w90_26 73) 50 1)) := FRM_f (show up g115_229 73 50 1 = (setO g115_229 73 (fup (w90_26 73) 50 1)) from up_can (hG_229.1 73 (by decide)) rfl rfl) hF_229 (by decide) (by decide)
                have e249_73_42 : (setO g115_229 73 (fup (w90_26 73) 50 1)) 73 42 = (w90_26 73) 42 := rd_ (sOf_eq _ _ _) (fup_ne _ _ (by decide))
                have e250_73_43 : (setO g115_229 73 (fup (w90_26 73) 50 1)) 73 43 = (w90_26 73) 43 := rd_ (sOf_eq _ _ _) (fup_ne _ _ (by decide))
                have e251_83 : (setO g115_229 73 (fup (w90_26 73) 50 1)) 83 = w90_26 83 := (sOf_ne _ _ (by decide)).trans (hG_229.1 83 (by decide))
                have e252_73_45 : (setO g115_229 73 (fup (w90_26 73) 50 1)) 73 45 = (w90_26 73) 45 := rd_ (sOf_eq _ _ _) (fup_ne _ _ (by decide))
                have e253_73_50 : (setO g115_229 73 (fup (w90_26 73) 50 1)) 73 50 = 1 := rd_ (sOf_eq _ _ _) (fup_eq _ _ _)
                have e254_86 : (setO g115_229 73 (fup (w90_26 73) 50 1)) 86 = w90_26 86 := (sOf_ne _ _ (by decide)).trans (hG_229.1 86 (by decide))
                have e255_88 : (setO g115_229 73 (fup (w90_26 73) 50 1)) 88 = w90_26 88 := (sOf_ne _ _ (by decide)).trans (hG_229.1 88 (by decide))
                have e256_104 : (setO g115_229 73 (fup (w90_26 73) 50 1)) 104 = w90_26 104 := (sOf_ne _ _ (by decide)).trans (hG_229.1 104 (by decide))
                have e257_83 : (setO g115_229 73 (fup (w90_26 73) 50 1)) 83 = w90_26 83 := (sOf_ne _ _ (by decide)).trans (hG_229.1 83 (by decide))
                have e258_73_42 : (setO g115_229 73 (fup (w90_26 73) 50 1)) 73 42 = (w90_26 73) 42 := rd_ (sOf_eq _ _ _) (fup_ne _ _ (by decide))
                have e259_73_43 : (setO g115_229 73 (fup (w90_26 73) 50 1)) 73 43 = (w90_26 73) 43 := rd_ (sOf_eq _ _ _) (fup_ne _ _ (by decide))
                have e260_73_45 : (setO g115_229 73 (fup (w90_26 73) 50 1)) 73 45 = (w90_26 73) 45 := rd_ (sOf_eq _ _ _) (fup_ne _ _ (by decide))
                have e261_73_50 : (setO g115_229 73 (fup (w90_26 73) 50 1)) 73 50 = 1 := rd_ (sOf_eq _ _ _) (fup_eq _ _ _)
                have e262_83 : (setO g115_229 73 (fup (w90_26 73) 50 1)) 83 = w90_26 83 := (sOf_ne _ _ (by decide)).trans (hG_229.1 83 (by decide))
                have e263_73_42 : (setO g115_229 73 (fup (w90_26 73) 50 1)) 73 42 = (w90_26 73) 42 := rd_ (sOf_eq _ _ _) (fup_ne _ _ (by decide))
                have e264_73_43 : (setO g115_229 73 (fup (w90_26 73) 50 1)) 73 43 = (w90_26 73) 43 := rd_ (sOf_eq _ _ _) (fup_ne _ _ (by decide))
                exact J129_27 (setO g115_229 73 (fup (w90_26 73) 50 1)) hT_248 hF_248 (by rewrite [e249_73_42, e250_73_43]; first | omega | (simp [up, setR] <;> omega)) (by rewrite [e251_83]; first | exact k83i | (intro q hq; rfl) | (intro q hq; exact fup_ne _ _ (by omega)) | (intro q hq; rw [fup_ne _ _ (by omega)]; exact k83i q hq)) (by rewrite [e252_73_45, e253_73_50]; first | omega | (simp [up, setR] <;> omega)) (by rewrite [e254_86]; first | rfl | exact k86) (by rewrite [e255_88]; first | rfl | exact k88) (by rewrite [e256_104]; first | rfl | exact k104) (by rewrite [e257_83]; first | exact k83 | (intro j hj; rfl) | (intro j hj; exact fup_ne _ _ hj)) (by rewrite [e258_73_42, e259_73_43, e260_73_45, e261_73_50, e262_83]; exact GHC_1 gb9 r01.1 (by omega) (by omega)) (by rewrite [e263_73_42, e264_73_43]; first | omega | (simp [up, setR] <;> omega))
        refine TT_aload_n hK rfl 0 rfl dX12_getHead_74 ?_
        refine gf_X12_375 hK (by decide) rfl (v := (w74_25 73) 50) rfl dX12_getHead_75 ?_
        have r265 := ty_73_50 (v := (w74_25 73) 50) hT74_25 rfl
        refine TT_if_eq hK (tgt := 85) (irm (by omega) (by omega)) dX12_getHead_78 (by decide) (fun hb78_266 => ?_) (fun hb78_266 => ?_)
        · refine TT_aload_n hK rfl 0 rfl dX12_getHead_85 ?_
          have e267_73_44 : w74_25 73 44 = (h 73) 44 := (hF74_25.2 44 (by decide))
          have e268_73_45 : w74_25 73 45 = (w74_25 73) 45 := rfl
          refine iv_X12_378 hK (s_getPasses_e w74_25 hT74_25 (by rewrite [e267_73_44]; first | omega | (simp [up, setR] <;> omega)) (by rewrite [e268_73_45]; first | omega | (simp [up, setR] <;> omega))) (by decide) rfl ⟨by decide, by decide⟩ (by decide) rfl rfl (Nat.le_of_ble_eq_true rfl) ⟨by decide, by decide⟩ dX12_getHead_86 ?_
          intro r9 g86_269 hp9
          obtain ⟨⟨hT_269, hG_269⟩, z86_269, hr9, hz_269, p6_269, gp_269, g01_269⟩ := hp9
          rw [hr9]
          have hF_269 : FRM [73, 83, 86, 88, 104] [42, 43, 45, 50] h g86_269 := FRM_tr hF74_25 hG_269 (by decide) (by decide)
          rw [show w74_25 73 42 = (w74_25 73) 42 from rfl] at p6_269
          rw [show w74_25 73 43 = (w74_25 73) 43 from rfl] at p6_269
          rw [show w74_25 100 = h 100 from (hF74_25.1 100 (by decide))] at gp_269
          rw [show w74_25 73 42 = (w74_25 73) 42 from rfl] at gp_269
          rw [show w74_25 73 43 = (w74_25 73) 43 from rfl] at gp_269
          rw [show w74_25 73 44 = (h 73) 44 from (hF74_25.2 44 (by decide))] at gp_269
          rw [show w74_25 73 45 = (w74_25 73) 45 from rfl] at gp_269
          have gp_at86 := gp_269
          have g01_at86 := g01_269
          show TT K ly 0 0 89 [(0, vR 73), (1, vI b)] [vI z86_269] g86_269
          refine TT_istore_n hK rfl (lv' := [(2, vI z86_269), (0, vR 73), (1, vI b)]) (by decide) rfl dX12_getHead_89 ?_
          refine TT_sub [1, 2, 0] rfl ?_
          have e270_73_42 : g86_269 73 42 = (g86_269 73) 42 := rfl
          have e271_73_43 : g86_269 73 43 = (g86_269 73) 43 := rfl
          have e272_83 : g86_269 83 = w74_25 83 := (hG_269.1 83 (by decide))
          have e273_73_45 : g86_269 73 45 = (g86_269 73) 45 := rfl
          have e274_73_50 : g86_269 73 50 = (w74_25 73) 50 := (hG_269.2 50 (by decide))
          have e275_86 : g86_269 86 = w74_25 86 := (hG_269.1 86 (by decide))
          have e276_88 : g86_269 88 = w74_25 88 := (hG_269.1 88 (by decide))
          have e277_104 : g86_269 104 = w74_25 104 := (hG_269.1 104 (by decide))
          have e278_83 : g86_269 83 = w74_25 83 := (hG_269.1 83 (by decide))
          have e279_73_42 : g86_269 73 42 = (g86_269 73) 42 := rfl
          have e280_73_43 : g86_269 73 43 = (g86_269 73) 43 := rfl
          have e281_73_45 : g86_269 73 45 = (g86_269 73) 45 := rfl
          have e282_73_50 : g86_269 73 50 = (w74_25 73) 50 := (hG_269.2 50 (by decide))
          have e283_83 : g86_269 83 = w74_25 83 := (hG_269.1 83 (by decide))
          have e284_73_42 : g86_269 73 42 = (g86_269 73) 42 := rfl
          have e285_73_43 : g86_269 73 43 = (g86_269 73) 43 := rfl
          exact J90_26 z86_269 g86_269 hT_269 hF_269 (by first | omega | (simp [up, setR] <;> omega)) (by rewrite [e270_73_42, e271_73_43]; first | omega | (simp [up, setR] <;> omega)) (by rewrite [e272_83]; first | exact k83i | (intro q hq; rfl) | (intro q hq; exact fup_ne _ _ (by omega)) | (intro q hq; rw [fup_ne _ _ (by omega)]; exact k83i q hq)) (by rewrite [e273_73_45, e274_73_50]; first | omega | (simp [up, setR] <;> omega)) (by rewrite [e275_86]; first | rfl | exact k86) (by rewrite [e276_88]; first | rfl | exact k88) (by rewrite [e277_104]; first | rfl | exact k104) (by rewrite [e278_83]; first | exact k83 | (intro j hj; rfl) | (intro j hj; exact fup_ne _ _ hj)) (by rewrite [e279_73_42, e280_73_43, e281_73_45, e282_73_50, e283_83]; exact GHB_2 ga (by omega) r01.1 gp_at86) (by rewrite [e284_73_42, e285_73_43]; first | omega | (simp [up, setR] <;> omega))
        · refine TT_iconst hK dX12_getHead_81 ?_
          refine TT_goto hK (tgt := 89) dX12_getHead_82 (by decide) ?_
          refine TT_istore_n hK rfl (lv' := [(2, vI 1), (0, vR 73), (1, vI b)]) (by decide) rfl dX12_getHead_89 ?_
          refine TT_sub [1, 2, 0] rfl ?_
          have e286_73_42 : w74_25 73 42 = (w74_25 73) 42 := rfl
          have e287_73_43 : w74_25 73 43 = (w74_25 73) 43 := rfl
          have e288_73_45 : w74_25 73 45 = (w74_25 73) 45 := rfl
          have e289_73_50 : w74_25 73 50 = (w74_25 73) 50 := rfl
          have e290_73_42 : w74_25 73 42 = (w74_25 73) 42 := rfl
          have e291_73_43 : w74_25 73 43 = (w74_25 73) 43 := rfl
          have e292_73_45 : w74_25 73 45 = (w74_25 73) 45 := rfl
          have e293_73_50 : w74_25 73 50 = (w74_25 73) 50 := rfl
          have e294_73_42 : w74_25 73 42 = (w74_25 73) 42 := rfl
          have e295_73_43 : w74_25 73 43 = (w74_25 73) 43 := rfl
          exact J90_26 1 w74_25 hT74_25 hF74_25 (by first | omega | (simp [up, setR] <;> omega)) (by rewrite [e286_73_42, e287_73_43]; first | omega | (simp [up, setR] <;> omega)) (by first | exact k83i | (intro q hq; rfl) | (intro q hq; exact fup_ne _ _ (by omega)) | (intro q hq; rw [fup_ne _ _ (by omega)]; exact k83i q hq)) (by rewrite [e288_73_45, e289_73_50]; first | omega | (simp [up, setR] <;> omega)) (by first | rfl | exact k86) (by first | rfl | exact k88) (by first | rfl | exact k104) (by first | exact k83 | (intro j hj; rfl) | (intro j hj; exact fup_ne _ _ hj)) (by rewrite [e290_73_42, e291_73_43, e292_73_45, e293_73_50]; exact GHB_1 ga (by omega)) (by rewrite [e294_73_42, e295_73_43]; first | omega | (simp [up, setR] <;> omega))
      refine TT_aload_n hK rfl 0 rfl dX12_getHead_16 ?_
      refine gf_X12_54 hK (by decide) rfl (q := 86) rfl rfl dX12_getHead_17 ?_
      refine TT_iload_n hK rfl 1 rfl dX12_getHead_20 ?_
      refine TT_iald hK (o := 86) (n := 20) (by decide) rfl (by first | omega | (simp [up, setR] <;> omega)) (by first | omega | (simp [up, setR] <;> omega)) (v := (h 86) b) (rd_ (hG_3.1 86 (by decide)) rfl) dX12_getHead_21 ?_
      have r296 := ty_86 (i := b) (v := (h 86) b) hT_3 (rd_ (hG_3.1 86 (by decide)) rfl) (by omega) (by omega)
      refine TT_if_ne hK (tgt := 74) (irm (by omega) (by omega)) dX12_getHead_22 (by decide) (fun hb22_297 => ?_) (fun hb22_297 => ?_)
      · have e298_73_42 : g2_3 73 42 = (g2_3 73) 42 := rfl
        have e299_73_43 : g2_3 73 43 = (g2_3 73) 43 := rfl
        have e300_83 : g2_3 83 = h 83 := (hG_3.1 83 (by decide))
        have e301_73_45 : g2_3 73 45 = (g2_3 73) 45 := rfl
        have e302_73_50 : g2_3 73 50 = (h 73) 50 := (hG_3.2 50 (by decide))
        have e303_86 : g2_3 86 = h 86 := (hG_3.1 86 (by decide))
        have e304_88 : g2_3 88 = h 88 := (hG_3.1 88 (by decide))
        have e305_104 : g2_3 104 = h 104 := (hG_3.1 104 (by decide))
        have e306_83 : g2_3 83 = h 83 := (hG_3.1 83 (by decide))
        have e307_73_42 : g2_3 73 42 = (g2_3 73) 42 := rfl
        have e308_73_43 : g2_3 73 43 = (g2_3 73) 43 := rfl
        have e309_73_45 : g2_3 73 45 = (g2_3 73) 45 := rfl
        have e310_73_50 : g2_3 73 50 = (h 73) 50 := (hG_3.2 50 (by decide))
        have e311_83 : g2_3 83 = h 83 := (hG_3.1 83 (by decide))
        exact J74_25 g2_3 hT_3 hF_3 (by rewrite [e298_73_42, e299_73_43]; first | omega | (simp [up, setR] <;> omega)) (by rewrite [e300_83]; first | (intro q hq; rfl) | (intro q hq; exact fup_ne _ _ (by omega))) (by rewrite [e301_73_45, e302_73_50]; first | omega | (simp [up, setR] <;> omega)) (by rewrite [e303_86]; first | rfl) (by rewrite [e304_88]; first | rfl) (by rewrite [e305_104]; first | rfl) (by rewrite [e306_83]; first | (intro j hj; rfl) | (intro j hj; exact fup_ne _ _ hj)) (by rewrite [e307_73_42, e308_73_43, e309_73_45, e310_73_50, e311_83]; exact GHA_1 gb_at2 hm9.1 (by omega) (by omega) (by omega) (by omega))
      · refine TT_aload_n hK rfl 0 rfl dX12_getHead_25 ?_
        refine gf_X12_44 hK (by decide) rfl (q := 83) rfl rfl dX12_getHead_26 ?_
        refine TT_iload_n hK rfl 1 rfl dX12_getHead_29 ?_
        refine TT_aload_n hK rfl 0 rfl dX12_getHead_30 ?_
        refine TT_iconst hK dX12_getHead_31 ?_
        have e312_73_44 : g2_3 73 44 = (h 73) 44 := (hG_3.2 44 (by decide))
        have e313_73_45 : g2_3 73 45 = (g2_3 73) 45 := rfl
        refine iv_X12_372 hK (s_getBits_e 4 g2_3 hT_3 (by first | omega | (simp [up, setR] <;> omega)) (by first | omega | (simp [up, setR] <;> omega)) (by rewrite [e312_73_44]; first | omega | (simp [up, setR] <;> omega)) (by rewrite [e313_73_45]; first | omega | (simp [up, setR] <;> omega))) (by decide) rfl ⟨by decide, by decide⟩ (by decide) rfl rfl (Nat.le_of_ble_eq_true rfl) ⟨by decide, by decide⟩ dX12_getHead_32 ?_
        intro r9 g32_314 hp9
        obtain ⟨⟨hT_314, hG_314⟩, z32_314, hr9, hz_314, p2_314, p3_314, p6_314, gb_314, g01_314⟩ := hp9
        rw [hr9]
        have hF_314 : FRM [73, 83, 86, 88, 104] [42, 43, 45, 50] h g32_314 := FRM_tr hF_3 hG_314 (by decide) (by decide)
        rw [show g2_3 73 42 = (g2_3 73) 42 from rfl] at p3_314
        rw [show g2_3 73 43 = (g2_3 73) 43 from rfl] at p3_314
        rw [show g2_3 73 44 = (h 73) 44 from (hG_3.2 44 (by decide))] at p3_314
        rw [show g2_3 73 42 = (g2_3 73) 42 from rfl] at p6_314
        rw [show g2_3 73 43 = (g2_3 73) 43 from rfl] at p6_314
        rw [show g2_3 100 = h 100 from (hG_3.1 100 (by decide))] at gb_314
        rw [show g2_3 73 42 = (g2_3 73) 42 from rfl] at gb_314
        rw [show g2_3 73 43 = (g2_3 73) 43 from rfl] at gb_314
        rw [show g2_3 73 44 = (h 73) 44 from (hG_3.2 44 (by decide))] at gb_314
        rw [show g2_3 73 45 = (g2_3 73) 45 from rfl] at gb_314
        have gb_at32 := gb_314
        have g01_at32 := g01_314
        show TT K ly 0 0 35 [(0, vR 73), (1, vI b)] [vI z32_314, vI b, vR 83] g32_314
        refine TT_iast hK (o := 83) (n := 20) (by decide) rfl (by omega) (by omega) dX12_getHead_35 ?_
        refine TT_hp (h' := setO g32_314 83 (fup (h 83) b z32_314)) (up_can (((hG_314.1 83 (by decide))).trans (hG_3.1 83 (by decide))) rfl rfl) ?_
        have hT_315 : TY (setO g32_314 83 (fup (h 83) b z32_314)) := tu_83 hT_314 (show up g32_314 83 b z32_314 = (setO g32_314 83 (fup (h 83) b z32_314)) from up_can (((hG_314.1 83 (by decide))).trans (hG_3.1 83 (by decide))) rfl rfl) (by omega)
        have hF_315 : FRM [73, 83, 86, 88, 104] [42, 43, 45, 50] h (setO g32_314 83 (fup (h 83) b z32_314)) := FRM_up (show up g32_314 83 b z32_314 = (setO g32_314 83 (fup (h 83) b z32_314)) from up_can (((hG_314.1 83 (by decide))).trans (hG_3.1 83 (by decide))) rfl rfl) hF_314 (by decide) (by decide)
        refine TT_aload_n hK rfl 0 rfl dX12_getHead_36 ?_
        refine TT_aload_n hK rfl 0 rfl dX12_getHead_37 ?_
        refine gf_X12_375 hK (by decide) rfl (v := (h 73) 50) ((rd_ (sOf_ne _ _ (by decide)) rfl).trans (((hG_314.2 50 (by decide))).trans (hG_3.2 50 (by decide)))) dX12_getHead_38 ?_
        have r316 := ty_73_50 (v := (h 73) 50) hT_315 ((rd_ (sOf_ne _ _ (by decide)) rfl).trans (((hG_314.2 50 (by decide))).trans (hG_3.2 50 (by decide))))
        refine TT_if_ne hK (tgt := 66) (irm (by omega) (by omega)) dX12_getHead_41 (by decide) (fun hb41_317 => ?_) (fun hb41_317 => ?_)
        · refine TT_iconst hK dX12_getHead_66 ?_
          refine TT_goto hK (tgt := 71) dX12_getHead_67 (by decide) ?_
          refine pf_X12_375 hK (by decide) rfl (by first | decide | omega) dX12_getHead_71 ?_
          refine TT_hp (h' := setO (setO g32_314 73 (fup (g32_314 73) 50 1)) 83 (fup (h 83) b z32_314)) (up_can (sOf_ne _ _ (by decide)) rfl ((setO_comm _ _ _ (by decide)).trans (setO_cg rfl rfl))) ?_
          have hT_318 : TY (setO (setO g32_314 73 (fup (g32_314 73) 50 1)) 83 (fup (h 83) b z32_314)) := tu_73_50 hT_315 (show up (setO g32_314 83 (fup (h 83) b z32_314)) 73 50 1 = (setO (setO g32_314 73 (fup (g32_314 73) 50 1)) 83 (fup (h 83) b z32_314)) from up_can (sOf_ne _ _ (by decide)) rfl ((setO_comm _ _ _ (by decide)).trans (setO_cg rfl rfl))) (by omega)
          have hF_318 : FRM [73, 83, 86, 88, 104] [42, 43, 45, 50] h (setO (setO g32_314 73 (fup (g32_314 73) 50 1)) 83 (fup (h 83) b z32_314)) := FRM_f (show up (setO g32_314 83 (fup (h 83) b z32_314)) 73 50 1 = (setO (setO g32_314 73 (fup (g32_314 73) 50 1)) 83 (fup (h 83) b z32_314)) from up_can (sOf_ne _ _ (by decide)) rfl ((setO_comm _ _ _ (by decide)).trans (setO_cg rfl rfl))) hF_315 (by decide) (by decide)
          have e319_73_42 : (setO (setO g32_314 73 (fup (g32_314 73) 50 1)) 83 (fup (h 83) b z32_314)) 73 42 = (g32_314 73) 42 := rd_ ((sOf_ne _ _ (by decide)).trans (sOf_eq _ _ _)) (fup_ne _ _ (by decide))
          have e320_73_43 : (setO (setO g32_314 73 (fup (g32_314 73) 50 1)) 83 (fup (h 83) b z32_314)) 73 43 = (g32_314 73) 43 := rd_ ((sOf_ne _ _ (by decide)).trans (sOf_eq _ _ _)) (fup_ne _ _ (by decide))
          have e321_83 : (setO (setO g32_314 73 (fup (g32_314 73) 50 1)) 83 (fup (h 83) b z32_314)) 83 = fup (h 83) b z32_314 := sOf_eq _ _ _
          have e322_73_45 : (setO (setO g32_314 73 (fup (g32_314 73) 50 1)) 83 (fup (h 83) b z32_314)) 73 45 = (g32_314 73) 45 := rd_ ((sOf_ne _ _ (by decide)).trans (sOf_eq _ _ _)) (fup_ne _ _ (by decide))
          have e323_73_50 : (setO (setO g32_314 73 (fup (g32_314 73) 50 1)) 83 (fup (h 83) b z32_314)) 73 50 = 1 := rd_ ((sOf_ne _ _ (by decide)).trans (sOf_eq _ _ _)) (fup_eq _ _ _)
          have e324_86 : (setO (setO g32_314 73 (fup (g32_314 73) 50 1)) 83 (fup (h 83) b z32_314)) 86 = h 86 := (sOf_ne _ _ (by decide)).trans ((sOf_ne _ _ (by decide)).trans (((hG_314.1 86 (by decide))).trans (hG_3.1 86 (by decide))))
          have e325_88 : (setO (setO g32_314 73 (fup (g32_314 73) 50 1)) 83 (fup (h 83) b z32_314)) 88 = h 88 := (sOf_ne _ _ (by decide)).trans ((sOf_ne _ _ (by decide)).trans (((hG_314.1 88 (by decide))).trans (hG_3.1 88 (by decide))))
          have e326_104 : (setO (setO g32_314 73 (fup (g32_314 73) 50 1)) 83 (fup (h 83) b z32_314)) 104 = h 104 := (sOf_ne _ _ (by decide)).trans ((sOf_ne _ _ (by decide)).trans (((hG_314.1 104 (by decide))).trans (hG_3.1 104 (by decide))))
          have e327_83 : (setO (setO g32_314 73 (fup (g32_314 73) 50 1)) 83 (fup (h 83) b z32_314)) 83 = fup (h 83) b z32_314 := sOf_eq _ _ _
          have e328_73_42 : (setO (setO g32_314 73 (fup (g32_314 73) 50 1)) 83 (fup (h 83) b z32_314)) 73 42 = (g32_314 73) 42 := rd_ ((sOf_ne _ _ (by decide)).trans (sOf_eq _ _ _)) (fup_ne _ _ (by decide))
          have e329_73_43 : (setO (setO g32_314 73 (fup (g32_314 73) 50 1)) 83 (fup (h 83) b z32_314)) 73 43 = (g32_314 73) 43 := rd_ ((sOf_ne _ _ (by decide)).trans (sOf_eq _ _ _)) (fup_ne _ _ (by decide))
          have e330_73_45 : (setO (setO g32_314 73 (fup (g32_314 73) 50 1)) 83 (fup (h 83) b z32_314)) 73 45 = (g32_314 73) 45 := rd_ ((sOf_ne _ _ (by decide)).trans (sOf_eq _ _ _)) (fup_ne _ _ (by decide))
          have e331_73_50 : (setO (setO g32_314 73 (fup (g32_314 73) 50 1)) 83 (fup (h 83) b z32_314)) 73 50 = 1 := rd_ ((sOf_ne _ _ (by decide)).trans (sOf_eq _ _ _)) (fup_eq _ _ _)
          have e332_83 : (setO (setO g32_314 73 (fup (g32_314 73) 50 1)) 83 (fup (h 83) b z32_314)) 83 = fup (h 83) b z32_314 := sOf_eq _ _ _
          exact J74_25 (setO (setO g32_314 73 (fup (g32_314 73) 50 1)) 83 (fup (h 83) b z32_314)) hT_318 hF_318 (by rewrite [e319_73_42, e320_73_43]; first | omega | (simp [up, setR] <;> omega)) (by rewrite [e321_83]; first | (intro q hq; rfl) | (intro q hq; exact fup_ne _ _ (by omega))) (by rewrite [e322_73_45, e323_73_50]; first | omega | (simp [up, setR] <;> omega)) (by rewrite [e324_86]; first | rfl) (by rewrite [e325_88]; first | rfl) (by rewrite [e326_104]; first | rfl) (by rewrite [e327_83]; first | (intro j hj; rfl) | (intro j hj; exact fup_ne _ _ hj)) (by rewrite [e328_73_42, e329_73_43, e330_73_45, e331_73_50, e332_83]; rw [fup_eq]; exact GHA_2 gb_at2 hm9.1 (by omega) (by omega) (by omega) gb_at32 (by omega))
        · refine TT_aload_n hK rfl 0 rfl dX12_getHead_44 ?_
          refine gf_X12_365 hK (by decide) rfl (v := (g32_314 73) 45) (rd_ (sOf_ne _ _ (by decide)) rfl) dX12_getHead_45 ?_
          have r333 := ty_73_45 (v := (g32_314 73) 45) hT_315 (rd_ (sOf_ne _ _ (by decide)) rfl)
          refine TT_if_ne hK (tgt := 70) (irm (by omega) (by omega)) dX12_getHead_48 (by decide) (fun hb48_334 => ?_) (fun hb48_334 => ?_)
          · refine TT_iconst hK dX12_getHead_70 ?_
            refine pf_X12_375 hK (by decide) rfl (by first | decide | omega) dX12_getHead_71 ?_
            refine TT_hp (h' := setO (setO g32_314 73 (fup (g32_314 73) 50 0)) 83 (fup (h 83) b z32_314)) (up_can (sOf_ne _ _ (by decide)) rfl ((setO_comm _ _ _ (by decide)).trans (setO_cg rfl rfl))) ?_
            have hT_335 : TY (setO (setO g32_314 73 (fup (g32_314 73) 50 0)) 83 (fup (h 83) b z32_314)) := tu_73_50 hT_315 (show up (setO g32_314 83 (fup (h 83) b z32_314)) 73 50 0 = (setO (setO g32_314 73 (fup (g32_314 73) 50 0)) 83 (fup (h 83) b z32_314)) from up_can (sOf_ne _ _ (by decide)) rfl ((setO_comm _ _ _ (by decide)).trans (setO_cg rfl rfl))) (by omega)
            have hF_335 : FRM [73, 83, 86, 88, 104] [42, 43, 45, 50] h (setO (setO g32_314 73 (fup (g32_314 73) 50 0)) 83 (fup (h 83) b z32_314)) := FRM_f (show up (setO g32_314 83 (fup (h 83) b z32_314)) 73 50 0 = (setO (setO g32_314 73 (fup (g32_314 73) 50 0)) 83 (fup (h 83) b z32_314)) from up_can (sOf_ne _ _ (by decide)) rfl ((setO_comm _ _ _ (by decide)).trans (setO_cg rfl rfl))) hF_315 (by decide) (by decide)
            have e336_73_42 : (setO (setO g32_314 73 (fup (g32_314 73) 50 0)) 83 (fup (h 83) b z32_314)) 73 42 = (g32_314 73) 42 := rd_ ((sOf_ne _ _ (by decide)).trans (sOf_eq _ _ _)) (fup_ne _ _ (by decide))
            have e337_73_43 : (setO (setO g32_314 73 (fup (g32_314 73) 50 0)) 83 (fup (h 83) b z32_314)) 73 43 = (g32_314 73) 43 := rd_ ((sOf_ne _ _ (by decide)).trans (sOf_eq _ _ _)) (fup_ne _ _ (by decide))
            have e338_83 : (setO (setO g32_314 73 (fup (g32_314 73) 50 0)) 83 (fup (h 83) b z32_314)) 83 = fup (h 83) b z32_314 := sOf_eq _ _ _
            have e339_73_45 : (setO (setO g32_314 73 (fup (g32_314 73) 50 0)) 83 (fup (h 83) b z32_314)) 73 45 = (g32_314 73) 45 := rd_ ((sOf_ne _ _ (by decide)).trans (sOf_eq _ _ _)) (fup_ne _ _ (by decide))
            have e340_73_50 : (setO (setO g32_314 73 (fup (g32_314 73) 50 0)) 83 (fup (h 83) b z32_314)) 73 50 = 0 := rd_ ((sOf_ne _ _ (by decide)).trans (sOf_eq _ _ _)) (fup_eq _ _ _)
            have e341_86 : (setO (setO g32_314 73 (fup (g32_314 73) 50 0)) 83 (fup (h 83) b z32_314)) 86 = h 86 := (sOf_ne _ _ (by decide)).trans ((sOf_ne _ _ (by decide)).trans (((hG_314.1 86 (by decide))).trans (hG_3.1 86 (by decide))))
            have e342_88 : (setO (setO g32_314 73 (fup (g32_314 73) 50 0)) 83 (fup (h 83) b z32_314)) 88 = h 88 := (sOf_ne _ _ (by decide)).trans ((sOf_ne _ _ (by decide)).trans (((hG_314.1 88 (by decide))).trans (hG_3.1 88 (by decide))))
            have e343_104 : (setO (setO g32_314 73 (fup (g32_314 73) 50 0)) 83 (fup (h 83) b z32_314)) 104 = h 104 := (sOf_ne _ _ (by decide)).trans ((sOf_ne _ _ (by decide)).trans (((hG_314.1 104 (by decide))).trans (hG_3.1 104 (by decide))))
            have e344_83 : (setO (setO g32_314 73 (fup (g32_314 73) 50 0)) 83 (fup (h 83) b z32_314)) 83 = fup (h 83) b z32_314 := sOf_eq _ _ _
            have e345_73_42 : (setO (setO g32_314 73 (fup (g32_314 73) 50 0)) 83 (fup (h 83) b z32_314)) 73 42 = (g32_314 73) 42 := rd_ ((sOf_ne _ _ (by decide)).trans (sOf_eq _ _ _)) (fup_ne _ _ (by decide))
            have e346_73_43 : (setO (setO g32_314 73 (fup (g32_314 73) 50 0)) 83 (fup (h 83) b z32_314)) 73 43 = (g32_314 73) 43 := rd_ ((sOf_ne _ _ (by decide)).trans (sOf_eq _ _ _)) (fup_ne _ _ (by decide))
            have e347_73_45 : (setO (setO g32_314 73 (fup (g32_314 73) 50 0)) 83 (fup (h 83) b z32_314)) 73 45 = (g32_314 73) 45 := rd_ ((sOf_ne _ _ (by decide)).trans (sOf_eq _ _ _)) (fup_ne _ _ (by decide))
            have e348_73_50 : (setO (setO g32_314 73 (fup (g32_314 73) 50 0)) 83 (fup (h 83) b z32_314)) 73 50 = 0 := rd_ ((sOf_ne _ _ (by decide)).trans (sOf_eq _ _ _)) (fup_eq _ _ _)
            have e349_83 : (setO (setO g32_314 73 (fup (g32_314 73) 50 0)) 83 (fup (h 83) b z32_314)) 83 = fup (h 83) b z32_314 := sOf_eq _ _ _
            exact J74_25 (setO (setO g32_314 73 (fup (g32_314 73) 50 0)) 83 (fup (h 83) b z32_314)) hT_335 hF_335 (by rewrite [e336_73_42, e337_73_43]; first | omega | (simp [up, setR] <;> omega)) (by rewrite [e338_83]; first | (intro q hq; rfl) | (intro q hq; exact fup_ne _ _ (by omega))) (by rewrite [e339_73_45, e340_73_50]; first | omega | (simp [up, setR] <;> omega)) (by rewrite [e341_86]; first | rfl) (by rewrite [e342_88]; first | rfl) (by rewrite [e343_104]; first | rfl) (by rewrite [e344_83]; first | (intro j hj; rfl) | (intro j hj; exact fup_ne _ _ hj)) (by rewrite [e345_73_42, e346_73_43, e347_73_45, e348_73_50, e349_83]; rw [fup_eq]; exact GHA_2 gb_at2 hm9.1 (by omega) (by omega) (by omega) gb_at32 (by omega))
          · refine TT_aload_n hK rfl 0 rfl dX12_getHead_51 ?_
            refine gf_X12_44 hK (by decide) rfl (q := 83) rfl rfl dX12_getHead_52 ?_
            refine TT_iload_n hK rfl 1 rfl dX12_getHead_55 ?_
            refine TT_iald hK (o := 83) (n := 20) (by decide) rfl (by first | omega | (simp [up, setR] <;> omega)) (by first | omega | (simp [up, setR] <;> omega)) (v := z32_314) (rd_ (sOf_eq _ _ _) (fup_eq _ _ _)) dX12_getHead_56 ?_
            have r350 := ty_83 (i := b) (v := z32_314) hT_315 (rd_ (sOf_eq _ _ _) (fup_eq _ _ _)) (by omega) (by omega)
            refine TT_iconst hK dX12_getHead_57 ?_
            refine TT_bipush hK (by decide) dX12_getHead_58 ?_
            refine iv_X12_120 hK (s_X12_within z32_314 1 12 (setO g32_314 83 (fup (h 83) b z32_314)) hT_315 (by first | omega | (simp [up, setR] <;> omega)) (by first | omega | (simp [up, setR] <;> omega)) (by first | omega | (simp [up, setR] <;> omega))) ⟨by decide, by decide⟩ (by decide) rfl rfl (Nat.le_of_ble_eq_true rfl) ⟨by decide, by decide⟩ dX12_getHead_60 ?_
            intro r9 g60_351 hp9
            obtain ⟨⟨hT_351, hG_351⟩, z60_351, hr9, hz_351, p1_351, p2_351⟩ := hp9
            rw [hr9]
            have hF_351 : FRM [73, 83, 86, 88, 104] [42, 43, 45, 50] h g60_351 := FRM_tr hF_315 hG_351 (by decide) (by decide)
            show TT K ly 0 0 63 [(0, vR 73), (1, vI b)] [vI z60_351, vR 73] g60_351
            refine TT_if_ne hK (tgt := 70) (irm (by omega) (by omega)) dX12_getHead_63 (by decide) (fun hb63_352 => ?_) (fun hb63_352 => ?_)
            · refine TT_iconst hK dX12_getHead_70 ?_
              refine pf_X12_375 hK (by decide) rfl (by first | decide | omega) dX12_getHead_71 ?_
              refine TT_hp (h' := setO g60_351 73 (fup (g32_314 73) 50 0)) (up_can (((hG_351.1 73 (by decide))).trans (sOf_ne _ _ (by decide))) rfl rfl) ?_
              have hT_353 : TY (setO g60_351 73 (fup (g32_314 73) 50 0)) := tu_73_50 hT_351 (show up g60_351 73 50 0 = (setO g60_351 73 (fup (g32_314 73) 50 0)) from up_can (((hG_351.1 73 (by decide))).trans (sOf_ne _ _ (by decide))) rfl rfl) (by omega)
              have hF_353 : FRM [73, 83, 86, 88, 104] [42, 43, 45, 50] h (setO g60_351 73 (fup (g32_314 73) 50 0)) := FRM_f (show up g60_351 73 50 0 = (setO g60_351 73 (fup (g32_314 73) 50 0)) from up_can (((hG_351.1 73 (by decide))).trans (sOf_ne _ _ (by decide))) rfl rfl) hF_351 (by decide) (by decide)
              have e354_73_42 : (setO g60_351 73 (fup (g32_314 73) 50 0)) 73 42 = (g32_314 73) 42 := rd_ (sOf_eq _ _ _) (fup_ne _ _ (by decide))
              have e355_73_43 : (setO g60_351 73 (fup (g32_314 73) 50 0)) 73 43 = (g32_314 73) 43 := rd_ (sOf_eq _ _ _) (fup_ne _ _ (by decide))
              have e356_83 : (setO g60_351 73 (fup (g32_314 73) 50 0)) 83 = fup (h 83) b z32_314 := (sOf_ne _ _ (by decide)).trans (((hG_351.1 83 (by decide))).trans (sOf_eq _ _ _))
              have e357_73_45 : (setO g60_351 73 (fup (g32_314 73) 50 0)) 73 45 = (g32_314 73) 45 := rd_ (sOf_eq _ _ _) (fup_ne _ _ (by decide))
              have e358_73_50 : (setO g60_351 73 (fup (g32_314 73) 50 0)) 73 50 = 0 := rd_ (sOf_eq _ _ _) (fup_eq _ _ _)
              have e359_86 : (setO g60_351 73 (fup (g32_314 73) 50 0)) 86 = h 86 := (sOf_ne _ _ (by decide)).trans (((hG_351.1 86 (by decide))).trans ((sOf_ne _ _ (by decide)).trans (((hG_314.1 86 (by decide))).trans (hG_3.1 86 (by decide)))))
              have e360_88 : (setO g60_351 73 (fup (g32_314 73) 50 0)) 88 = h 88 := (sOf_ne _ _ (by decide)).trans (((hG_351.1 88 (by decide))).trans ((sOf_ne _ _ (by decide)).trans (((hG_314.1 88 (by decide))).trans (hG_3.1 88 (by decide)))))
              have e361_104 : (setO g60_351 73 (fup (g32_314 73) 50 0)) 104 = h 104 := (sOf_ne _ _ (by decide)).trans (((hG_351.1 104 (by decide))).trans ((sOf_ne _ _ (by decide)).trans (((hG_314.1 104 (by decide))).trans (hG_3.1 104 (by decide)))))
              have e362_83 : (setO g60_351 73 (fup (g32_314 73) 50 0)) 83 = fup (h 83) b z32_314 := (sOf_ne _ _ (by decide)).trans (((hG_351.1 83 (by decide))).trans (sOf_eq _ _ _))
              have e363_73_42 : (setO g60_351 73 (fup (g32_314 73) 50 0)) 73 42 = (g32_314 73) 42 := rd_ (sOf_eq _ _ _) (fup_ne _ _ (by decide))
              have e364_73_43 : (setO g60_351 73 (fup (g32_314 73) 50 0)) 73 43 = (g32_314 73) 43 := rd_ (sOf_eq _ _ _) (fup_ne _ _ (by decide))
              have e365_73_45 : (setO g60_351 73 (fup (g32_314 73) 50 0)) 73 45 = (g32_314 73) 45 := rd_ (sOf_eq _ _ _) (fup_ne _ _ (by decide))
              have e366_73_50 : (setO g60_351 73 (fup (g32_314 73) 50 0)) 73 50 = 0 := rd_ (sOf_eq _ _ _) (fup_eq _ _ _)
              have e367_83 : (setO g60_351 73 (fup (g32_314 73) 50 0)) 83 = fup (h 83) b z32_314 := (sOf_ne _ _ (by decide)).trans (((hG_351.1 83 (by decide))).trans (sOf_eq _ _ _))
              exact J74_25 (setO g60_351 73 (fup (g32_314 73) 50 0)) hT_353 hF_353 (by rewrite [e354_73_42, e355_73_43]; first | omega | (simp [up, setR] <;> omega)) (by rewrite [e356_83]; first | (intro q hq; rfl) | (intro q hq; exact fup_ne _ _ (by omega))) (by rewrite [e357_73_45, e358_73_50]; first | omega | (simp [up, setR] <;> omega)) (by rewrite [e359_86]; first | rfl) (by rewrite [e360_88]; first | rfl) (by rewrite [e361_104]; first | rfl) (by rewrite [e362_83]; first | (intro j hj; rfl) | (intro j hj; exact fup_ne _ _ hj)) (by rewrite [e363_73_42, e364_73_43, e365_73_45, e366_73_50, e367_83]; rw [fup_eq]; exact GHA_2 gb_at2 hm9.1 (by omega) (by omega) (by omega) gb_at32 (by omega))
            · refine TT_iconst hK dX12_getHead_66 ?_
              refine TT_goto hK (tgt := 71) dX12_getHead_67 (by decide) ?_
              refine pf_X12_375 hK (by decide) rfl (by first | decide | omega) dX12_getHead_71 ?_
              refine TT_hp (h' := setO g60_351 73 (fup (g32_314 73) 50 1)) (up_can (((hG_351.1 73 (by decide))).trans (sOf_ne _ _ (by decide))) rfl rfl) ?_
              have hT_368 : TY (setO g60_351 73 (fup (g32_314 73) 50 1)) := tu_73_50 hT_351 (show up g60_351 73 50 1 = (setO g60_351 73 (fup (g32_314 73) 50 1)) from up_can (((hG_351.1 73 (by decide))).trans (sOf_ne _ _ (by decide))) rfl rfl) (by omega)
              have hF_368 : FRM [73, 83, 86, 88, 104] [42, 43, 45, 50] h (setO g60_351 73 (fup (g32_314 73) 50 1)) := FRM_f (show up g60_351 73 50 1 = (setO g60_351 73 (fup (g32_314 73) 50 1)) from up_can (((hG_351.1 73 (by decide))).trans (sOf_ne _ _ (by decide))) rfl rfl) hF_351 (by decide) (by decide)
              have e369_73_42 : (setO g60_351 73 (fup (g32_314 73) 50 1)) 73 42 = (g32_314 73) 42 := rd_ (sOf_eq _ _ _) (fup_ne _ _ (by decide))
              have e370_73_43 : (setO g60_351 73 (fup (g32_314 73) 50 1)) 73 43 = (g32_314 73) 43 := rd_ (sOf_eq _ _ _) (fup_ne _ _ (by decide))
              have e371_83 : (setO g60_351 73 (fup (g32_314 73) 50 1)) 83 = fup (h 83) b z32_314 := (sOf_ne _ _ (by decide)).trans (((hG_351.1 83 (by decide))).trans (sOf_eq _ _ _))
              have e372_73_45 : (setO g60_351 73 (fup (g32_314 73) 50 1)) 73 45 = (g32_314 73) 45 := rd_ (sOf_eq _ _ _) (fup_ne _ _ (by decide))
              have e373_73_50 : (setO g60_351 73 (fup (g32_314 73) 50 1)) 73 50 = 1 := rd_ (sOf_eq _ _ _) (fup_eq _ _ _)
              have e374_86 : (setO g60_351 73 (fup (g32_314 73) 50 1)) 86 = h 86 := (sOf_ne _ _ (by decide)).trans (((hG_351.1 86 (by decide))).trans ((sOf_ne _ _ (by decide)).trans (((hG_314.1 86 (by decide))).trans (hG_3.1 86 (by decide)))))
              have e375_88 : (setO g60_351 73 (fup (g32_314 73) 50 1)) 88 = h 88 := (sOf_ne _ _ (by decide)).trans (((hG_351.1 88 (by decide))).trans ((sOf_ne _ _ (by decide)).trans (((hG_314.1 88 (by decide))).trans (hG_3.1 88 (by decide)))))
              have e376_104 : (setO g60_351 73 (fup (g32_314 73) 50 1)) 104 = h 104 := (sOf_ne _ _ (by decide)).trans (((hG_351.1 104 (by decide))).trans ((sOf_ne _ _ (by decide)).trans (((hG_314.1 104 (by decide))).trans (hG_3.1 104 (by decide)))))
              have e377_83 : (setO g60_351 73 (fup (g32_314 73) 50 1)) 83 = fup (h 83) b z32_314 := (sOf_ne _ _ (by decide)).trans (((hG_351.1 83 (by decide))).trans (sOf_eq _ _ _))
              have e378_73_42 : (setO g60_351 73 (fup (g32_314 73) 50 1)) 73 42 = (g32_314 73) 42 := rd_ (sOf_eq _ _ _) (fup_ne _ _ (by decide))
              have e379_73_43 : (setO g60_351 73 (fup (g32_314 73) 50 1)) 73 43 = (g32_314 73) 43 := rd_ (sOf_eq _ _ _) (fup_ne _ _ (by decide))
              have e380_73_45 : (setO g60_351 73 (fup (g32_314 73) 50 1)) 73 45 = (g32_314 73) 45 := rd_ (sOf_eq _ _ _) (fup_ne _ _ (by decide))
              have e381_73_50 : (setO g60_351 73 (fup (g32_314 73) 50 1)) 73 50 = 1 := rd_ (sOf_eq _ _ _) (fup_eq _ _ _)
              have e382_83 : (setO g60_351 73 (fup (g32_314 73) 50 1)) 83 = fup (h 83) b z32_314 := (sOf_ne _ _ (by decide)).trans (((hG_351.1 83 (by decide))).trans (sOf_eq _ _ _))
              exact J74_25 (setO g60_351 73 (fup (g32_314 73) 50 1)) hT_368 hF_368 (by rewrite [e369_73_42, e370_73_43]; first | omega | (simp [up, setR] <;> omega)) (by rewrite [e371_83]; first | (intro q hq; rfl) | (intro q hq; exact fup_ne _ _ (by omega))) (by rewrite [e372_73_45, e373_73_50]; first | omega | (simp [up, setR] <;> omega)) (by rewrite [e374_86]; first | rfl) (by rewrite [e375_88]; first | rfl) (by rewrite [e376_104]; first | rfl) (by rewrite [e377_83]; first | (intro j hj; rfl) | (intro j hj; exact fup_ne _ _ hj)) (by rewrite [e378_73_42, e379_73_43, e380_73_45, e381_73_50, e382_83]; rw [fup_eq]; exact GHA_2 gb_at2 hm9.1 (by omega) (by omega) (by omega) gb_at32 (by omega))
    · refine TT_vret hK hQ ?_ dX12_getHead_15
      have e383_73_42 : g2_3 73 42 = (g2_3 73) 42 := rfl
      have e384_73_43 : g2_3 73 43 = (g2_3 73) 43 := rfl
      have e385_83 : g2_3 83 = h 83 := (hG_3.1 83 (by decide))
      have e386_104 : g2_3 104 = h 104 := (hG_3.1 104 (by decide))
      have e387_73_42 : g2_3 73 42 = (g2_3 73) 42 := rfl
      have e388_73_43 : g2_3 73 43 = (g2_3 73) 43 := rfl
      have e389_73_45 : g2_3 73 45 = (g2_3 73) 45 := rfl
      have e390_73_50 : g2_3 73 50 = (h 73) 50 := (hG_3.2 50 (by decide))
      have e391_83 : g2_3 83 = h 83 := (hG_3.1 83 (by decide))
      have e392_86 : g2_3 86 = h 86 := (hG_3.1 86 (by decide))
      have e393_88 : g2_3 88 = h 88 := (hG_3.1 88 (by decide))
      have e394_104 : g2_3 104 = h 104 := (hG_3.1 104 (by decide))
      have e395_83 : g2_3 83 = h 83 := (hG_3.1 83 (by decide))
      have e396_86 : g2_3 86 = h 86 := (hG_3.1 86 (by decide))
      have e397_88 : g2_3 88 = h 88 := (hG_3.1 88 (by decide))
      have e398_73_42 : g2_3 73 42 = (g2_3 73) 42 := rfl
      have e399_73_43 : g2_3 73 43 = (g2_3 73) 43 := rfl
      have e400_88 : g2_3 88 = h 88 := (hG_3.1 88 (by decide))
      exact ⟨⟨hT_3, hF_3⟩, rfl, (by rewrite [e383_73_42, e384_73_43]; omega), (by rewrite [e385_83]; first | (intro q hq; rfl) | (intro q hq; exact fup_ne _ _ (by omega))), (by rewrite [e386_104, e387_73_42, e388_73_43, e389_73_45, e390_73_50, e391_83, e392_86, e393_88]; exact GHP_0 gb_at2 hm9.1 hm9.2 (by omega)), (by rewrite [e394_104, e395_83, e396_86, e397_88]; exact ⟨fun j hj => ⟨rfl, rfl, rfl⟩, fun j hj => rfl⟩), (by rewrite [e398_73_42, e399_73_43, e400_88]; omega)⟩

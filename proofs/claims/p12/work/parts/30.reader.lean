/-! A reader of code that the kernel can run (numbers in one great number), and that what it reads off holds of the machine: an instruction a row -/
abbrev Lv_ : Type := List (Nat × PV_)
abbrev Rz_ : Type := Option ((Option PV_ × Nat) ⊕ (Nat × Lv_ × List PV_ × Nat))
abbrev Kt_ : Type := Nat → Lv_ → List PV_ → Nat → Rz_
abbrev Cl_ : Type := Nat → List PV_ → Nat → Option (Option PV_ × Nat)
abbrev In_ : Type := Kt_ → Cl_ → Lv_ → List PV_ → Nat → Rz_
def fN {α : Type} (n : Nat) (f : Nat → α) : α := match n with
  | .zero => f .zero
  | .succ m => f (.succ m)
def fI {α : Type} (z : Int) (f : Int → α) : α := match z with
  | .ofNat n => fN n (fun m => f (.ofNat m))
  | .negSucc n => fN n (fun m => f (.negSucc m))
theorem fN_eq {α : Type} (n : Nat) (f : Nat → α) : fN n f = f n := by cases n <;> rfl
theorem fI_eq {α : Type} (z : Int) (f : Int → α) : fI z f = f z := by
  cases z with
  | ofNat n => exact fN_eq n (fun m => f (.ofNat m))
  | negSucc n => exact fN_eq n (fun m => f (.negSucc m))
/-! numbers in digits of 48 bits -/
def encZ (z : Int) : Nat := match z with
  | .ofNat n => Nat.mul 2 n
  | .negSucc n => Nat.succ (Nat.mul 2 n)
def decZ (d : Nat) : Int := cond (Nat.beq (Nat.mod d 2) 0) (.ofNat (Nat.div d 2)) (.negSucc (Nat.div d 2))
theorem decZ_enc (z : Int) : decZ (encZ z) = z := by
  cases z with
  | ofNat n =>
    show cond (Nat.beq ((2 * n) % 2) 0) (Int.ofNat (2 * n / 2)) (Int.negSucc (2 * n / 2)) = _
    rw [show (2 * n) % 2 = 0 by omega, show 2 * n / 2 = n by omega]
    rfl
  | negSucc n =>
    show cond (Nat.beq ((2 * n + 1) % 2) 0) (Int.ofNat ((2 * n + 1) / 2)) (Int.negSucc ((2 * n + 1) / 2)) = _
    rw [show (2 * n + 1) % 2 = 1 by omega, show (2 * n + 1) / 2 = n by omega]
    rfl
def dgt (N s : Nat) : Nat := Nat.mod (Nat.shiftRight N s) 281474976710656
def dput (N s v : Nat) : Nat := Nat.lor (Nat.shiftLeft (Nat.shiftRight N (Nat.add s 48)) (Nat.add s 48)) (Nat.lor (Nat.shiftLeft v s) (Nat.mod N (Nat.pow 2 s)))
theorem dgt_bit (N s i : Nat) : (dgt N s).testBit i = (decide (i < 48) && N.testBit (s + i)) := by
  show ((N >>> s) % 2 ^ 48).testBit i = _
  rw [Nat.testBit_mod_two_pow, Nat.testBit_shiftRight]
theorem dput_bit (N s v i : Nat) : (dput N s v).testBit i = ((decide (s + 48 ≤ i) && N.testBit i) || ((decide (s ≤ i) && v.testBit (i - s)) || (decide (i < s) && N.testBit i))) := by
  show (((N >>> (s + 48)) <<< (s + 48)) ||| ((v <<< s) ||| (N % 2 ^ s))).testBit i = _
  rw [Nat.testBit_or, Nat.testBit_or, Nat.testBit_shiftLeft, Nat.testBit_shiftLeft, Nat.testBit_mod_two_pow, Nat.testBit_shiftRight]
  by_cases h : s + 48 ≤ i
  · rw [show s + 48 + (i - (s + 48)) = i by omega]; (try simp [h])
  · simp [h]
theorem dput_eq {N s v : Nat} (hv : v < 281474976710656) : dgt (dput N s v) s = v := by
  apply Nat.eq_of_testBit_eq
  intro i
  rw [dgt_bit, dput_bit]
  by_cases h : i < 48
  · rw [show s + i - s = i by omega]
    simp [h, show ¬ (s + 48 ≤ s + i) by omega, show ¬ (s + i < s) by omega]
  · have h2 : v.testBit i = false := Nat.testBit_lt_two_pow (Nat.lt_of_lt_of_le hv (Nat.pow_le_pow_right (n := 2) (by decide) (show 48 ≤ i by omega)))
    simp [h, h2]
theorem dput_ne {N s t v : Nat} (hv : v < 281474976710656) (h : s + 48 ≤ t ∨ t + 48 ≤ s) : dgt (dput N s v) t = dgt N t := by
  apply Nat.eq_of_testBit_eq
  intro i
  rw [dgt_bit, dgt_bit, dput_bit]
  by_cases hi : i < 48
  · rcases h with h | h
    · have h2 : v.testBit (t + i - s) = false := Nat.testBit_lt_two_pow (Nat.lt_of_lt_of_le hv (Nat.pow_le_pow_right (n := 2) (by decide) (show 48 ≤ t + i - s by omega)))
      simp [hi, h2, show s + 48 ≤ t + i by omega, show ¬ (t + i < s) by omega]
    · simp [hi, show ¬ (s + 48 ≤ t + i) by omega, show ¬ (s ≤ t + i) by omega, show t + i < s by omega]
  · simp [hi]
noncomputable def capT : Lean.RArray Nat := (.branch 54 (.branch 27 (.branch 13 (.branch 6 (.branch 3 (.branch 1 (.leaf 5) (.branch 2 (.leaf 40963) (.leaf 65540))) (.branch 4 (.leaf 98307) (.branch 5 (.leaf 122884) (.leaf 155653)))) (.branch 9 (.branch 7 (.leaf 196640) (.branch 8 (.leaf 458764) (.leaf 557067))) (.branch 11 (.branch 10 (.leaf 647172) (.leaf 679946)) (.branch 12 (.leaf 761866) (.leaf 843786))))) (.branch 20 (.branch 16 (.branch 14 (.leaf 925706) (.branch 15 (.leaf 1007624) (.leaf 1073160))) (.branch 18 (.branch 17 (.leaf 1138698) (.leaf 1220618)) (.branch 19 (.leaf 1302538) (.leaf 1384484)))) (.branch 23 (.branch 21 (.leaf 1679370) (.branch 22 (.leaf 1761290) (.leaf 1843205))) (.branch 25 (.branch 24 (.leaf 1884168) (.leaf 1949701)) (.branch 26 (.leaf 1990668) (.leaf 2088972)))))) (.branch 40 (.branch 33 (.branch 30 (.branch 28 (.leaf 2187287) (.branch 29 (.leaf 2375690) (.leaf 2457612))) (.branch 31 (.leaf 2555916) (.branch 32 (.leaf 2654220) (.leaf 2752524)))) (.branch 36 (.branch 34 (.leaf 2850828) (.branch 35 (.leaf 2949126) (.leaf 2998274))) (.branch 38 (.branch 37 (.leaf 3014675) (.leaf 3170323)) (.branch 39 (.leaf 3325960) (.leaf 3391496))))) (.branch 47 (.branch 43 (.branch 41 (.leaf 3457026) (.branch 42 (.leaf 3473427) (.leaf 3629075))) (.branch 45 (.branch 44 (.leaf 3784712) (.leaf 3850253)) (.branch 46 (.leaf 3956747) (.leaf 4046852)))) (.branch 50 (.branch 48 (.leaf 4079626) (.branch 49 (.leaf 4161546) (.leaf 4243466))) (.branch 52 (.branch 51 (.leaf 4325386) (.leaf 4407304)) (.branch 53 (.leaf 4472840) (.leaf 4538378))))))) (.branch 81 (.branch 67 (.branch 60 (.branch 57 (.branch 55 (.leaf 4620298) (.branch 56 (.leaf 4702218) (.leaf 4784138))) (.branch 58 (.leaf 4866058) (.branch 59 (.leaf 4947978) (.leaf 5029892)))) (.branch 63 (.branch 61 (.leaf 5062660) (.branch 62 (.leaf 5095434) (.leaf 5177352))) (.branch 65 (.branch 64 (.leaf 5242882) (.leaf 5259283)) (.branch 66 (.leaf 5414931) (.leaf 5570568))))) (.branch 74 (.branch 70 (.branch 68 (.leaf 5636106) (.branch 69 (.leaf 5718028) (.leaf 5816332))) (.branch 72 (.branch 71 (.leaf 5914636) (.leaf 6012940)) (.branch 73 (.leaf 6111244) (.leaf 6209592)))) (.branch 77 (.branch 75 (.leaf 6668335) (.branch 76 (.leaf 7053359) (.leaf 7438337))) (.branch 79 (.branch 78 (.leaf 7446592) (.leaf 7970824)) (.branch 80 (.leaf 8036360) (.leaf 8101908)))))) (.branch 94 (.branch 87 (.branch 84 (.branch 82 (.leaf 8265748) (.branch 83 (.leaf 8429588) (.leaf 8593428))) (.branch 85 (.leaf 8757250) (.branch 86 (.leaf 8773634) (.leaf 8790036)))) (.branch 90 (.branch 88 (.leaf 8953876) (.branch 89 (.leaf 9117716) (.leaf 9281544))) (.branch 92 (.branch 91 (.leaf 9347082) (.leaf 9429002)) (.branch 93 (.leaf 9510948) (.leaf 9805836))))) (.branch 101 (.branch 97 (.branch 95 (.leaf 9904130) (.branch 96 (.leaf 9920514) (.leaf 9936915))) (.branch 99 (.branch 98 (.leaf 10092563) (.leaf 10248200)) (.branch 100 (.leaf 10313736) (.leaf 10379296)))) (.branch 104 (.branch 102 (.leaf 10641412) (.branch 103 (.leaf 10674180) (.leaf 10706954))) (.branch 106 (.branch 105 (.leaf 10788874) (.leaf 10870788)) (.branch 107 (.leaf 10903562) (.leaf 10985473))))))))
noncomputable def shT : Lean.RArray Nat := (.branch 54 (.branch 27 (.branch 13 (.branch 6 (.branch 3 (.branch 1 (.leaf 81920) (.branch 2 (.leaf 40960) (.leaf 98368))) (.branch 4 (.leaf 40960) (.branch 5 (.leaf 98368) (.leaf 8192)))) (.branch 9 (.branch 7 (.leaf 99328) (.branch 8 (.leaf 24576) (.leaf 0))) (.branch 11 (.branch 10 (.leaf 98368) (.leaf 98314)) (.branch 12 (.leaf 98314) (.leaf 98314))))) (.branch 20 (.branch 16 (.branch 14 (.leaf 98314) (.branch 15 (.leaf 98312) (.leaf 98312))) (.branch 18 (.branch 17 (.leaf 98314) (.leaf 98314)) (.branch 19 (.leaf 98314) (.leaf 98654)))) (.branch 23 (.branch 21 (.leaf 98314) (.branch 22 (.leaf 98314) (.leaf 8192))) (.branch 25 (.branch 24 (.leaf 99328) (.leaf 57344)) (.branch 26 (.leaf 99328) (.leaf 99328)))))) (.branch 40 (.branch 33 (.branch 30 (.branch 28 (.leaf 98338) (.branch 29 (.leaf 32768) (.leaf 98404))) (.branch 31 (.leaf 98404) (.branch 32 (.leaf 98404) (.leaf 106596)))) (.branch 36 (.branch 34 (.leaf 106596) (.branch 35 (.leaf 65536) (.leaf 16384))) (.branch 38 (.branch 37 (.leaf 98323) (.leaf 98323)) (.branch 39 (.leaf 99328) (.leaf 49152))))) (.branch 47 (.branch 43 (.branch 41 (.leaf 16384) (.branch 42 (.leaf 98323) (.leaf 98323))) (.branch 45 (.branch 44 (.leaf 99328) (.leaf 73728)) (.branch 46 (.leaf 0) (.leaf 98368)))) (.branch 50 (.branch 48 (.leaf 98314) (.branch 49 (.leaf 98314) (.leaf 98314))) (.branch 52 (.branch 51 (.leaf 98314) (.leaf 98312)) (.branch 53 (.leaf 98312) (.leaf 98314))))))) (.branch 81 (.branch 67 (.branch 60 (.branch 57 (.branch 55 (.leaf 98314) (.branch 56 (.leaf 98314) (.leaf 98314))) (.branch 58 (.leaf 98314) (.branch 59 (.leaf 98314) (.leaf 98334)))) (.branch 63 (.branch 61 (.leaf 98334) (.branch 62 (.leaf 98314) (.leaf 49152))) (.branch 65 (.branch 64 (.leaf 16384) (.leaf 98323)) (.branch 66 (.leaf 98323) (.leaf 99328))))) (.branch 74 (.branch 70 (.branch 68 (.leaf 32768) (.branch 69 (.leaf 98404) (.leaf 98404))) (.branch 72 (.branch 71 (.leaf 98404) (.leaf 106596)) (.branch 73 (.leaf 106596) (.leaf 90112)))) (.branch 77 (.branch 75 (.leaf 98351) (.branch 76 (.leaf 98351) (.leaf 98368))) (.branch 79 (.branch 78 (.leaf 98368) (.leaf 98312)) (.branch 80 (.leaf 98312) (.leaf 98324)))))) (.branch 94 (.branch 87 (.branch 84 (.branch 82 (.leaf 98324) (.branch 83 (.leaf 98324) (.leaf 98324))) (.branch 85 (.leaf 99584) (.branch 86 (.leaf 107776) (.leaf 98324)))) (.branch 90 (.branch 88 (.leaf 98324) (.branch 89 (.leaf 98324) (.leaf 102704))) (.branch 92 (.branch 91 (.leaf 98314) (.leaf 98314)) (.branch 93 (.leaf 98654) (.leaf 98404))))) (.branch 101 (.branch 97 (.branch 95 (.leaf 106560) (.branch 96 (.leaf 106560) (.leaf 98323))) (.branch 99 (.branch 98 (.leaf 98323) (.leaf 101504)) (.branch 100 (.leaf 102704) (.leaf 103004)))) (.branch 104 (.branch 102 (.leaf 98334) (.branch 103 (.leaf 98334) (.leaf 98314))) (.branch 106 (.branch 105 (.leaf 98314) (.leaf 98368)) (.branch 107 (.leaf 98314) (.leaf 114689))))))))
noncomputable def rfT : Lean.RArray Nat := (.branch 2824 (.branch 518 (.branch 453 (.branch 192 (.branch 3 (.branch 1 (.leaf 1) (.branch 2 (.leaf 3) (.leaf 5))) (.branch 4 (.leaf 7) (.branch 64 (.leaf 44) (.leaf 2)))) (.branch 449 (.branch 320 (.leaf 4) (.branch 448 (.leaf 6) (.leaf 8))) (.branch 451 (.branch 450 (.leaf 16) (.leaf 17)) (.branch 452 (.leaf 18) (.leaf 19))))) (.branch 459 (.branch 456 (.branch 454 (.leaf 20) (.branch 455 (.leaf 21) (.leaf 22))) (.branch 457 (.leaf 24) (.branch 458 (.leaf 28) (.leaf 34)))) (.branch 514 (.branch 512 (.leaf 39) (.branch 513 (.leaf 9) (.leaf 10))) (.branch 516 (.branch 515 (.leaf 11) (.leaf 12)) (.branch 517 (.leaf 13) (.leaf 14)))))) (.branch 2240 (.branch 1793 (.branch 1537 (.branch 1408 (.leaf 15) (.branch 1536 (.leaf 23) (.leaf 25))) (.branch 1538 (.leaf 26) (.branch 1792 (.leaf 27) (.leaf 24)))) (.branch 1796 (.branch 1794 (.leaf 29) (.branch 1795 (.leaf 30) (.leaf 31))) (.branch 2176 (.branch 1797 (.leaf 32) (.leaf 33)) (.branch 2177 (.leaf 35) (.leaf 38))))) (.branch 2817 (.branch 2497 (.branch 2241 (.leaf 36) (.branch 2496 (.leaf 37) (.leaf 40))) (.branch 2561 (.branch 2560 (.leaf 43) (.leaf 41)) (.branch 2816 (.leaf 42) (.leaf 45)))) (.branch 2820 (.branch 2818 (.leaf 53) (.branch 2819 (.leaf 54) (.leaf 55))) (.branch 2822 (.branch 2821 (.leaf 56) (.leaf 57)) (.branch 2823 (.leaf 58) (.leaf 59))))))) (.branch 4681 (.branch 4032 (.branch 2882 (.branch 2827 (.branch 2825 (.leaf 60) (.branch 2826 (.leaf 61) (.leaf 62))) (.branch 2880 (.leaf 67) (.branch 2881 (.leaf 46) (.leaf 47)))) (.branch 2885 (.branch 2883 (.leaf 48) (.branch 2884 (.leaf 49) (.leaf 50))) (.branch 3968 (.branch 2886 (.leaf 51) (.leaf 52)) (.branch 3969 (.leaf 63) (.leaf 66))))) (.branch 4293 (.branch 4289 (.branch 4033 (.leaf 64) (.branch 4288 (.leaf 65) (.leaf 62))) (.branch 4291 (.branch 4290 (.leaf 68) (.leaf 69)) (.branch 4292 (.leaf 70) (.leaf 71)))) (.branch 4677 (.branch 4672 (.leaf 72) (.branch 4673 (.leaf 74) (.leaf 75))) (.branch 4679 (.branch 4678 (.leaf 76) (.leaf 77)) (.branch 4680 (.leaf 78) (.leaf 79)))))) (.branch 4695 (.branch 4687 (.branch 4684 (.branch 4682 (.leaf 80) (.branch 4683 (.leaf 81) (.leaf 82))) (.branch 4685 (.leaf 83) (.branch 4686 (.leaf 84) (.leaf 85)))) (.branch 4691 (.branch 4688 (.leaf 86) (.branch 4689 (.leaf 87) (.leaf 88))) (.branch 4693 (.branch 4692 (.leaf 89) (.leaf 90)) (.branch 4694 (.leaf 91) (.leaf 92))))) (.branch 4712 (.branch 4702 (.branch 4696 (.leaf 93) (.branch 4697 (.leaf 94) (.leaf 95))) (.branch 4707 (.branch 4703 (.leaf 96) (.leaf 97)) (.branch 4709 (.leaf 98) (.leaf 99)))) (.branch 4720 (.branch 4718 (.leaf 100) (.branch 4719 (.leaf 101) (.leaf 102))) (.branch 4725 (.branch 4721 (.leaf 103) (.leaf 104)) (.branch 4726 (.leaf 105) (.leaf 106))))))))
noncomputable def adrC (v o i : Nat) : Nat := cond (Nat.ble (Nat.succ i) (Nat.mod v 8192)) (Nat.add (Nat.div v 8192) i) (Nat.add 4096 (Nat.add (Nat.mul i 128) o))
noncomputable def adr (o i : Nat) : Nat := adrC (capT.get o) o i
theorem cap_ok : ∀ o : Fin 108, ∀ q : Fin 108, o < q → capT.get o / 8192 + capT.get o % 8192 ≤ capT.get q / 8192 := by decide +kernel
theorem cap_le : ∀ o : Fin 108, capT.get o / 8192 + capT.get o % 8192 ≤ 4096 := by decide +kernel
theorem sh_ok : ∀ o : Fin 108, sh o = (shT.get o / 8192, shT.get o % 8192) := by decide +kernel
theorem rf_ok : ∀ o : Fin 108, ∀ k : Fin 64, fk_ (sh o).1 k = 2 → (sh o).1 < 12 → k.val < fn_ (sh o).1 → rf_ o k = rfT.get (64 * o + k) := by decide +kernel
theorem adr_spec (o i : Nat) : (i < capT.get o % 8192 ∧ adr o i = capT.get o / 8192 + i) ∨ (capT.get o % 8192 ≤ i ∧ adr o i = 4096 + (i * 128 + o)) := by
  unfold adr adrC
  cases h : Nat.ble (Nat.succ i) (Nat.mod (capT.get o) 8192)
  · right
    have h1 : ¬ (i + 1 ≤ capT.get o % 8192) := fun q => by
      have := Nat.ble_eq_true_of_le q
      rw [show Nat.ble (i + 1) (capT.get o % 8192) = false from h] at this
      exact Bool.noConfusion this
    exact ⟨by omega, rfl⟩
  · left
    have h1 : i + 1 ≤ capT.get o % 8192 := Nat.le_of_ble_eq_true h
    exact ⟨by omega, rfl⟩
theorem adr_inj {o i o' i' : Nat} (ho : o < 108) (ho' : o' < 108) (hn : o' ≠ o ∨ i' ≠ i) : adr o' i' ≠ adr o i := by
  have l1 := cap_le ⟨o, ho⟩
  have l2 := cap_le ⟨o', ho'⟩
  have c1 := cap_ok ⟨o, ho⟩ ⟨o', ho'⟩
  have c2 := cap_ok ⟨o', ho'⟩ ⟨o, ho⟩
  simp only [Fin.mk_lt_mk] at c1 c2
  rcases adr_spec o i with ⟨a1, a2⟩ | ⟨a1, a2⟩ <;> rcases adr_spec o' i' with ⟨b1, b2⟩ | ⟨b1, b2⟩ <;> rw [a2, b2]
  · by_cases h : o' = o
    · subst h; omega
    · rcases Nat.lt_or_gt_of_ne h with q | q
      · have := c2 q; omega
      · have := c1 q; omega
  · dsimp only at l1; omega
  · dsimp only at l2; omega
  · omega
noncomputable def hget (N o i : Nat) : Int := decZ (dgt N (Nat.mul 48 (adr o i)))
noncomputable def hput (N o i v : Nat) : Nat := dput N (Nat.mul 48 (adr o i)) v
noncomputable def tH (N : Nat) : Hp_ := fun o i => if 0 ≤ i ∧ o < 108 then hget N o i.toNat else 0
theorem tH_get {N o i : Nat} (ho : o < 108) : tH N o ((i : Nat) : Int) = hget N o i := by
  unfold tH
  rw [if_pos ⟨Int.natCast_nonneg i, ho⟩, Int.toNat_natCast]
theorem tH_put {N o i : Nat} {v : Int} (ho : o < 108) (hv : encZ v < 281474976710656) : up (tH N) o ((i : Nat) : Int) v = tH (hput N o i (encZ v)) := by
  funext o' i'
  unfold up tH
  by_cases h1 : o' = o ∧ i' = (i : Int)
  · obtain ⟨rfl, rfl⟩ := h1
    rw [if_pos ⟨rfl, rfl⟩, if_pos ⟨Int.natCast_nonneg i, ho⟩, Int.toNat_natCast]
    unfold hget hput
    rw [dput_eq hv, decZ_enc]
  · rw [if_neg h1]
    by_cases h2 : 0 ≤ i' ∧ o' < 108
    · rw [if_pos h2, if_pos h2]
      unfold hget hput
      have h3 := adr_inj (o := o) (i := i) (o' := o') (i' := i'.toNat) ho h2.2 (by
        by_cases q : o' = o
        · right; intro z; exact h1 ⟨q, by omega⟩
        · exact Or.inl q)
      rw [dput_ne hv]
      show 48 * adr o i + 48 ≤ 48 * adr o' i'.toNat ∨ 48 * adr o' i'.toNat + 48 ≤ 48 * adr o i
      omega
    · rw [if_neg h2, if_neg h2]
/-- the cells lo .. hi - 1 out of the great number, the others as they are -/
noncomputable def tG (lo hi : Nat) (h0 : Hp_) (N : Nat) : Hp_ := fun o i => if lo ≤ o ∧ o < hi then tH N o i else h0 o i
theorem tG_get {lo hi : Nat} {h0 : Hp_} {N o i : Nat} (hq : lo ≤ o ∧ o < hi) (ho : o < 108) : tG lo hi h0 N o ((i : Nat) : Int) = hget N o i := by
  unfold tG
  rw [if_pos hq, tH_get ho]
theorem tG_put {lo hi : Nat} {h0 : Hp_} {N o i : Nat} {v : Int} (hq : lo ≤ o ∧ o < hi) (ho : o < 108) (hv : encZ v < 281474976710656) : up (tG lo hi h0 N) o ((i : Nat) : Int) v = tG lo hi h0 (hput N o i (encZ v)) := by
  funext o' i'
  have e := congrFun (congrFun (tH_put (N := N) (i := i) ho hv) o') i'
  unfold up tG at *
  by_cases h1 : o' = o ∧ i' = (i : Int)
  · obtain ⟨rfl, rfl⟩ := h1
    rw [if_pos ⟨rfl, rfl⟩] at e
    rw [if_pos ⟨rfl, rfl⟩, if_pos hq]
    exact e
  · rw [if_neg h1] at e ⊢
    rw [e]
theorem tG_all (h0 : Hp_) (hz : ∀ o i, h0 o i = 0) (N : Nat) : tG 0 108 h0 N = tH N := by
  funext o i
  unfold tG
  by_cases h : 0 ≤ o ∧ o < 108
  · rw [if_pos h]
  · rw [if_neg h, hz]
    unfold tH
    rw [if_neg (fun q => h ⟨Nat.zero_le _, q.2⟩)]
/-! tests that the kernel does fast -/
def irb (z : Int) : Bool := match z with
  | .ofNat n => Nat.ble n 2147483647
  | .negSucc n => Nat.ble n 2147483647
def lrb (z : Int) : Bool := match z with
  | .ofNat n => Nat.ble n 9223372036854775807
  | .negSucc n => Nat.ble n 9223372036854775807
theorem irb_r {z : Int} (h : irb z = true) : ir_ z := by
  cases z with
  | ofNat n => have := Nat.le_of_ble_eq_true h; exact ⟨by show _ ≤ (n : Int); omega, by show (n : Int) < _; omega⟩
  | negSucc n => have := Nat.le_of_ble_eq_true h; exact ⟨by omega, by omega⟩
theorem lrb_r {z : Int} (h : lrb z = true) : lr_ z := by
  cases z with
  | ofNat n => have := Nat.le_of_ble_eq_true h; exact ⟨by show _ ≤ (n : Int); omega, by show (n : Int) < _; omega⟩
  | negSucc n => have := Nat.le_of_ble_eq_true h; exact ⟨by omega, by omega⟩
def ile (a b : Int) : Bool := match a, b with
  | .ofNat m, .ofNat n => Nat.ble m n
  | .negSucc _, .ofNat _ => true
  | .ofNat _, .negSucc _ => false
  | .negSucc m, .negSucc n => Nat.ble n m
theorem ile_t {a b : Int} (h : ile a b = true) : a ≤ b := by
  cases a with
  | ofNat m => cases b with
    | ofNat n => have := Nat.le_of_ble_eq_true h; show (m : Int) ≤ (n : Int); omega
    | negSucc n => exact absurd h (by simp [ile])
  | negSucc m => cases b with
    | ofNat n => show Int.negSucc m ≤ (n : Int); omega
    | negSucc n => have := Nat.le_of_ble_eq_true h; omega
theorem ile_f {a b : Int} (h : ile a b = false) : b < a := by
  cases a with
  | ofNat m => cases b with
    | ofNat n =>
      have h1 : ¬ m ≤ n := fun q => by have := Nat.ble_eq_true_of_le q; rw [show Nat.ble m n = false from h] at this; exact Bool.noConfusion this
      show (n : Int) < (m : Int); omega
    | negSucc n => show Int.negSucc n < (m : Int); omega
  | negSucc m => cases b with
    | ofNat n => exact absurd h (by simp [ile])
    | negSucc n =>
      have h1 : ¬ n ≤ m := fun q => by have := Nat.ble_eq_true_of_le q; rw [show Nat.ble n m = false from h] at this; exact Bool.noConfusion this
      omega
def ieq (a b : Int) : Bool := match a, b with
  | .ofNat m, .ofNat n => Nat.beq m n
  | .negSucc m, .negSucc n => Nat.beq m n
  | _, _ => false
theorem ieq_t {a b : Int} (h : ieq a b = true) : a = b := by
  cases a with
  | ofNat m => cases b with
    | ofNat n => rw [Nat.eq_of_beq_eq_true h]
    | negSucc n => exact absurd h (by simp [ieq])
  | negSucc m => cases b with
    | ofNat n => exact absurd h (by simp [ieq])
    | negSucc n => rw [Nat.eq_of_beq_eq_true h]
theorem ieq_f {a b : Int} (h : ieq a b = false) : a ≠ b := by
  rintro rfl
  cases a with
  | ofNat m => rw [show ieq (.ofNat m) (.ofNat m) = Nat.beq m m from rfl, Nat.beq_refl] at h; exact Bool.noConfusion h
  | negSucc m => rw [show ieq (.negSucc m) (.negSucc m) = Nat.beq m m from rfl, Nat.beq_refl] at h; exact Bool.noConfusion h
/-! locals -/
noncomputable def lfind (i : Nat) (lv : Lv_) : Option PV_ := List.rec (motive := fun _ => Option PV_) none (fun q _ ih => cond (Nat.beq q.1 i) (some q.2) ih) lv
theorem lfind_t {i : Nat} {lv : Lv_} {v : PV_} (h : lfind i lv = some v) : ∃ j : Nat, (show List (Nat × PV_) from lv)[j]? = some (i, v) := by
  induction lv with
  | nil => exact absurd h (by simp [lfind])
  | cons q r ih =>
    have e : lfind i (q :: r) = cond (Nat.beq q.1 i) (some q.2) (lfind i r) := rfl
    rw [e] at h
    cases hb : Nat.beq q.1 i
    · rw [hb] at h
      obtain ⟨j, hj⟩ := ih h
      exact ⟨j + 1, hj⟩
    · rw [hb] at h
      have h1 := Nat.eq_of_beq_eq_true hb
      have h2 : q.2 = v := Option.some.inj h
      exact ⟨0, by subst h1; subst h2; rfl⟩
def kp1 (i : Nat) (q : Nat × PV_) : Bool := cond (Nat.beq q.1 i) false (match q.2 with
  | .inr (.inl _) => cond (Nat.beq (Nat.succ q.1) i) false true
  | _ => true)
def kp2 (i : Nat) (q : Nat × PV_) : Bool := cond (Nat.beq q.1 i) false (cond (Nat.beq q.1 (Nat.succ i)) false (match q.2 with
  | .inr (.inl _) => cond (Nat.beq (Nat.succ q.1) i) false true
  | _ => true))
theorem beq_nat (a b : Nat) : (a == b) = Nat.beq a b := by
  cases h : Nat.beq a b
  · have h1 : a ≠ b := fun q => by subst q; rw [Nat.beq_refl] at h; exact Bool.noConfusion h
    simp [h1]
  · have h1 := Nat.eq_of_beq_eq_true h
    simp [h1]
theorem kp1_e (i : Nat) (q : Nat × PV_) : kp1 i q = lvf1 i q := by
  obtain ⟨a, v⟩ := q
  unfold kp1 lvf1
  simp only [beq_nat, Nat.succ_eq_add_one]
  generalize Nat.beq a i = b1
  generalize Nat.beq (a + 1) i = b2
  rcases v with z | z | z <;> cases b1 <;> cases b2 <;> rfl
theorem kp2_e (i : Nat) (q : Nat × PV_) : kp2 i q = lvf2 i q := by
  obtain ⟨a, v⟩ := q
  unfold kp2 lvf2
  simp only [beq_nat, Nat.succ_eq_add_one]
  generalize Nat.beq a i = b1
  generalize Nat.beq (a + 1) i = b2
  generalize Nat.beq a (i + 1) = b3
  rcases v with z | z | z <;> cases b1 <;> cases b2 <;> cases b3 <;> rfl
noncomputable def lflt (f : Nat × PV_ → Bool) (lv : Lv_) : (Lv_ → Rz_) → Rz_ := List.rec (motive := fun _ => (Lv_ → Rz_) → Rz_) (fun c => c []) (fun q _ ih => fun c => cond (f q) (ih (fun r => c (q :: r))) (ih c)) lv
theorem lflt_e (f : Nat × PV_ → Bool) (lv : Lv_) (c : Lv_ → Rz_) : lflt f lv c = c (lv.filter f) := by
  induction lv generalizing c with
  | nil => rfl
  | cons q r ih =>
    have e : lflt f (q :: r) c = cond (f q) (lflt f r (fun r => c (q :: r))) (lflt f r c) := rfl
    rw [e]
    cases h : f q
    · show lflt f r c = _
      rw [ih, List.filter_cons_of_neg (by simp [h])]
    · show lflt f r (fun r => c (q :: r)) = _
      rw [ih, List.filter_cons_of_pos h]
theorem flt1 (i : Nat) (lv : Lv_) : lv.filter (kp1 i) = lv.filter (lvf1 i) := by rw [show kp1 i = lvf1 i from funext (kp1_e i)]
theorem flt2 (i : Nat) (lv : Lv_) : lv.filter (kp2 i) = lv.filter (lvf2 i) := by rw [show kp2 i = lvf2 i from funext (kp2_e i)]
/-! what holds of a reading -/
def GD (lo hi : Nat) (h0 : Hp_) (K : TC_) (Post : Option PV_ → Hp_ → Prop) (R : Rz_) : Prop := match R with
  | none => False
  | some (.inl (r, N)) => Post r (tG lo hi h0 N)
  | some (.inr (pc, lv, st, N)) => TT K ly 0 0 pc lv st (tG lo hi h0 N)
abbrev MI_ : Type := MethodName × ByteArray × Nat × Option FieldType
def CtrM (lo hi : Nat) (h0 : Hp_) (mi : MI_) (d : Nat) (args : List PV_) (N : Nat) (r : Option PV_) (N' : Nat) : Prop := Ctr mi.1 mi.2.1 mi.2.2.1 mi.2.2.2 (rmd d) ly ly 0 0 args (tG lo hi h0 N) (fun r' h' => r' = r ∧ h' = tG lo hi h0 N')
def COk (lo hi : Nat) (h0 : Hp_) (mi : Nat → MI_) (d : Nat) (call : Cl_) : Prop := ∀ m args N r N', call m args N = some (r, N') → ∃ d', d' + 1 ≤ d ∧ CtrM lo hi h0 (mi m) d' args N r N'
def Snd (lo hi : Nat) (h0 : Hp_) (mi : Nat → MI_) (own : String) (cc : ByteArray) (nL : Nat) (ret : Option FieldType) (pc : Nat) (f : In_) : Prop :=
  ∀ (d : Nat) (K : TC_), TOk K own cc nL ret (rmd (d + 1)) 108 → ∀ Post, TQ K ly 0 0 Post → ∀ (k : Kt_) (call : Cl_), (∀ pc lv st N, GD lo hi h0 K Post (k pc lv st N) → TT K ly 0 0 pc lv st (tG lo hi h0 N)) → COk lo hi h0 mi (d + 1) call → ∀ lv st N, GD lo hi h0 K Post (f k call lv st N) → TT K ly 0 0 pc lv st (tG lo hi h0 N)
/-! instructions -/
section SN
variable {lo hi : Nat} {h0 : Hp_} {mi : Nat → MI_} {own : String} {cc : ByteArray} {nL : Nat} {ret : Option FieldType} {pc : Nat}
def i_stop : In_ := fun _ _ _ _ _ => none
theorem snd_stop : Snd lo hi h0 mi own cc nL ret pc i_stop := fun _ _ _ _ _ _ _ _ _ _ _ _ h => False.elim h
def i_const (nx : Nat) (v : PV_) : In_ := fun k call lv st N => k nx lv (v :: st) N
theorem snd_iconst {n : Int} (hd : decode cc pc = .ok (.iconst n, 1)) : Snd lo hi h0 mi own cc nL ret pc (i_const (pc + 1) (vI n)) := by
  intro d K hK Post hQ k call hk hc lv st N h
  exact TT_iconst hK hd (hk _ _ _ _ h)
theorem snd_bipush {n : Int} (hn : (Int8.ofInt n).toInt32 = Int32.ofInt n) (hd : decode cc pc = .ok (.bipush n, 2)) : Snd lo hi h0 mi own cc nL ret pc (i_const (pc + 2) (vI n)) := by
  intro d K hK Post hQ k call hk hc lv st N h
  exact TT_bipush hK hn hd (hk _ _ _ _ h)
theorem snd_sipush {n : Int} (hn : (Int16.ofInt n).toInt32 = Int32.ofInt n) (hd : decode cc pc = .ok (.sipush n, 3)) : Snd lo hi h0 mi own cc nL ret pc (i_const (pc + 3) (vI n)) := by
  intro d K hK Post hQ k call hk hc lv st N h
  exact TT_sipush hK hn hd (hk _ _ _ _ h)
theorem snd_lconst {n : Fin 2} {v : Int} (hn : Int64.ofNat (n : Nat) = Int64.ofInt v) (hd : decode cc pc = .ok (.lconst n, 1)) : Snd lo hi h0 mi own cc nL ret pc (i_const (pc + 1) (vJ v)) := by
  intro d K hK Post hQ k call hk hc lv st N h
  exact TT_lconst hK hn hd (hk _ _ _ _ h)
theorem snd_ldc {index : Nat} {v : Int} (hw : Cond.constant own index (Int32.ofInt v) ∈ lw_good) (hd : decode cc pc = .ok (.ldc index, 2)) : Snd lo hi h0 mi own cc nL ret pc (i_const (pc + 2) (vI v)) := by
  intro d K hK Post hQ k call hk hc lv st N h
  exact TT_ldc hK hw hd (hk _ _ _ _ h)
theorem snd_ldcw {index : Nat} {v : Int} (hw : Cond.constant own index (Int32.ofInt v) ∈ lw_good) (hd : decode cc pc = .ok (.ldc_w index, 3)) : Snd lo hi h0 mi own cc nL ret pc (i_const (pc + 3) (vI v)) := by
  intro d K hK Post hQ k call hk hc lv st N h
  exact TT_ldcw hK hw hd (hk _ _ _ _ h)
theorem snd_ldc2 {index : Nat} {v : Int} (hw : Cond.constantLong own index (Int64.ofInt v) ∈ lw_good) (hd : decode cc pc = .ok (.ldc2_w index, 3)) : Snd lo hi h0 mi own cc nL ret pc (i_const (pc + 3) (vJ v)) := by
  intro d K hK Post hQ k call hk hc lv st N h
  exact TT_ldc2 hK hw hd (hk _ _ _ _ h)
theorem snd_gets {i index : Nat} (hix : i < 3) (hlink : Cond.fieldLink own index "WaveletStream$Odds" (stN i) "[I" ∈ lw_good) (hd : decode cc pc = .ok (.getstatic index, 3)) : Snd lo hi h0 mi own cc nL ret pc (i_const (pc + 3) (vR (1000 + i))) := by
  intro d K hK Post hQ k call hk hc lv st N h
  exact TT_gets hK hix rfl hlink hd (hk _ _ _ _ h)
noncomputable def i_iload (nx i : Nat) : In_ := fun k call lv st N => match lfind i lv with
  | some (.inl z) => k nx lv (vI z :: st) N
  | _ => none
theorem snd_iload_n {i : Nat} {k4 : Fin 4} (hix : (k4 : Nat) = i) (hd : decode cc pc = .ok (.iload_n k4, 1)) : Snd lo hi h0 mi own cc nL ret pc (i_iload (pc + 1) i) := by
  intro d K hK Post hQ k call hk hc lv st N h
  unfold i_iload at h
  split at h
  · rename_i z hz
    obtain ⟨j, hj⟩ := lfind_t hz
    exact TT_iload_n hK hix j hj hd (hk _ _ _ _ h)
  · exact False.elim h
theorem snd_iload {i : Nat} (hd : decode cc pc = .ok (.iload i, 2)) : Snd lo hi h0 mi own cc nL ret pc (i_iload (pc + 2) i) := by
  intro d K hK Post hQ k call hk hc lv st N h
  unfold i_iload at h
  split at h
  · rename_i z hz
    obtain ⟨j, hj⟩ := lfind_t hz
    exact TT_iload hK j hj hd (hk _ _ _ _ h)
  · exact False.elim h
noncomputable def i_lload (nx i : Nat) : In_ := fun k call lv st N => match lfind i lv with
  | some (.inr (.inl z)) => k nx lv (vJ z :: st) N
  | _ => none
theorem snd_lload_n {i : Nat} {k4 : Fin 4} (hix : (k4 : Nat) = i) (hd : decode cc pc = .ok (.lload_n k4, 1)) : Snd lo hi h0 mi own cc nL ret pc (i_lload (pc + 1) i) := by
  intro d K hK Post hQ k call hk hc lv st N h
  unfold i_lload at h
  split at h
  · rename_i z hz
    obtain ⟨j, hj⟩ := lfind_t hz
    exact TT_lload_n hK hix j hj hd (hk _ _ _ _ h)
  · exact False.elim h
theorem snd_lload {i : Nat} (hd : decode cc pc = .ok (.lload i, 2)) : Snd lo hi h0 mi own cc nL ret pc (i_lload (pc + 2) i) := by
  intro d K hK Post hQ k call hk hc lv st N h
  unfold i_lload at h
  split at h
  · rename_i z hz
    obtain ⟨j, hj⟩ := lfind_t hz
    exact TT_lload hK j hj hd (hk _ _ _ _ h)
  · exact False.elim h
noncomputable def i_aload (nx i : Nat) : In_ := fun k call lv st N => match lfind i lv with
  | some (.inr (.inr (some z))) => k nx lv (vR z :: st) N
  | _ => none
theorem snd_aload_n {i : Nat} {k4 : Fin 4} (hix : (k4 : Nat) = i) (hd : decode cc pc = .ok (.aload_n k4, 1)) : Snd lo hi h0 mi own cc nL ret pc (i_aload (pc + 1) i) := by
  intro d K hK Post hQ k call hk hc lv st N h
  unfold i_aload at h
  split at h
  · rename_i z hz
    obtain ⟨j, hj⟩ := lfind_t hz
    exact TT_aload_n hK hix j hj hd (hk _ _ _ _ h)
  · exact False.elim h
theorem snd_aload {i : Nat} (hd : decode cc pc = .ok (.aload i, 2)) : Snd lo hi h0 mi own cc nL ret pc (i_aload (pc + 2) i) := by
  intro d K hK Post hQ k call hk hc lv st N h
  unfold i_aload at h
  split at h
  · rename_i z hz
    obtain ⟨j, hj⟩ := lfind_t hz
    exact TT_aload hK j hj hd (hk _ _ _ _ h)
  · exact False.elim h
noncomputable def i_istore (nx i : Nat) : In_ := fun k call lv st N => match st with
  | .inl z :: st' => lflt (kp1 i) lv (fun r => k nx ((i, vI z) :: r) st' N)
  | _ => none
theorem snd_istore_n {i : Nat} {k4 : Fin 4} (hix : (k4 : Nat) = i) (hn : i < nL) (hd : decode cc pc = .ok (.istore_n k4, 1)) : Snd lo hi h0 mi own cc nL ret pc (i_istore (pc + 1) i) := by
  intro d K hK Post hQ k call hk hc lv st N h
  unfold i_istore at h
  split at h
  · rw [lflt_e, flt1] at h
    exact TT_istore_n hK hix hn rfl hd (hk _ _ _ _ h)
  · exact False.elim h
theorem snd_istore {i : Nat} (hn : i < nL) (hd : decode cc pc = .ok (.istore i, 2)) : Snd lo hi h0 mi own cc nL ret pc (i_istore (pc + 2) i) := by
  intro d K hK Post hQ k call hk hc lv st N h
  unfold i_istore at h
  split at h
  · rw [lflt_e, flt1] at h
    exact TT_istore hK hn rfl hd (hk _ _ _ _ h)
  · exact False.elim h
noncomputable def i_lstore (nx i : Nat) : In_ := fun k call lv st N => match st with
  | .inr (.inl z) :: st' => lflt (kp2 i) lv (fun r => k nx ((i, vJ z) :: r) st' N)
  | _ => none
theorem snd_lstore_n {i : Nat} {k4 : Fin 4} (hix : (k4 : Nat) = i) (hn : i + 1 < nL) (hd : decode cc pc = .ok (.lstore_n k4, 1)) : Snd lo hi h0 mi own cc nL ret pc (i_lstore (pc + 1) i) := by
  intro d K hK Post hQ k call hk hc lv st N h
  unfold i_lstore at h
  split at h
  · rw [lflt_e, flt2] at h
    exact TT_lstore_n hK hix hn rfl hd (hk _ _ _ _ h)
  · exact False.elim h
theorem snd_lstore {i : Nat} (hn : i + 1 < nL) (hd : decode cc pc = .ok (.lstore i, 2)) : Snd lo hi h0 mi own cc nL ret pc (i_lstore (pc + 2) i) := by
  intro d K hK Post hQ k call hk hc lv st N h
  unfold i_lstore at h
  split at h
  · rw [lflt_e, flt2] at h
    exact TT_lstore hK hn rfl hd (hk _ _ _ _ h)
  · exact False.elim h
noncomputable def i_astore (nx i : Nat) : In_ := fun k call lv st N => match st with
  | .inr (.inr (some z)) :: st' => lflt (kp1 i) lv (fun r => k nx ((i, vR z) :: r) st' N)
  | _ => none
theorem snd_astore_n {i : Nat} {k4 : Fin 4} (hix : (k4 : Nat) = i) (hn : i < nL) (hd : decode cc pc = .ok (.astore_n k4, 1)) : Snd lo hi h0 mi own cc nL ret pc (i_astore (pc + 1) i) := by
  intro d K hK Post hQ k call hk hc lv st N h
  unfold i_astore at h
  split at h
  · rw [lflt_e, flt1] at h
    exact TT_astore_n hK hix hn rfl hd (hk _ _ _ _ h)
  · exact False.elim h
theorem snd_astore {i : Nat} (hn : i < nL) (hd : decode cc pc = .ok (.astore i, 2)) : Snd lo hi h0 mi own cc nL ret pc (i_astore (pc + 2) i) := by
  intro d K hK Post hQ k call hk hc lv st N h
  unfold i_astore at h
  split at h
  · rw [lflt_e, flt1] at h
    exact TT_astore hK hn rfl hd (hk _ _ _ _ h)
  · exact False.elim h
noncomputable def i_iinc (nx i : Nat) (n : Int) : In_ := fun k call lv st N => match lfind i lv with
  | some (.inl z) => fI (Int.add z n) (fun v => lflt (kp1 i) lv (fun r => k nx ((i, vI v) :: r) st N))
  | _ => none
theorem snd_iinc {i : Nat} {n : Int} (hn : i < nL) (hd : decode cc pc = .ok (.iinc i n, 3)) : Snd lo hi h0 mi own cc nL ret pc (i_iinc (pc + 3) i n) := by
  intro d K hK Post hQ k call hk hc lv st N h
  unfold i_iinc at h
  split at h
  · rename_i z hz
    obtain ⟨j, hj⟩ := lfind_t hz
    rw [fI_eq, lflt_e, flt1] at h
    exact TT_iinc hK j hj rfl hn rfl hd (hk _ _ _ _ h)
  · exact False.elim h
def i_iadd (nx : Nat) : In_ := fun k call lv st N => match st with
  | .inl b :: .inl a :: st' => fI (Int.add a b) (fun z => k nx lv (vI z :: st') N)
  | _ => none
theorem snd_iadd (hd : decode cc pc = .ok (.iadd, 1)) : Snd lo hi h0 mi own cc nL ret pc (i_iadd (pc + 1)) := by
  intro d K hK Post hQ k call hk hc lv st N h
  unfold i_iadd at h
  split at h
  · rw [fI_eq] at h
    exact TT_iadd hK hd (hk _ _ _ _ h)
  · exact False.elim h
def i_isub (nx : Nat) : In_ := fun k call lv st N => match st with
  | .inl b :: .inl a :: st' => fI (Int.sub a b) (fun z => k nx lv (vI z :: st') N)
  | _ => none
theorem snd_isub (hd : decode cc pc = .ok (.isub, 1)) : Snd lo hi h0 mi own cc nL ret pc (i_isub (pc + 1)) := by
  intro d K hK Post hQ k call hk hc lv st N h
  unfold i_isub at h
  split at h
  · rw [fI_eq] at h
    exact TT_isub hK hd (hk _ _ _ _ h)
  · exact False.elim h
def i_imul (nx : Nat) : In_ := fun k call lv st N => match st with
  | .inl b :: .inl a :: st' => fI (Int.mul a b) (fun z => k nx lv (vI z :: st') N)
  | _ => none
theorem snd_imul (hd : decode cc pc = .ok (.imul, 1)) : Snd lo hi h0 mi own cc nL ret pc (i_imul (pc + 1)) := by
  intro d K hK Post hQ k call hk hc lv st N h
  unfold i_imul at h
  split at h
  · rw [fI_eq] at h
    exact TT_imul hK hd (hk _ _ _ _ h)
  · exact False.elim h
def i_idiv (nx : Nat) : In_ := fun k call lv st N => match st with
  | .inl b :: .inl a :: st' => cond (irb a) (cond (irb b) (cond (ile 1 b) (fI (Int.tdiv a b) (fun z => k nx lv (vI z :: st') N)) none) none) none
  | _ => none
theorem snd_idiv (hd : decode cc pc = .ok (.idiv, 1)) : Snd lo hi h0 mi own cc nL ret pc (i_idiv (pc + 1)) := by
  intro d K hK Post hQ k call hk hc lv st N h
  unfold i_idiv at h
  split at h
  · rename_i b a st'
    cases h1 : irb a
    · rw [h1] at h; exact False.elim h
    cases h2 : irb b
    · rw [h1, h2] at h; exact False.elim h
    cases h3 : ile 1 b
    · rw [h1, h2, h3] at h; exact False.elim h
    rw [h1, h2, h3] at h
    simp only [cond_true] at h
    rw [fI_eq] at h
    exact TT_idiv hK (irb_r h1) (irb_r h2) (by have := ile_t h3; omega) hd (hk _ _ _ _ h)
  · exact False.elim h
def i_irem (nx : Nat) : In_ := fun k call lv st N => match st with
  | .inl b :: .inl a :: st' => cond (irb a) (cond (irb b) (cond (ile 1 b) (fI (Int.tmod a b) (fun z => k nx lv (vI z :: st') N)) none) none) none
  | _ => none
theorem snd_irem (hd : decode cc pc = .ok (.irem, 1)) : Snd lo hi h0 mi own cc nL ret pc (i_irem (pc + 1)) := by
  intro d K hK Post hQ k call hk hc lv st N h
  unfold i_irem at h
  split at h
  · rename_i b a st'
    cases h1 : irb a
    · rw [h1] at h; exact False.elim h
    cases h2 : irb b
    · rw [h1, h2] at h; exact False.elim h
    cases h3 : ile 1 b
    · rw [h1, h2, h3] at h; exact False.elim h
    rw [h1, h2, h3] at h
    simp only [cond_true] at h
    rw [fI_eq] at h
    exact TT_irem hK (irb_r h1) (irb_r h2) (by have := ile_t h3; omega) hd (hk _ _ _ _ h)
  · exact False.elim h
def i_ladd (nx : Nat) : In_ := fun k call lv st N => match st with
  | .inr (.inl b) :: .inr (.inl a) :: st' => fI (Int.add a b) (fun z => k nx lv (vJ z :: st') N)
  | _ => none
theorem snd_ladd (hd : decode cc pc = .ok (.ladd, 1)) : Snd lo hi h0 mi own cc nL ret pc (i_ladd (pc + 1)) := by
  intro d K hK Post hQ k call hk hc lv st N h
  unfold i_ladd at h
  split at h
  · rw [fI_eq] at h
    exact TT_ladd hK hd (hk _ _ _ _ h)
  · exact False.elim h
def i_lsub (nx : Nat) : In_ := fun k call lv st N => match st with
  | .inr (.inl b) :: .inr (.inl a) :: st' => fI (Int.sub a b) (fun z => k nx lv (vJ z :: st') N)
  | _ => none
theorem snd_lsub (hd : decode cc pc = .ok (.lsub, 1)) : Snd lo hi h0 mi own cc nL ret pc (i_lsub (pc + 1)) := by
  intro d K hK Post hQ k call hk hc lv st N h
  unfold i_lsub at h
  split at h
  · rw [fI_eq] at h
    exact TT_lsub hK hd (hk _ _ _ _ h)
  · exact False.elim h
def i_lmul (nx : Nat) : In_ := fun k call lv st N => match st with
  | .inr (.inl b) :: .inr (.inl a) :: st' => fI (Int.mul a b) (fun z => k nx lv (vJ z :: st') N)
  | _ => none
theorem snd_lmul (hd : decode cc pc = .ok (.lmul, 1)) : Snd lo hi h0 mi own cc nL ret pc (i_lmul (pc + 1)) := by
  intro d K hK Post hQ k call hk hc lv st N h
  unfold i_lmul at h
  split at h
  · rw [fI_eq] at h
    exact TT_lmul hK hd (hk _ _ _ _ h)
  · exact False.elim h
def i_ldiv (nx : Nat) : In_ := fun k call lv st N => match st with
  | .inr (.inl b) :: .inr (.inl a) :: st' => cond (lrb a) (cond (lrb b) (cond (ile 1 b) (fI (Int.tdiv a b) (fun z => k nx lv (vJ z :: st') N)) none) none) none
  | _ => none
theorem snd_ldiv (hd : decode cc pc = .ok (.ldiv, 1)) : Snd lo hi h0 mi own cc nL ret pc (i_ldiv (pc + 1)) := by
  intro d K hK Post hQ k call hk hc lv st N h
  unfold i_ldiv at h
  split at h
  · rename_i b a st'
    cases h1 : lrb a
    · rw [h1] at h; exact False.elim h
    cases h2 : lrb b
    · rw [h1, h2] at h; exact False.elim h
    cases h3 : ile 1 b
    · rw [h1, h2, h3] at h; exact False.elim h
    rw [h1, h2, h3] at h
    simp only [cond_true] at h
    rw [fI_eq] at h
    exact TT_ldiv hK (lrb_r h1) (lrb_r h2) (by have := ile_t h3; omega) hd (hk _ _ _ _ h)
  · exact False.elim h
def i_lrem (nx : Nat) : In_ := fun k call lv st N => match st with
  | .inr (.inl b) :: .inr (.inl a) :: st' => cond (lrb a) (cond (lrb b) (cond (ile 1 b) (fI (Int.tmod a b) (fun z => k nx lv (vJ z :: st') N)) none) none) none
  | _ => none
theorem snd_lrem (hd : decode cc pc = .ok (.lrem, 1)) : Snd lo hi h0 mi own cc nL ret pc (i_lrem (pc + 1)) := by
  intro d K hK Post hQ k call hk hc lv st N h
  unfold i_lrem at h
  split at h
  · rename_i b a st'
    cases h1 : lrb a
    · rw [h1] at h; exact False.elim h
    cases h2 : lrb b
    · rw [h1, h2] at h; exact False.elim h
    cases h3 : ile 1 b
    · rw [h1, h2, h3] at h; exact False.elim h
    rw [h1, h2, h3] at h
    simp only [cond_true] at h
    rw [fI_eq] at h
    exact TT_lrem hK (lrb_r h1) (lrb_r h2) (by have := ile_t h3; omega) hd (hk _ _ _ _ h)
  · exact False.elim h
def i_ineg (nx : Nat) : In_ := fun k call lv st N => match st with
  | .inl a :: st' => fI (Int.neg a) (fun z => k nx lv (vI z :: st') N)
  | _ => none
theorem snd_ineg (hd : decode cc pc = .ok (.ineg, 1)) : Snd lo hi h0 mi own cc nL ret pc (i_ineg (pc + 1)) := by
  intro d K hK Post hQ k call hk hc lv st N h
  unfold i_ineg at h
  split at h
  · rw [fI_eq] at h
    exact TT_ineg hK hd (hk _ _ _ _ h)
  · exact False.elim h
def i_iand (nx : Nat) : In_ := fun k call lv st N => match st with
  | .inl b :: .inl a :: st' => fI (iand_ a b) (fun z => k nx lv (vI z :: st') N)
  | _ => none
theorem snd_iand (hd : decode cc pc = .ok (.iand, 1)) : Snd lo hi h0 mi own cc nL ret pc (i_iand (pc + 1)) := by
  intro d K hK Post hQ k call hk hc lv st N h
  unfold i_iand at h
  split at h
  · rw [fI_eq] at h
    exact TT_iand hK hd (hk _ _ _ _ h)
  · exact False.elim h
def i_ior (nx : Nat) : In_ := fun k call lv st N => match st with
  | .inl b :: .inl a :: st' => fI (ior_ a b) (fun z => k nx lv (vI z :: st') N)
  | _ => none
theorem snd_ior (hd : decode cc pc = .ok (.ior, 1)) : Snd lo hi h0 mi own cc nL ret pc (i_ior (pc + 1)) := by
  intro d K hK Post hQ k call hk hc lv st N h
  unfold i_ior at h
  split at h
  · rw [fI_eq] at h
    exact TT_ior hK hd (hk _ _ _ _ h)
  · exact False.elim h
def i_ixor (nx : Nat) : In_ := fun k call lv st N => match st with
  | .inl b :: .inl a :: st' => fI (ixor_ a b) (fun z => k nx lv (vI z :: st') N)
  | _ => none
theorem snd_ixor (hd : decode cc pc = .ok (.ixor, 1)) : Snd lo hi h0 mi own cc nL ret pc (i_ixor (pc + 1)) := by
  intro d K hK Post hQ k call hk hc lv st N h
  unfold i_ixor at h
  split at h
  · rw [fI_eq] at h
    exact TT_ixor hK hd (hk _ _ _ _ h)
  · exact False.elim h
theorem pw_e (b : Nat) : (2 : Int) ^ b = Int.ofNat (Nat.pow 2 b) := by
  show (2 : Int) ^ b = ((2 ^ b : Nat) : Int)
  push_cast; rfl
def i_ishl (nx : Nat) : In_ := fun k call lv st N => match st with
  | .inl (.ofNat n) :: .inl a :: st' => cond (irb a) (cond (Nat.ble n 31) (fI (Int.mul a (Int.ofNat (Nat.pow 2 n))) (fun z => k nx lv (vI z :: st') N)) none) none
  | _ => none
theorem snd_ishl (hd : decode cc pc = .ok (.ishl, 1)) : Snd lo hi h0 mi own cc nL ret pc (i_ishl (pc + 1)) := by
  intro d K hK Post hQ k call hk hc lv st N h
  unfold i_ishl at h
  split at h
  · rename_i n a st'
    cases h1 : irb a
    · rw [h1] at h; exact False.elim h
    cases h2 : Nat.ble n 31
    · rw [h1, h2] at h; exact False.elim h
    rw [h1, h2] at h
    simp only [cond_true] at h
    rw [fI_eq, ← pw_e] at h
    have h3 := Nat.le_of_ble_eq_true h2
    exact TT_ishl hK (b := ((n : Nat) : Int)) (by omega) (by omega) hd (hk _ _ _ _ h)
  · exact False.elim h
def i_ishr (nx : Nat) : In_ := fun k call lv st N => match st with
  | .inl (.ofNat n) :: .inl a :: st' => cond (irb a) (cond (Nat.ble n 31) (fI (Int.ediv a (Int.ofNat (Nat.pow 2 n))) (fun z => k nx lv (vI z :: st') N)) none) none
  | _ => none
theorem snd_ishr (hd : decode cc pc = .ok (.ishr, 1)) : Snd lo hi h0 mi own cc nL ret pc (i_ishr (pc + 1)) := by
  intro d K hK Post hQ k call hk hc lv st N h
  unfold i_ishr at h
  split at h
  · rename_i n a st'
    cases h1 : irb a
    · rw [h1] at h; exact False.elim h
    cases h2 : Nat.ble n 31
    · rw [h1, h2] at h; exact False.elim h
    rw [h1, h2] at h
    simp only [cond_true] at h
    rw [fI_eq, ← pw_e] at h
    have h3 := Nat.le_of_ble_eq_true h2
    exact TT_ishr hK (irb_r h1) (b := ((n : Nat) : Int)) (by omega) (by omega) hd (hk _ _ _ _ h)
  · exact False.elim h
def i_lshl (nx : Nat) : In_ := fun k call lv st N => match st with
  | .inl (.ofNat n) :: .inr (.inl a) :: st' => cond (Nat.beq n 1) (fI (Int.mul a 2) (fun z => k nx lv (vJ z :: st') N)) (cond (Nat.beq n 7) (fI (Int.mul a 128) (fun z => k nx lv (vJ z :: st') N)) (cond (Nat.beq n 16) (fI (Int.mul a 65536) (fun z => k nx lv (vJ z :: st') N)) none))
  | _ => none
theorem snd_lshl (hd : decode cc pc = .ok (.lshl, 1)) : Snd lo hi h0 mi own cc nL ret pc (i_lshl (pc + 1)) := by
  intro d K hK Post hQ k call hk hc lv st N h
  unfold i_lshl at h
  split at h
  · rename_i n a st'
    cases h1 : Nat.beq n 1
    · rw [h1] at h
      cases h2 : Nat.beq n 7
      · rw [h2] at h
        cases h3 : Nat.beq n 16
        · rw [h3] at h; exact False.elim h
        · rw [h3] at h
          simp only [cond_true, cond_false] at h
          rw [fI_eq] at h
          have e := Nat.eq_of_beq_eq_true h3
          subst e
          exact TT_lshl hK (b := 16) (by omega) hd (hk _ _ _ _ h)
      · rw [h2] at h
        simp only [cond_true, cond_false] at h
        rw [fI_eq] at h
        have e := Nat.eq_of_beq_eq_true h2
        subst e
        exact TT_lshl hK (b := 7) (by omega) hd (hk _ _ _ _ h)
    · rw [h1] at h
      simp only [cond_true] at h
      rw [fI_eq] at h
      have e := Nat.eq_of_beq_eq_true h1
      subst e
      exact TT_lshl hK (b := 1) (by omega) hd (hk _ _ _ _ h)
  · exact False.elim h
def i_lshr (nx : Nat) : In_ := fun k call lv st N => match st with
  | .inl (.ofNat n) :: .inr (.inl a) :: st' => cond (lrb a) (cond (Nat.beq n 16) (fI (Int.ediv a 65536) (fun z => k nx lv (vJ z :: st') N)) none) none
  | _ => none
theorem snd_lshr (hd : decode cc pc = .ok (.lshr, 1)) : Snd lo hi h0 mi own cc nL ret pc (i_lshr (pc + 1)) := by
  intro d K hK Post hQ k call hk hc lv st N h
  unfold i_lshr at h
  split at h
  · rename_i n a st'
    cases h1 : lrb a
    · rw [h1] at h; exact False.elim h
    cases h2 : Nat.beq n 16
    · rw [h1, h2] at h; exact False.elim h
    rw [h1, h2] at h
    simp only [cond_true] at h
    rw [fI_eq] at h
    have e := Nat.eq_of_beq_eq_true h2
    subst e
    exact TT_lshr hK (b := 16) (lrb_r h1) rfl hd (hk _ _ _ _ h)
  · exact False.elim h
def i_i2l (nx : Nat) : In_ := fun k call lv st N => match st with
  | .inl a :: st' => cond (irb a) (k nx lv (vJ a :: st') N) none
  | _ => none
theorem snd_i2l (hd : decode cc pc = .ok (.i2l, 1)) : Snd lo hi h0 mi own cc nL ret pc (i_i2l (pc + 1)) := by
  intro d K hK Post hQ k call hk hc lv st N h
  unfold i_i2l at h
  split at h
  · rename_i a st'
    cases h1 : irb a
    · rw [h1] at h; exact False.elim h
    rw [h1] at h
    exact TT_i2l hK (irb_r h1) hd (hk _ _ _ _ h)
  · exact False.elim h
def i_l2i (nx : Nat) : In_ := fun k call lv st N => match st with
  | .inr (.inl a) :: st' => k nx lv (vI a :: st') N
  | _ => none
theorem snd_l2i (hd : decode cc pc = .ok (.l2i, 1)) : Snd lo hi h0 mi own cc nL ret pc (i_l2i (pc + 1)) := by
  intro d K hK Post hQ k call hk hc lv st N h
  unfold i_l2i at h
  split at h
  · exact TT_l2i hK hd (hk _ _ _ _ h)
  · exact False.elim h
def i_lcmp (nx : Nat) : In_ := fun k call lv st N => match st with
  | .inr (.inl b) :: .inr (.inl a) :: st' => cond (lrb a) (cond (lrb b) (cond (ile b a) (cond (ile a b) (k nx lv (vI 0 :: st') N) (k nx lv (vI 1 :: st') N)) (k nx lv (vI (-1) :: st') N)) none) none
  | _ => none
theorem snd_lcmp (hd : decode cc pc = .ok (.lcmp, 1)) : Snd lo hi h0 mi own cc nL ret pc (i_lcmp (pc + 1)) := by
  intro d K hK Post hQ k call hk hc lv st N h
  unfold i_lcmp at h
  split at h
  · rename_i b a st'
    cases h1 : lrb a
    · rw [h1] at h; exact False.elim h
    cases h2 : lrb b
    · rw [h1, h2] at h; exact False.elim h
    rw [h1, h2] at h
    simp only [cond_true] at h
    refine TT_lcmp hK (lrb_r h1) (lrb_r h2) hd (hk _ _ _ _ ?_)
    cases h3 : ile b a
    · have h4 := ile_f h3
      rw [h3] at h
      rw [show lcmp_ a b = -1 by unfold lcmp_; rw [if_pos h4]]
      exact h
    · have h4 := ile_t h3
      rw [h3] at h
      cases h5 : ile a b
      · have h6 := ile_f h5
        rw [h5] at h
        rw [show lcmp_ a b = 1 by unfold lcmp_; rw [if_neg (by omega), if_neg (by omega)]]
        exact h
      · have h6 := ile_t h5
        rw [h5] at h
        rw [show lcmp_ a b = 0 by unfold lcmp_; rw [if_neg (by omega), if_pos (by omega)]]
        exact h
  · exact False.elim h
def i_dup (nx : Nat) : In_ := fun k call lv st N => match st with
  | .inl a :: st' => k nx lv (vI a :: vI a :: st') N
  | .inr (.inr r) :: st' => k nx lv (.inr (.inr r) :: .inr (.inr r) :: st') N
  | _ => none
theorem snd_dup (hd : decode cc pc = .ok (.dup, 1)) : Snd lo hi h0 mi own cc nL ret pc (i_dup (pc + 1)) := by
  intro d K hK Post hQ k call hk hc lv st N h
  unfold i_dup at h
  split at h
  · exact TT_dup hK rfl hd (hk _ _ _ _ h)
  · exact TT_dup hK rfl hd (hk _ _ _ _ h)
  · exact False.elim h
def i_pop (nx : Nat) : In_ := fun k call lv st N => match st with
  | .inl _ :: st' => k nx lv st' N
  | .inr (.inr _) :: st' => k nx lv st' N
  | _ => none
theorem snd_pop (hd : decode cc pc = .ok (.pop, 1)) : Snd lo hi h0 mi own cc nL ret pc (i_pop (pc + 1)) := by
  intro d K hK Post hQ k call hk hc lv st N h
  unfold i_pop at h
  split at h
  · exact TT_pop hK rfl hd (hk _ _ _ _ h)
  · exact TT_pop hK rfl hd (hk _ _ _ _ h)
  · exact False.elim h
def i_dup2 (nx : Nat) : In_ := fun k call lv st N => match st with
  | .inl a :: .inr (.inr r) :: st' => k nx lv (vI a :: .inr (.inr r) :: vI a :: .inr (.inr r) :: st') N
  | .inr (.inl a) :: st' => k nx lv (vJ a :: vJ a :: st') N
  | _ => none
theorem snd_dup2 (hd : decode cc pc = .ok (.dup2, 1)) : Snd lo hi h0 mi own cc nL ret pc (i_dup2 (pc + 1)) := by
  intro d K hK Post hQ k call hk hc lv st N h
  unfold i_dup2 at h
  split at h
  · exact TT_dup2 hK rfl rfl hd (hk _ _ _ _ h)
  · exact TT_dup2l hK rfl hd (hk _ _ _ _ h)
  · exact False.elim h
def i_dup_x1 (nx : Nat) : In_ := fun k call lv st N => match st with
  | .inl a :: .inr (.inr r) :: st' => k nx lv (vI a :: .inr (.inr r) :: vI a :: st') N
  | _ => none
theorem snd_dup_x1 (hd : decode cc pc = .ok (.dup_x1, 1)) : Snd lo hi h0 mi own cc nL ret pc (i_dup_x1 (pc + 1)) := by
  intro d K hK Post hQ k call hk hc lv st N h
  unfold i_dup_x1 at h
  split at h
  · exact TT_dup_x1 hK rfl rfl hd (hk _ _ _ _ h)
  · exact False.elim h
def i_icmp_eq (nx tgt : Nat) : In_ := fun k call lv st N => match st with
  | .inl b :: .inl a :: st' => cond (irb a) (cond (irb b) (cond (ieq a b) (k tgt lv st' N) (k nx lv st' N)) none) none
  | _ => none
theorem snd_icmp_eq {off : Int} {tgt : Nat} (hd : decode cc pc = .ok (.if_icmp .eq off, 3)) (ht : (pc : Int) + off = (tgt : Int)) : Snd lo hi h0 mi own cc nL ret pc (i_icmp_eq (pc + 3) tgt) := by
  intro d K hK Post hQ k call hk hc lv st N h
  unfold i_icmp_eq at h
  split at h
  · rename_i b a st'
    cases h1 : irb a
    · rw [h1] at h; exact False.elim h
    cases h2 : irb b
    · rw [h1, h2] at h; exact False.elim h
    rw [h1, h2] at h
    simp only [cond_true] at h
    cases h3 : ieq a b
    · rw [h3] at h
      exact TT_icmp_eq hK (irb_r h1) (irb_r h2) hd ht (fun q => absurd q (by have := ieq_f h3; omega)) (fun _ => hk _ _ _ _ h)
    · rw [h3] at h
      exact TT_icmp_eq hK (irb_r h1) (irb_r h2) hd ht (fun _ => hk _ _ _ _ h) (fun q => absurd q (by have := ieq_t h3; omega))
  · exact False.elim h
def i_if_eq (nx tgt : Nat) : In_ := fun k call lv st N => match st with
  | .inl a :: st' => cond (irb a) (cond (ieq a 0) (k tgt lv st' N) (k nx lv st' N)) none
  | _ => none
theorem snd_if_eq {off : Int} {tgt : Nat} (hd : decode cc pc = .ok (.ifCond .eq off, 3)) (ht : (pc : Int) + off = (tgt : Int)) : Snd lo hi h0 mi own cc nL ret pc (i_if_eq (pc + 3) tgt) := by
  intro d K hK Post hQ k call hk hc lv st N h
  unfold i_if_eq at h
  split at h
  · rename_i a st'
    cases h1 : irb a
    · rw [h1] at h; exact False.elim h
    rw [h1] at h
    simp only [cond_true] at h
    cases h3 : ieq a 0
    · rw [h3] at h
      exact TT_if_eq hK (irb_r h1) hd ht (fun q => absurd q (by have := ieq_f h3; omega)) (fun _ => hk _ _ _ _ h)
    · rw [h3] at h
      exact TT_if_eq hK (irb_r h1) hd ht (fun _ => hk _ _ _ _ h) (fun q => absurd q (by have := ieq_t h3; omega))
  · exact False.elim h
def i_icmp_ne (nx tgt : Nat) : In_ := fun k call lv st N => match st with
  | .inl b :: .inl a :: st' => cond (irb a) (cond (irb b) (cond (ieq a b) (k nx lv st' N) (k tgt lv st' N)) none) none
  | _ => none
theorem snd_icmp_ne {off : Int} {tgt : Nat} (hd : decode cc pc = .ok (.if_icmp .ne off, 3)) (ht : (pc : Int) + off = (tgt : Int)) : Snd lo hi h0 mi own cc nL ret pc (i_icmp_ne (pc + 3) tgt) := by
  intro d K hK Post hQ k call hk hc lv st N h
  unfold i_icmp_ne at h
  split at h
  · rename_i b a st'
    cases h1 : irb a
    · rw [h1] at h; exact False.elim h
    cases h2 : irb b
    · rw [h1, h2] at h; exact False.elim h
    rw [h1, h2] at h
    simp only [cond_true] at h
    cases h3 : ieq a b
    · rw [h3] at h
      exact TT_icmp_ne hK (irb_r h1) (irb_r h2) hd ht (fun _ => hk _ _ _ _ h) (fun q => absurd q (by have := ieq_f h3; omega))
    · rw [h3] at h
      exact TT_icmp_ne hK (irb_r h1) (irb_r h2) hd ht (fun q => absurd q (by have := ieq_t h3; omega)) (fun _ => hk _ _ _ _ h)
  · exact False.elim h
def i_if_ne (nx tgt : Nat) : In_ := fun k call lv st N => match st with
  | .inl a :: st' => cond (irb a) (cond (ieq a 0) (k nx lv st' N) (k tgt lv st' N)) none
  | _ => none
theorem snd_if_ne {off : Int} {tgt : Nat} (hd : decode cc pc = .ok (.ifCond .ne off, 3)) (ht : (pc : Int) + off = (tgt : Int)) : Snd lo hi h0 mi own cc nL ret pc (i_if_ne (pc + 3) tgt) := by
  intro d K hK Post hQ k call hk hc lv st N h
  unfold i_if_ne at h
  split at h
  · rename_i a st'
    cases h1 : irb a
    · rw [h1] at h; exact False.elim h
    rw [h1] at h
    simp only [cond_true] at h
    cases h3 : ieq a 0
    · rw [h3] at h
      exact TT_if_ne hK (irb_r h1) hd ht (fun _ => hk _ _ _ _ h) (fun q => absurd q (by have := ieq_f h3; omega))
    · rw [h3] at h
      exact TT_if_ne hK (irb_r h1) hd ht (fun q => absurd q (by have := ieq_t h3; omega)) (fun _ => hk _ _ _ _ h)
  · exact False.elim h
def i_icmp_lt (nx tgt : Nat) : In_ := fun k call lv st N => match st with
  | .inl b :: .inl a :: st' => cond (irb a) (cond (irb b) (cond (ile b a) (k nx lv st' N) (k tgt lv st' N)) none) none
  | _ => none
theorem snd_icmp_lt {off : Int} {tgt : Nat} (hd : decode cc pc = .ok (.if_icmp .lt off, 3)) (ht : (pc : Int) + off = (tgt : Int)) : Snd lo hi h0 mi own cc nL ret pc (i_icmp_lt (pc + 3) tgt) := by
  intro d K hK Post hQ k call hk hc lv st N h
  unfold i_icmp_lt at h
  split at h
  · rename_i b a st'
    cases h1 : irb a
    · rw [h1] at h; exact False.elim h
    cases h2 : irb b
    · rw [h1, h2] at h; exact False.elim h
    rw [h1, h2] at h
    simp only [cond_true] at h
    cases h3 : ile b a
    · rw [h3] at h
      exact TT_icmp_lt hK (irb_r h1) (irb_r h2) hd ht (fun _ => hk _ _ _ _ h) (fun q => absurd q (by have := ile_f h3; omega))
    · rw [h3] at h
      exact TT_icmp_lt hK (irb_r h1) (irb_r h2) hd ht (fun q => absurd q (by have := ile_t h3; omega)) (fun _ => hk _ _ _ _ h)
  · exact False.elim h
def i_if_lt (nx tgt : Nat) : In_ := fun k call lv st N => match st with
  | .inl a :: st' => cond (irb a) (cond (ile 0 a) (k nx lv st' N) (k tgt lv st' N)) none
  | _ => none
theorem snd_if_lt {off : Int} {tgt : Nat} (hd : decode cc pc = .ok (.ifCond .lt off, 3)) (ht : (pc : Int) + off = (tgt : Int)) : Snd lo hi h0 mi own cc nL ret pc (i_if_lt (pc + 3) tgt) := by
  intro d K hK Post hQ k call hk hc lv st N h
  unfold i_if_lt at h
  split at h
  · rename_i a st'
    cases h1 : irb a
    · rw [h1] at h; exact False.elim h
    rw [h1] at h
    simp only [cond_true] at h
    cases h3 : ile 0 a
    · rw [h3] at h
      exact TT_if_lt hK (irb_r h1) hd ht (fun _ => hk _ _ _ _ h) (fun q => absurd q (by have := ile_f h3; omega))
    · rw [h3] at h
      exact TT_if_lt hK (irb_r h1) hd ht (fun q => absurd q (by have := ile_t h3; omega)) (fun _ => hk _ _ _ _ h)
  · exact False.elim h
def i_icmp_ge (nx tgt : Nat) : In_ := fun k call lv st N => match st with
  | .inl b :: .inl a :: st' => cond (irb a) (cond (irb b) (cond (ile b a) (k tgt lv st' N) (k nx lv st' N)) none) none
  | _ => none
theorem snd_icmp_ge {off : Int} {tgt : Nat} (hd : decode cc pc = .ok (.if_icmp .ge off, 3)) (ht : (pc : Int) + off = (tgt : Int)) : Snd lo hi h0 mi own cc nL ret pc (i_icmp_ge (pc + 3) tgt) := by
  intro d K hK Post hQ k call hk hc lv st N h
  unfold i_icmp_ge at h
  split at h
  · rename_i b a st'
    cases h1 : irb a
    · rw [h1] at h; exact False.elim h
    cases h2 : irb b
    · rw [h1, h2] at h; exact False.elim h
    rw [h1, h2] at h
    simp only [cond_true] at h
    cases h3 : ile b a
    · rw [h3] at h
      exact TT_icmp_ge hK (irb_r h1) (irb_r h2) hd ht (fun q => absurd q (by have := ile_f h3; omega)) (fun _ => hk _ _ _ _ h)
    · rw [h3] at h
      exact TT_icmp_ge hK (irb_r h1) (irb_r h2) hd ht (fun _ => hk _ _ _ _ h) (fun q => absurd q (by have := ile_t h3; omega))
  · exact False.elim h
def i_if_ge (nx tgt : Nat) : In_ := fun k call lv st N => match st with
  | .inl a :: st' => cond (irb a) (cond (ile 0 a) (k tgt lv st' N) (k nx lv st' N)) none
  | _ => none
theorem snd_if_ge {off : Int} {tgt : Nat} (hd : decode cc pc = .ok (.ifCond .ge off, 3)) (ht : (pc : Int) + off = (tgt : Int)) : Snd lo hi h0 mi own cc nL ret pc (i_if_ge (pc + 3) tgt) := by
  intro d K hK Post hQ k call hk hc lv st N h
  unfold i_if_ge at h
  split at h
  · rename_i a st'
    cases h1 : irb a
    · rw [h1] at h; exact False.elim h
    rw [h1] at h
    simp only [cond_true] at h
    cases h3 : ile 0 a
    · rw [h3] at h
      exact TT_if_ge hK (irb_r h1) hd ht (fun q => absurd q (by have := ile_f h3; omega)) (fun _ => hk _ _ _ _ h)
    · rw [h3] at h
      exact TT_if_ge hK (irb_r h1) hd ht (fun _ => hk _ _ _ _ h) (fun q => absurd q (by have := ile_t h3; omega))
  · exact False.elim h
def i_icmp_gt (nx tgt : Nat) : In_ := fun k call lv st N => match st with
  | .inl b :: .inl a :: st' => cond (irb a) (cond (irb b) (cond (ile a b) (k nx lv st' N) (k tgt lv st' N)) none) none
  | _ => none
theorem snd_icmp_gt {off : Int} {tgt : Nat} (hd : decode cc pc = .ok (.if_icmp .gt off, 3)) (ht : (pc : Int) + off = (tgt : Int)) : Snd lo hi h0 mi own cc nL ret pc (i_icmp_gt (pc + 3) tgt) := by
  intro d K hK Post hQ k call hk hc lv st N h
  unfold i_icmp_gt at h
  split at h
  · rename_i b a st'
    cases h1 : irb a
    · rw [h1] at h; exact False.elim h
    cases h2 : irb b
    · rw [h1, h2] at h; exact False.elim h
    rw [h1, h2] at h
    simp only [cond_true] at h
    cases h3 : ile a b
    · rw [h3] at h
      exact TT_icmp_gt hK (irb_r h1) (irb_r h2) hd ht (fun _ => hk _ _ _ _ h) (fun q => absurd q (by have := ile_f h3; omega))
    · rw [h3] at h
      exact TT_icmp_gt hK (irb_r h1) (irb_r h2) hd ht (fun q => absurd q (by have := ile_t h3; omega)) (fun _ => hk _ _ _ _ h)
  · exact False.elim h
def i_if_gt (nx tgt : Nat) : In_ := fun k call lv st N => match st with
  | .inl a :: st' => cond (irb a) (cond (ile a 0) (k nx lv st' N) (k tgt lv st' N)) none
  | _ => none
theorem snd_if_gt {off : Int} {tgt : Nat} (hd : decode cc pc = .ok (.ifCond .gt off, 3)) (ht : (pc : Int) + off = (tgt : Int)) : Snd lo hi h0 mi own cc nL ret pc (i_if_gt (pc + 3) tgt) := by
  intro d K hK Post hQ k call hk hc lv st N h
  unfold i_if_gt at h
  split at h
  · rename_i a st'
    cases h1 : irb a
    · rw [h1] at h; exact False.elim h
    rw [h1] at h
    simp only [cond_true] at h
    cases h3 : ile a 0
    · rw [h3] at h
      exact TT_if_gt hK (irb_r h1) hd ht (fun _ => hk _ _ _ _ h) (fun q => absurd q (by have := ile_f h3; omega))
    · rw [h3] at h
      exact TT_if_gt hK (irb_r h1) hd ht (fun q => absurd q (by have := ile_t h3; omega)) (fun _ => hk _ _ _ _ h)
  · exact False.elim h
def i_icmp_le (nx tgt : Nat) : In_ := fun k call lv st N => match st with
  | .inl b :: .inl a :: st' => cond (irb a) (cond (irb b) (cond (ile a b) (k tgt lv st' N) (k nx lv st' N)) none) none
  | _ => none
theorem snd_icmp_le {off : Int} {tgt : Nat} (hd : decode cc pc = .ok (.if_icmp .le off, 3)) (ht : (pc : Int) + off = (tgt : Int)) : Snd lo hi h0 mi own cc nL ret pc (i_icmp_le (pc + 3) tgt) := by
  intro d K hK Post hQ k call hk hc lv st N h
  unfold i_icmp_le at h
  split at h
  · rename_i b a st'
    cases h1 : irb a
    · rw [h1] at h; exact False.elim h
    cases h2 : irb b
    · rw [h1, h2] at h; exact False.elim h
    rw [h1, h2] at h
    simp only [cond_true] at h
    cases h3 : ile a b
    · rw [h3] at h
      exact TT_icmp_le hK (irb_r h1) (irb_r h2) hd ht (fun q => absurd q (by have := ile_f h3; omega)) (fun _ => hk _ _ _ _ h)
    · rw [h3] at h
      exact TT_icmp_le hK (irb_r h1) (irb_r h2) hd ht (fun _ => hk _ _ _ _ h) (fun q => absurd q (by have := ile_t h3; omega))
  · exact False.elim h
def i_if_le (nx tgt : Nat) : In_ := fun k call lv st N => match st with
  | .inl a :: st' => cond (irb a) (cond (ile a 0) (k tgt lv st' N) (k nx lv st' N)) none
  | _ => none
theorem snd_if_le {off : Int} {tgt : Nat} (hd : decode cc pc = .ok (.ifCond .le off, 3)) (ht : (pc : Int) + off = (tgt : Int)) : Snd lo hi h0 mi own cc nL ret pc (i_if_le (pc + 3) tgt) := by
  intro d K hK Post hQ k call hk hc lv st N h
  unfold i_if_le at h
  split at h
  · rename_i a st'
    cases h1 : irb a
    · rw [h1] at h; exact False.elim h
    rw [h1] at h
    simp only [cond_true] at h
    cases h3 : ile a 0
    · rw [h3] at h
      exact TT_if_le hK (irb_r h1) hd ht (fun q => absurd q (by have := ile_f h3; omega)) (fun _ => hk _ _ _ _ h)
    · rw [h3] at h
      exact TT_if_le hK (irb_r h1) hd ht (fun _ => hk _ _ _ _ h) (fun q => absurd q (by have := ile_t h3; omega))
  · exact False.elim h
def i_goto (tgt : Nat) : In_ := fun k call lv st N => k tgt lv st N
theorem snd_goto {off : Int} {tgt : Nat} (hd : decode cc pc = .ok (.goto off, 3)) (ht : (pc : Int) + off = (tgt : Int)) : Snd lo hi h0 mi own cc nL ret pc (i_goto tgt) := by
  intro d K hK Post hQ k call hk hc lv st N h
  exact TT_goto hK hd ht (hk _ _ _ _ h)
noncomputable def isC (o ci : Nat) : Bool := cond (Nat.ble o 107) (Nat.beq (Nat.div (shT.get o) 8192) ci) false
theorem isC_t {o ci : Nat} (h : isC o ci = true) : o < 108 ∧ (sh o).1 = ci := by
  unfold isC at h
  cases h1 : Nat.ble o 107
  · rw [h1] at h; exact Bool.noConfusion h
  · rw [h1] at h
    have h2 : o < 108 := by have := Nat.le_of_ble_eq_true h1; omega
    refine ⟨h2, ?_⟩
    rw [sh_ok ⟨o, h2⟩]
    exact Nat.eq_of_beq_eq_true h
noncomputable def inR (o t i : Nat) : Bool := cond (Nat.ble o 107) (cond (Nat.beq (Nat.div (shT.get o) 8192) t) (Nat.ble (Nat.succ i) (Nat.mod (shT.get o) 8192)) false) false
theorem inR_t {o t i : Nat} (h : inR o t i = true) : ∃ n, o < 108 ∧ sh o = (t, n) ∧ i < n := by
  unfold inR at h
  cases h1 : Nat.ble o 107
  · rw [h1] at h; exact Bool.noConfusion h
  · rw [h1] at h
    have h2 : o < 108 := by have := Nat.le_of_ble_eq_true h1; omega
    cases h3 : Nat.beq (Nat.div (shT.get o) 8192) t
    · rw [h3] at h; exact Bool.noConfusion h
    · rw [h3] at h
      refine ⟨_, h2, ?_, Nat.le_of_ble_eq_true h⟩
      rw [sh_ok ⟨o, h2⟩]
      exact congrArg (fun x => (x, shT.get o % 8192)) (Nat.eq_of_beq_eq_true h3)
noncomputable def inL (lo hi o t i : Nat) : Bool := cond (Nat.ble lo o) (cond (Nat.ble (Nat.succ o) hi) (inR o t i) false) false
theorem inL_t {lo hi o t i : Nat} (h : inL lo hi o t i = true) : ∃ n, o < 108 ∧ sh o = (t, n) ∧ i < n ∧ lo ≤ o ∧ o < hi := by
  unfold inL at h
  cases h1 : Nat.ble lo o
  · rw [h1] at h; exact Bool.noConfusion h
  cases h2 : Nat.ble (Nat.succ o) hi
  · rw [h1, h2] at h; exact Bool.noConfusion h
  rw [h1, h2] at h
  obtain ⟨n, h3, h4, h5⟩ := inR_t h
  exact ⟨n, h3, h4, h5, Nat.le_of_ble_eq_true h1, Nat.le_of_ble_eq_true h2⟩
def zok (v : Int) : Bool := Nat.ble (encZ v) 281474976710655
theorem zok_t {v : Int} (h : zok v = true) : encZ v < 281474976710656 := by
  have := Nat.le_of_ble_eq_true h
  omega
noncomputable def i_getI (ci kf nx : Nat) : In_ := fun k call lv st N => match st with
  | .inr (.inr (some o)) :: st' => cond (isC o ci) (fI (hget N o kf) (fun z => k nx lv (vI z :: st') N)) none
  | _ => none
theorem snd_getI {ci kf : Nat} (hlo : ∀ o, o < 108 → (sh o).1 = ci → lo ≤ o ∧ o < hi) (G : ∀ {d : Nat} {K : TC_} {lv : Lv_} {st : List PV_} {h : Hp_} {o : Nat} {v : Int}, TOk K own cc nL ret (rmd (d + 1)) 108 → o < ly.1 → (sh o).1 = ci → h o kf = v → TT K ly 0 0 (pc + 3) lv (vI v :: st) h → TT K ly 0 0 pc lv (vR o :: st) h) : Snd lo hi h0 mi own cc nL ret pc (i_getI ci kf (pc + 3)) := by
  intro d K hK Post hQ k call hk hc lv st N h
  unfold i_getI at h
  split at h
  · rename_i o st'
    cases h1 : isC o ci
    · rw [h1] at h; exact False.elim h
    rw [h1] at h
    simp only [cond_true] at h
    rw [fI_eq] at h
    obtain ⟨h2, h3⟩ := isC_t h1
    exact G hK h2 h3 (tG_get (hlo _ h2 h3) h2) (hk _ _ _ _ h)
  · exact False.elim h
noncomputable def i_getJ (ci kf nx : Nat) : In_ := fun k call lv st N => match st with
  | .inr (.inr (some o)) :: st' => cond (isC o ci) (fI (hget N o kf) (fun z => k nx lv (vJ z :: st') N)) none
  | _ => none
theorem snd_getJ {ci kf : Nat} (hlo : ∀ o, o < 108 → (sh o).1 = ci → lo ≤ o ∧ o < hi) (G : ∀ {d : Nat} {K : TC_} {lv : Lv_} {st : List PV_} {h : Hp_} {o : Nat} {v : Int}, TOk K own cc nL ret (rmd (d + 1)) 108 → o < ly.1 → (sh o).1 = ci → h o kf = v → TT K ly 0 0 (pc + 3) lv (vJ v :: st) h → TT K ly 0 0 pc lv (vR o :: st) h) : Snd lo hi h0 mi own cc nL ret pc (i_getJ ci kf (pc + 3)) := by
  intro d K hK Post hQ k call hk hc lv st N h
  unfold i_getJ at h
  split at h
  · rename_i o st'
    cases h1 : isC o ci
    · rw [h1] at h; exact False.elim h
    rw [h1] at h
    simp only [cond_true] at h
    rw [fI_eq] at h
    obtain ⟨h2, h3⟩ := isC_t h1
    exact G hK h2 h3 (tG_get (hlo _ h2 h3) h2) (hk _ _ _ _ h)
  · exact False.elim h
noncomputable def i_getR (ci kf nx : Nat) : In_ := fun k call lv st N => match st with
  | .inr (.inr (some o)) :: st' => cond (isC o ci) (fN (rfT.get (Nat.add (Nat.mul 64 o) kf)) (fun q => k nx lv (vR q :: st') N)) none
  | _ => none
theorem snd_getR {ci kf : Nat} (hf : fk_ ci kf = 2) (hk64 : kf < 64) (hl : ci < 12) (hkn : kf < fn_ ci) (G : ∀ {d : Nat} {K : TC_} {lv : Lv_} {st : List PV_} {h : Hp_} {o q : Nat}, TOk K own cc nL ret (rmd (d + 1)) 108 → o < ly.1 → (sh o).1 = ci → rf_ o kf = q → TT K ly 0 0 (pc + 3) lv (vR q :: st) h → TT K ly 0 0 pc lv (vR o :: st) h) : Snd lo hi h0 mi own cc nL ret pc (i_getR ci kf (pc + 3)) := by
  intro d K hK Post hQ k call hk hc lv st N h
  unfold i_getR at h
  split at h
  · rename_i o st'
    cases h1 : isC o ci
    · rw [h1] at h; exact False.elim h
    rw [h1] at h
    simp only [cond_true] at h
    rw [fN_eq] at h
    obtain ⟨h2, h3⟩ := isC_t h1
    exact G hK h2 h3 (rf_ok ⟨o, h2⟩ ⟨kf, hk64⟩ (by rw [h3]; exact hf) (by rw [h3]; exact hl) (by rw [h3]; exact hkn)) (hk _ _ _ _ h)
  · exact False.elim h
noncomputable def i_putI (ci kf nx : Nat) : In_ := fun k call lv st N => match st with
  | .inl x :: .inr (.inr (some o)) :: st' => cond (isC o ci) (cond (zok x) (fN (hput N o kf (encZ x)) (fun N' => k nx lv st' N')) none) none
  | _ => none
theorem snd_putI {ci kf : Nat} (hlo : ∀ o, o < 108 → (sh o).1 = ci → lo ≤ o ∧ o < hi) (G : ∀ {d : Nat} {K : TC_} {lv : Lv_} {st : List PV_} {h : Hp_} {o : Nat} {x : Int}, TOk K own cc nL ret (rmd (d + 1)) 108 → o < ly.1 → (sh o).1 = ci → TT K ly 0 0 (pc + 3) lv st (up h o kf x) → TT K ly 0 0 pc lv (vI x :: vR o :: st) h) : Snd lo hi h0 mi own cc nL ret pc (i_putI ci kf (pc + 3)) := by
  intro d K hK Post hQ k call hk hc lv st N h
  unfold i_putI at h
  split at h
  · rename_i x o st'
    cases h1 : isC o ci
    · rw [h1] at h; exact False.elim h
    cases h4 : zok x
    · rw [h1, h4] at h; exact False.elim h
    rw [h1, h4] at h
    simp only [cond_true] at h
    rw [fN_eq] at h
    obtain ⟨h2, h3⟩ := isC_t h1
    refine G hK h2 h3 ?_
    rw [tG_put (hlo _ h2 h3) h2 (zok_t h4)]
    exact hk _ _ _ _ h
  · exact False.elim h
noncomputable def i_putZ (ci kf nx : Nat) : In_ := fun k call lv st N => match st with
  | .inl x :: .inr (.inr (some o)) :: st' => cond (isC o ci) (cond (zok x) (cond (cond (ieq x 0) true (ieq x 1)) (fN (hput N o kf (encZ x)) (fun N' => k nx lv st' N')) none) none) none
  | _ => none
theorem z01 {x : Int} (h : (cond (ieq x 0) true (ieq x 1)) = true) : x = 0 ∨ x = 1 := by
  cases h1 : ieq x 0
  · rw [h1] at h; exact Or.inr (ieq_t h)
  · exact Or.inl (ieq_t h1)
theorem snd_putZ {ci kf : Nat} (hlo : ∀ o, o < 108 → (sh o).1 = ci → lo ≤ o ∧ o < hi) (G : ∀ {d : Nat} {K : TC_} {lv : Lv_} {st : List PV_} {h : Hp_} {o : Nat} {x : Int}, TOk K own cc nL ret (rmd (d + 1)) 108 → o < ly.1 → (sh o).1 = ci → x = 0 ∨ x = 1 → TT K ly 0 0 (pc + 3) lv st (up h o kf x) → TT K ly 0 0 pc lv (vI x :: vR o :: st) h) : Snd lo hi h0 mi own cc nL ret pc (i_putZ ci kf (pc + 3)) := by
  intro d K hK Post hQ k call hk hc lv st N h
  unfold i_putZ at h
  split at h
  · rename_i x o st'
    cases h1 : isC o ci
    · rw [h1] at h; exact False.elim h
    cases h4 : zok x
    · rw [h1, h4] at h; exact False.elim h
    rw [h1, h4] at h
    simp only [cond_true] at h
    cases h5 : (cond (ieq x 0) true (ieq x 1))
    · rw [h5] at h; exact False.elim h
    rw [h5] at h
    simp only [cond_true] at h
    rw [fN_eq] at h
    obtain ⟨h2, h3⟩ := isC_t h1
    refine G hK h2 h3 (z01 h5) ?_
    rw [tG_put (hlo _ h2 h3) h2 (zok_t h4)]
    exact hk _ _ _ _ h
  · exact False.elim h
noncomputable def i_putJ (ci kf nx : Nat) : In_ := fun k call lv st N => match st with
  | .inr (.inl x) :: .inr (.inr (some o)) :: st' => cond (isC o ci) (cond (zok x) (fN (hput N o kf (encZ x)) (fun N' => k nx lv st' N')) none) none
  | _ => none
theorem snd_putJ {ci kf : Nat} (hlo : ∀ o, o < 108 → (sh o).1 = ci → lo ≤ o ∧ o < hi) (G : ∀ {d : Nat} {K : TC_} {lv : Lv_} {st : List PV_} {h : Hp_} {o : Nat} {x : Int}, TOk K own cc nL ret (rmd (d + 1)) 108 → o < ly.1 → (sh o).1 = ci → TT K ly 0 0 (pc + 3) lv st (up h o kf x) → TT K ly 0 0 pc lv (vJ x :: vR o :: st) h) : Snd lo hi h0 mi own cc nL ret pc (i_putJ ci kf (pc + 3)) := by
  intro d K hK Post hQ k call hk hc lv st N h
  unfold i_putJ at h
  split at h
  · rename_i x o st'
    cases h1 : isC o ci
    · rw [h1] at h; exact False.elim h
    cases h4 : zok x
    · rw [h1, h4] at h; exact False.elim h
    rw [h1, h4] at h
    simp only [cond_true] at h
    rw [fN_eq] at h
    obtain ⟨h2, h3⟩ := isC_t h1
    refine G hK h2 h3 ?_
    rw [tG_put (hlo _ h2 h3) h2 (zok_t h4)]
    exact hk _ _ _ _ h
  · exact False.elim h
noncomputable def i_iald (lo hi nx : Nat) : In_ := fun k call lv st N => match st with
  | .inl (.ofNat i) :: .inr (.inr (some o)) :: st' => cond (Nat.ble 1000 o) (cond (Nat.ble o 1002) (cond (Nat.ble i 46) (fI ((stT (Nat.sub o 1000)).getD i 0) (fun z => k nx lv (vI z :: st') N)) none) none) (cond (inL lo hi o 12 i) (fI (hget N o i) (fun z => k nx lv (vI z :: st') N)) none)
  | _ => none
theorem snd_iald (hd : decode cc pc = .ok (.iaload, 1)) : Snd lo hi h0 mi own cc nL ret pc (i_iald lo hi (pc + 1)) := by
  intro d K hK Post hQ k call hk hc lv st N h
  unfold i_iald at h
  split at h
  · rename_i i o st'
    cases h0 : Nat.ble 1000 o
    · rw [h0] at h
      cases h1 : inL lo hi o 12 i
      · rw [h1] at h; exact False.elim h
      rw [h1] at h
      simp only [cond_true, cond_false] at h
      rw [fI_eq] at h
      obtain ⟨n, h2, h3, h4, HLO⟩ := inL_t h1
      exact TT_iald hK (i := ((i : Nat) : Int)) h2 h3 (by omega) (by omega) (tG_get HLO h2) hd (hk _ _ _ _ h)
    · rw [h0] at h
      cases h1 : Nat.ble o 1002
      · rw [h1] at h; exact False.elim h
      cases h2 : Nat.ble i 46
      · rw [h1, h2] at h; exact False.elim h
      rw [h1, h2] at h
      simp only [cond_true] at h
      rw [fI_eq] at h
      have g0 := Nat.le_of_ble_eq_true h0
      have g1 := Nat.le_of_ble_eq_true h1
      have g2 := Nat.le_of_ble_eq_true h2
      exact TT_tald hK (i := o - 1000) (j := ((i : Nat) : Int)) (by omega) (by omega) (by omega) (by omega) (by rw [Int.toNat_natCast]; rfl) hd (hk _ _ _ _ h)
  · exact False.elim h
noncomputable def i_zald (lo hi nx : Nat) : In_ := fun k call lv st N => match st with
  | .inl (.ofNat i) :: .inr (.inr (some o)) :: st' => cond (inL lo hi o 13 i) (fI (hget N o i) (fun z => k nx lv (vI z :: st') N)) none
  | _ => none
theorem snd_zald (hd : decode cc pc = .ok (.baload, 1)) : Snd lo hi h0 mi own cc nL ret pc (i_zald lo hi (pc + 1)) := by
  intro d K hK Post hQ k call hk hc lv st N h
  unfold i_zald at h
  split at h
  · rename_i i o st'
    cases h1 : inL lo hi o 13 i
    · rw [h1] at h; exact False.elim h
    rw [h1] at h
    simp only [cond_true] at h
    rw [fI_eq] at h
    obtain ⟨n, h2, h3, h4, HLO⟩ := inL_t h1
    exact TT_zald hK (i := ((i : Nat) : Int)) h2 h3 (by omega) (by omega) (tG_get HLO h2) hd (hk _ _ _ _ h)
  · exact False.elim h
noncomputable def i_lald (lo hi nx : Nat) : In_ := fun k call lv st N => match st with
  | .inl (.ofNat i) :: .inr (.inr (some o)) :: st' => cond (inL lo hi o 14 i) (fI (hget N o i) (fun z => k nx lv (vJ z :: st') N)) none
  | _ => none
theorem snd_lald (hd : decode cc pc = .ok (.laload, 1)) : Snd lo hi h0 mi own cc nL ret pc (i_lald lo hi (pc + 1)) := by
  intro d K hK Post hQ k call hk hc lv st N h
  unfold i_lald at h
  split at h
  · rename_i i o st'
    cases h1 : inL lo hi o 14 i
    · rw [h1] at h; exact False.elim h
    rw [h1] at h
    simp only [cond_true] at h
    rw [fI_eq] at h
    obtain ⟨n, h2, h3, h4, HLO⟩ := inL_t h1
    exact TT_lald hK (i := ((i : Nat) : Int)) h2 h3 (by omega) (by omega) (tG_get HLO h2) hd (hk _ _ _ _ h)
  · exact False.elim h
noncomputable def i_iast (lo hi nx : Nat) : In_ := fun k call lv st N => match st with
  | .inl x :: .inl (.ofNat i) :: .inr (.inr (some o)) :: st' => cond (inL lo hi o 12 i) (cond (zok x) (fN (hput N o i (encZ x)) (fun N' => k nx lv st' N')) none) none
  | _ => none
theorem snd_iast (hd : decode cc pc = .ok (.iastore, 1)) : Snd lo hi h0 mi own cc nL ret pc (i_iast lo hi (pc + 1)) := by
  intro d K hK Post hQ k call hk hc lv st N h
  unfold i_iast at h
  split at h
  · rename_i x i o st'
    cases h1 : inL lo hi o 12 i
    · rw [h1] at h; exact False.elim h
    cases h4 : zok x
    · rw [h1, h4] at h; exact False.elim h
    rw [h1, h4] at h
    simp only [cond_true] at h
    rw [fN_eq] at h
    obtain ⟨n, h2, h3, h6, HLO⟩ := inL_t h1
    refine TT_iast hK (i := ((i : Nat) : Int)) h2 h3 (by omega) (by omega) hd ?_
    rw [tG_put HLO h2 (zok_t h4)]
    exact hk _ _ _ _ h
  · exact False.elim h
noncomputable def i_zast (lo hi nx : Nat) : In_ := fun k call lv st N => match st with
  | .inl x :: .inl (.ofNat i) :: .inr (.inr (some o)) :: st' => cond (inL lo hi o 13 i) (cond (zok x) (cond (cond (ieq x 0) true (ieq x 1)) (fN (hput N o i (encZ x)) (fun N' => k nx lv st' N')) none) none) none
  | _ => none
theorem snd_zast (hd : decode cc pc = .ok (.bastore, 1)) : Snd lo hi h0 mi own cc nL ret pc (i_zast lo hi (pc + 1)) := by
  intro d K hK Post hQ k call hk hc lv st N h
  unfold i_zast at h
  split at h
  · rename_i x i o st'
    cases h1 : inL lo hi o 13 i
    · rw [h1] at h; exact False.elim h
    cases h4 : zok x
    · rw [h1, h4] at h; exact False.elim h
    rw [h1, h4] at h
    simp only [cond_true] at h
    cases h5 : (cond (ieq x 0) true (ieq x 1))
    · rw [h5] at h; exact False.elim h
    rw [h5] at h
    simp only [cond_true] at h
    rw [fN_eq] at h
    obtain ⟨n, h2, h3, h6, HLO⟩ := inL_t h1
    refine TT_zast hK (i := ((i : Nat) : Int)) h2 h3 (by omega) (by omega) (z01 h5) hd ?_
    rw [tG_put HLO h2 (zok_t h4)]
    exact hk _ _ _ _ h
  · exact False.elim h
noncomputable def i_last (lo hi nx : Nat) : In_ := fun k call lv st N => match st with
  | .inr (.inl x) :: .inl (.ofNat i) :: .inr (.inr (some o)) :: st' => cond (inL lo hi o 14 i) (cond (zok x) (fN (hput N o i (encZ x)) (fun N' => k nx lv st' N')) none) none
  | _ => none
theorem snd_last (hd : decode cc pc = .ok (.lastore, 1)) : Snd lo hi h0 mi own cc nL ret pc (i_last lo hi (pc + 1)) := by
  intro d K hK Post hQ k call hk hc lv st N h
  unfold i_last at h
  split at h
  · rename_i x i o st'
    cases h1 : inL lo hi o 14 i
    · rw [h1] at h; exact False.elim h
    cases h4 : zok x
    · rw [h1, h4] at h; exact False.elim h
    rw [h1, h4] at h
    simp only [cond_true] at h
    rw [fN_eq] at h
    obtain ⟨n, h2, h3, h6, HLO⟩ := inL_t h1
    refine TT_last hK (i := ((i : Nat) : Int)) h2 h3 (by omega) (by omega) hd ?_
    rw [tG_put HLO h2 (zok_t h4)]
    exact hk _ _ _ _ h
  · exact False.elim h
noncomputable def i_alen (nx : Nat) : In_ := fun k call lv st N => match st with
  | .inr (.inr (some o)) :: st' => cond (cond (inR o 12 0) true (inR o 13 0)) (fN (Nat.mod (shT.get o) 8192) (fun n => k nx lv (vI (.ofNat n) :: st') N)) none
  | _ => none
theorem snd_alen (hd : decode cc pc = .ok (.arraylength, 1)) : Snd lo hi h0 mi own cc nL ret pc (i_alen (pc + 1)) := by
  intro d K hK Post hQ k call hk hc lv st N h
  unfold i_alen at h
  split at h
  · rename_i o st'
    cases h1 : (cond (inR o 12 0) true (inR o 13 0))
    · rw [h1] at h; exact False.elim h
    rw [h1] at h
    simp only [cond_true] at h
    rw [fN_eq] at h
    have h5 : ∃ t n, (t = 12 ∨ t = 13) ∧ o < 108 ∧ sh o = (t, n) := by
      cases h6 : inR o 12 0
      · rw [h6] at h1
        obtain ⟨n, h2, h3, -⟩ := inR_t (show inR o 13 0 = true from h1)
        exact ⟨13, n, Or.inr rfl, h2, h3⟩
      · obtain ⟨n, h2, h3, -⟩ := inR_t h6
        exact ⟨12, n, Or.inl rfl, h2, h3⟩
    obtain ⟨t, n, ht, h2, h3⟩ := h5
    have h7 := sh_ok ⟨o, h2⟩
    have h8 : shT.get o % 8192 = n := by
      have := h7.symm.trans h3
      exact congrArg Prod.snd this
    refine TT_alen hK (n := n) h2 h3 ht rfl hd (hk _ _ _ _ ?_)
    rw [← h8]
    exact h
  · exact False.elim h
def i_iret  : In_ := fun k call lv st N => match st with
  | .inl v :: [] => some (.inl (some (vI v), N))
  | _ => none
theorem snd_iret (hd : decode cc pc = .ok (.ireturn, 1)) : Snd lo hi h0 mi own cc nL (some .int) pc i_iret := by
  intro d K hK Post hQ k call hk hc lv st N h
  unfold i_iret at h
  split at h
  · exact TT_iret hK hQ h hd
  · exact False.elim h
def i_zret  : In_ := fun k call lv st N => match st with
  | .inl v :: [] => cond (cond (ieq v 0) true (ieq v 1)) (some (.inl (some (vI v), N))) none
  | _ => none
theorem snd_zret (hd : decode cc pc = .ok (.ireturn, 1)) : Snd lo hi h0 mi own cc nL (some .boolean) pc i_zret := by
  intro d K hK Post hQ k call hk hc lv st N h
  unfold i_zret at h
  split at h
  · rename_i v
    cases h5 : (cond (ieq v 0) true (ieq v 1))
    · rw [h5] at h; exact False.elim h
    rw [h5] at h
    exact TT_zret hK hQ (z01 h5) h hd
  · exact False.elim h
def i_vret  : In_ := fun k call lv st N => match st with
  | [] => some (.inl (none, N))
  | _ => none
theorem snd_vret (hd : decode cc pc = .ok (.return_, 1)) : Snd lo hi h0 mi own cc nL none pc i_vret := by
  intro d K hK Post hQ k call hk hc lv st N h
  unfold i_vret at h
  split at h
  · exact TT_vret hK hQ h hd
  · exact False.elim h
noncomputable def catS (st : List PV_) : Nat := List.rec (motive := fun _ => Nat) 0 (fun v _ ih => Nat.add (pcat v) ih) st
theorem catS_e (st : List PV_) : catS st = (st.map pcat).sum := by
  induction st with
  | nil => rfl
  | cons v r ih =>
    show pcat v + catS r = _
    rw [ih, List.map_cons, List.sum_cons]
noncomputable def i_mmax (nx : Nat) : In_ := fun k call lv st N => match st with
  | .inl b :: .inl a :: st' => cond (irb a) (cond (irb b) (cond (Nat.ble (catS st') 8) (cond (ile a b) (k nx lv (vI b :: st') N) (k nx lv (vI a :: st') N)) none) none) none
  | _ => none
theorem snd_mmax {index : Nat} (hw : ∀ w ∈ [Cond.methodLink own index Lib.Math.max.name, .static Lib.Math.max.name, .initialized "java/lang/Math", .code Lib.Math.max.name Lib.Math.max.code 2 (some .int)], w ∈ lw_good) (hd : decode cc pc = .ok (.invokestatic index, 3)) : Snd lo hi h0 mi own cc nL ret pc (i_mmax (pc + 3)) := by
  intro d K hK Post hQ k call hk hc lv st N h
  unfold i_mmax at h
  split at h
  · rename_i b a st'
    cases h1 : irb a
    · rw [h1] at h; exact False.elim h
    cases h2 : irb b
    · rw [h1, h2] at h; exact False.elim h
    cases h3 : Nat.ble (catS st') 8
    · rw [h1, h2, h3] at h; exact False.elim h
    rw [h1, h2, h3] at h
    simp only [cond_true] at h
    have h4 := Nat.le_of_ble_eq_true h3
    rw [catS_e] at h4
    refine TT_mmax hK (irb_r h1) (irb_r h2) hw (by show 1 ≤ d + 1; omega) (by show _ ≤ 40 * (d + 1); omega) ⟨Nat.le_refl _, Nat.le_refl _⟩ hd (hk _ _ _ _ ?_)
    cases h5 : ile a b
    · have h6 := ile_f h5
      rw [h5] at h
      rw [show max a b = a by omega]
      exact h
    · have h6 := ile_t h5
      rw [h5] at h
      rw [show max a b = b by omega]
      exact h
  · exact False.elim h
noncomputable def i_mmin (nx : Nat) : In_ := fun k call lv st N => match st with
  | .inl b :: .inl a :: st' => cond (irb a) (cond (irb b) (cond (Nat.ble (catS st') 8) (cond (ile a b) (k nx lv (vI a :: st') N) (k nx lv (vI b :: st') N)) none) none) none
  | _ => none
theorem snd_mmin {index : Nat} (hw : ∀ w ∈ [Cond.methodLink own index Lib.Math.min.name, .static Lib.Math.min.name, .initialized "java/lang/Math", .code Lib.Math.min.name Lib.Math.min.code 2 (some .int)], w ∈ lw_good) (hd : decode cc pc = .ok (.invokestatic index, 3)) : Snd lo hi h0 mi own cc nL ret pc (i_mmin (pc + 3)) := by
  intro d K hK Post hQ k call hk hc lv st N h
  unfold i_mmin at h
  split at h
  · rename_i b a st'
    cases h1 : irb a
    · rw [h1] at h; exact False.elim h
    cases h2 : irb b
    · rw [h1, h2] at h; exact False.elim h
    cases h3 : Nat.ble (catS st') 8
    · rw [h1, h2, h3] at h; exact False.elim h
    rw [h1, h2, h3] at h
    simp only [cond_true] at h
    have h4 := Nat.le_of_ble_eq_true h3
    rw [catS_e] at h4
    refine TT_mmin hK (irb_r h1) (irb_r h2) hw (by show 1 ≤ d + 1; omega) (by show _ ≤ 40 * (d + 1); omega) ⟨Nat.le_refl _, Nat.le_refl _⟩ hd (hk _ _ _ _ ?_)
    cases h5 : ile a b
    · have h6 := ile_f h5
      rw [h5] at h
      rw [show min a b = b by omega]
      exact h
    · have h6 := ile_t h5
      rw [h5] at h
      rw [show min a b = a by omega]
      exact h
  · exact False.elim h
noncomputable def i_mabs (nx : Nat) : In_ := fun k call lv st N => match st with
  | .inl a :: st' => cond (irb a) (cond (Nat.ble (catS st') 8) (fN (Int.natAbs a) (fun n => k nx lv (vI (.ofNat n) :: st') N)) none) none
  | _ => none
theorem snd_mabs {index : Nat} (hw : ∀ w ∈ [Cond.methodLink own index Lib.Math.abs.name, .static Lib.Math.abs.name, .initialized "java/lang/Math", .code Lib.Math.abs.name Lib.Math.abs.code 1 (some .int)], w ∈ lw_good) (hd : decode cc pc = .ok (.invokestatic index, 3)) : Snd lo hi h0 mi own cc nL ret pc (i_mabs (pc + 3)) := by
  intro d K hK Post hQ k call hk hc lv st N h
  unfold i_mabs at h
  split at h
  · rename_i a st'
    cases h1 : irb a
    · rw [h1] at h; exact False.elim h
    cases h3 : Nat.ble (catS st') 8
    · rw [h1, h3] at h; exact False.elim h
    rw [h1, h3] at h
    simp only [cond_true] at h
    rw [fN_eq] at h
    have h4 := Nat.le_of_ble_eq_true h3
    rw [catS_e] at h4
    exact TT_mabs hK (irb_r h1) hw (by show 1 ≤ d + 1; omega) (by show _ ≤ 40 * (d + 1); omega) ⟨Nat.le_refl _, Nat.le_refl _⟩ hd (hk _ _ _ _ h)
  · exact False.elim h
noncomputable def i_mminl (nx : Nat) : In_ := fun k call lv st N => match st with
  | .inr (.inl b) :: .inr (.inl a) :: st' => cond (lrb a) (cond (lrb b) (cond (Nat.ble (catS st') 8) (cond (ile a b) (k nx lv (vJ a :: st') N) (k nx lv (vJ b :: st') N)) none) none) none
  | _ => none
theorem snd_mminl {index : Nat} (hw : ∀ w ∈ [Cond.methodLink own index Lib.MathLoose.min_long.x, .static Lib.MathLoose.min_long.x, .initialized "java/lang/Math", .code Lib.MathLoose.min_long.x Lib.MathLoose.min_long.code 4 (some .long)], w ∈ lw_good) (hd : decode cc pc = .ok (.invokestatic index, 3)) : Snd lo hi h0 mi own cc nL ret pc (i_mminl (pc + 3)) := by
  intro d K hK Post hQ k call hk hc lv st N h
  unfold i_mminl at h
  split at h
  · rename_i b a st'
    cases h1 : lrb a
    · rw [h1] at h; exact False.elim h
    cases h2 : lrb b
    · rw [h1, h2] at h; exact False.elim h
    cases h3 : Nat.ble (catS st') 8
    · rw [h1, h2, h3] at h; exact False.elim h
    rw [h1, h2, h3] at h
    simp only [cond_true] at h
    have h4 := Nat.le_of_ble_eq_true h3
    rw [catS_e] at h4
    refine TT_mminl hK (lrb_r h1) (lrb_r h2) hw (by show 1 ≤ d + 1; omega) (by show _ ≤ 40 * (d + 1); omega) ⟨Nat.le_refl _, Nat.le_refl _⟩ hd (hk _ _ _ _ ?_)
    cases h5 : ile a b
    · have h6 := ile_f h5
      rw [h5] at h
      rw [show min a b = b by omega]
      exact h
    · have h6 := ile_t h5
      rw [h5] at h
      rw [show min a b = a by omega]
      exact h
  · exact False.elim h
noncomputable def okV (v : PV_) : Bool := match v with
  | .inr (.inr (some o)) => cond (Nat.ble o 107) true (Nat.ble 1000 o)
  | _ => true
theorem okV_e (v : PV_) (h : okV v = true) : pok 108 v = true := by
  rcases v with z | z | _ | o
  · rfl
  · rfl
  · rfl
  · show (decide (o < 108) || decide (1000 ≤ o)) = true
    unfold okV at h
    dsimp only at h
    cases h1 : Nat.ble o 107
    · rw [h1] at h
      have := Nat.le_of_ble_eq_true (show Nat.ble 1000 o = true from h)
      simp [this]
    · have := Nat.le_of_ble_eq_true h1
      simp [show o < 108 by omega]
noncomputable def okS (st : List PV_) : Bool := List.rec (motive := fun _ => Bool) true (fun v _ ih => cond (okV v) ih false) st
theorem okS_e {st : List PV_} (h : okS st = true) : st.all (pok 108) = true := by
  induction st with
  | nil => rfl
  | cons v r ih =>
    have e : okS (v :: r) = cond (okV v) (okS r) false := rfl
    rw [e] at h
    cases h1 : okV v
    · rw [h1] at h; exact Bool.noConfusion h
    · rw [h1] at h
      rw [List.all_cons, okV_e v h1, ih h]
      rfl
noncomputable def okL (lv : Lv_) : Bool := List.rec (motive := fun _ => Bool) true (fun v _ ih => cond (okV v.2) ih false) lv
theorem okL_e {lv : Lv_} (h : okL lv = true) : lv.all (fun q => pok 108 q.2) = true := by
  induction lv with
  | nil => rfl
  | cons v r ih =>
    have e : okL (v :: r) = cond (okV v.2) (okL r) false := rfl
    rw [e] at h
    cases h1 : okV v.2
    · rw [h1] at h; exact Bool.noConfusion h
    · rw [h1] at h
      rw [List.all_cons, okV_e v.2 h1, ih h]
      rfl
noncomputable def okC (lv : Lv_) (st : List PV_) : Bool := cond (okL lv) (cond (okS st) (Nat.ble (catS st) 8) false) false
theorem okC_e {lv : Lv_} {st : List PV_} (h : okC lv st = true) : lv.all (fun q => pok 108 q.2) = true ∧ st.all (pok 108) = true ∧ (st.map pcat).sum ≤ 8 := by
  unfold okC at h
  cases h1 : okL lv
  · rw [h1] at h; exact Bool.noConfusion h
  cases h2 : okS st
  · rw [h1, h2] at h; exact Bool.noConfusion h
  rw [h1, h2] at h
  refine ⟨okL_e h1, okS_e h2, ?_⟩
  rw [← catS_e]
  exact Nat.le_of_ble_eq_true h
def goOn (c : Option (Option PV_ × Nat)) (k : Kt_) (nx : Nat) (lv : Lv_) (st : List PV_) : Rz_ := match c with
  | some (none, N) => k nx lv st N
  | some (some v, N) => k nx lv (v :: st) N
  | none => none
theorem goOn_e {lo hi : Nat} {h0 : Hp_} {K : TC_} {Post : Option PV_ → Hp_ → Prop} {c : Option (Option PV_ × Nat)} {k : Kt_} {nx : Nat} {lv : Lv_} {st : List PV_} (h : GD lo hi h0 K Post (goOn c k nx lv st)) : ∃ r N, c = some (r, N) ∧ GD lo hi h0 K Post (k nx lv (r.toList ++ st) N) := by
  unfold goOn at h
  split at h
  · exact ⟨none, _, rfl, h⟩
  · exact ⟨some _, _, rfl, h⟩
  · exact False.elim h
noncomputable def i_cV0 (m ci nx : Nat) : In_ := fun k call lv st N => match st with
  | .inr (.inr (some o)) :: st' => cond (isC o ci) (cond (okC lv st') (goOn (call m [vR o] N) k nx lv st') none) none
  | _ => none
theorem snd_cV0 {m ci : Nat} (G : ∀ {d d' : Nat} {K : TC_} {lv : Lv_} {st : List PV_} {h : Hp_} {o : Nat} {dummy : PV_} {Post : Option PV_ → Hp_ → Prop}, TOk K own cc nL ret (rmd (d + 1)) 108 → d' + 1 ≤ d + 1 → Ctr (mi m).1 (mi m).2.1 (mi m).2.2.1 (mi m).2.2.2 (rmd d') ly ly 0 0 [vR o] h Post → o < ly.1 → (sh o).1 = ci → lv.all (fun q => pok 108 q.2) = true → st.all (pok 108) = true → (st.map pcat).sum ≤ 8 → (∀ (r : Option PV_) (h' : Hp_), Post r h' → TT K ly 0 0 (pc + 3) lv (r.toList ++ st) h') → TT K ly 0 0 pc lv (vR o :: st) h) : Snd lo hi h0 mi own cc nL ret pc (i_cV0 m ci (pc + 3)) := by
  intro d K hK Post hQ k call hk hc lv st N h
  unfold i_cV0 at h
  split at h
  · rename_i o st'
    cases h1 : isC o ci
    · rw [h1] at h; exact False.elim h
    cases h2 : okC lv st'
    · rw [h1, h2] at h; exact False.elim h
    rw [h1, h2] at h
    simp only [cond_true] at h
    obtain ⟨r, N', e1, h3⟩ := goOn_e h
    obtain ⟨d', hd', hC⟩ := hc _ _ _ _ _ e1
    obtain ⟨h4, h5⟩ := isC_t h1
    obtain ⟨h6, h7, h8⟩ := okC_e h2
    refine G (dummy := vI 0) hK hd' hC h4 h5 h6 h7 h8 (fun r1 h9 hp => ?_)
    obtain ⟨rfl, rfl⟩ := hp
    exact hk _ _ _ _ h3
  · exact False.elim h
noncomputable def i_cV1 (m ci nx : Nat) : In_ := fun k call lv st N => match st with
  | a1 :: .inr (.inr (some o)) :: st' => cond (isC o ci) (cond (okC lv st') (goOn (call m [vR o, a1] N) k nx lv st') none) none
  | _ => none
theorem snd_cV1 {m ci : Nat} (G : ∀ {d d' : Nat} {K : TC_} {lv : Lv_} {st : List PV_} {h : Hp_} {o : Nat} {a1 : PV_} {Post : Option PV_ → Hp_ → Prop}, TOk K own cc nL ret (rmd (d + 1)) 108 → d' + 1 ≤ d + 1 → Ctr (mi m).1 (mi m).2.1 (mi m).2.2.1 (mi m).2.2.2 (rmd d') ly ly 0 0 [vR o, a1] h Post → o < ly.1 → (sh o).1 = ci → lv.all (fun q => pok 108 q.2) = true → st.all (pok 108) = true → (st.map pcat).sum ≤ 8 → (∀ (r : Option PV_) (h' : Hp_), Post r h' → TT K ly 0 0 (pc + 3) lv (r.toList ++ st) h') → TT K ly 0 0 pc lv (a1 :: vR o :: st) h) : Snd lo hi h0 mi own cc nL ret pc (i_cV1 m ci (pc + 3)) := by
  intro d K hK Post hQ k call hk hc lv st N h
  unfold i_cV1 at h
  split at h
  · rename_i a1 o st'
    cases h1 : isC o ci
    · rw [h1] at h; exact False.elim h
    cases h2 : okC lv st'
    · rw [h1, h2] at h; exact False.elim h
    rw [h1, h2] at h
    simp only [cond_true] at h
    obtain ⟨r, N', e1, h3⟩ := goOn_e h
    obtain ⟨d', hd', hC⟩ := hc _ _ _ _ _ e1
    obtain ⟨h4, h5⟩ := isC_t h1
    obtain ⟨h6, h7, h8⟩ := okC_e h2
    refine G hK hd' hC h4 h5 h6 h7 h8 (fun r1 h9 hp => ?_)
    obtain ⟨rfl, rfl⟩ := hp
    exact hk _ _ _ _ h3
  · exact False.elim h
noncomputable def i_cS1 (m nx : Nat) : In_ := fun k call lv st N => match st with
  | a1 :: st' => cond (okC lv st') (goOn (call m [a1] N) k nx lv st') none
  | _ => none
theorem snd_cS1 {m : Nat} (G : ∀ {d d' : Nat} {K : TC_} {lv : Lv_} {st : List PV_} {h : Hp_} {a1 : PV_} {Post : Option PV_ → Hp_ → Prop}, TOk K own cc nL ret (rmd (d + 1)) 108 → d' + 1 ≤ d + 1 → Ctr (mi m).1 (mi m).2.1 (mi m).2.2.1 (mi m).2.2.2 (rmd d') ly ly 0 0 [a1] h Post → lv.all (fun q => pok 108 q.2) = true → st.all (pok 108) = true → (st.map pcat).sum ≤ 8 → (∀ (r : Option PV_) (h' : Hp_), Post r h' → TT K ly 0 0 (pc + 3) lv (r.toList ++ st) h') → TT K ly 0 0 pc lv (a1 :: st) h) : Snd lo hi h0 mi own cc nL ret pc (i_cS1 m (pc + 3)) := by
  intro d K hK Post hQ k call hk hc lv st N h
  unfold i_cS1 at h
  split at h
  · rename_i a1 st'
    cases h2 : okC lv st'
    · rw [h2] at h; exact False.elim h
    rw [h2] at h
    simp only [cond_true] at h
    obtain ⟨r, N', e1, h3⟩ := goOn_e h
    obtain ⟨d', hd', hC⟩ := hc _ _ _ _ _ e1
    obtain ⟨h6, h7, h8⟩ := okC_e h2
    refine G hK hd' hC h6 h7 h8 (fun r1 h9 hp => ?_)
    obtain ⟨rfl, rfl⟩ := hp
    exact hk _ _ _ _ h3
  · exact False.elim h
noncomputable def i_cV2 (m ci nx : Nat) : In_ := fun k call lv st N => match st with
  | a2 :: a1 :: .inr (.inr (some o)) :: st' => cond (isC o ci) (cond (okC lv st') (goOn (call m [vR o, a1, a2] N) k nx lv st') none) none
  | _ => none
theorem snd_cV2 {m ci : Nat} (G : ∀ {d d' : Nat} {K : TC_} {lv : Lv_} {st : List PV_} {h : Hp_} {o : Nat} {a1 a2 : PV_} {Post : Option PV_ → Hp_ → Prop}, TOk K own cc nL ret (rmd (d + 1)) 108 → d' + 1 ≤ d + 1 → Ctr (mi m).1 (mi m).2.1 (mi m).2.2.1 (mi m).2.2.2 (rmd d') ly ly 0 0 [vR o, a1, a2] h Post → o < ly.1 → (sh o).1 = ci → lv.all (fun q => pok 108 q.2) = true → st.all (pok 108) = true → (st.map pcat).sum ≤ 8 → (∀ (r : Option PV_) (h' : Hp_), Post r h' → TT K ly 0 0 (pc + 3) lv (r.toList ++ st) h') → TT K ly 0 0 pc lv (a2 :: a1 :: vR o :: st) h) : Snd lo hi h0 mi own cc nL ret pc (i_cV2 m ci (pc + 3)) := by
  intro d K hK Post hQ k call hk hc lv st N h
  unfold i_cV2 at h
  split at h
  · rename_i a2 a1 o st'
    cases h1 : isC o ci
    · rw [h1] at h; exact False.elim h
    cases h2 : okC lv st'
    · rw [h1, h2] at h; exact False.elim h
    rw [h1, h2] at h
    simp only [cond_true] at h
    obtain ⟨r, N', e1, h3⟩ := goOn_e h
    obtain ⟨d', hd', hC⟩ := hc _ _ _ _ _ e1
    obtain ⟨h4, h5⟩ := isC_t h1
    obtain ⟨h6, h7, h8⟩ := okC_e h2
    refine G hK hd' hC h4 h5 h6 h7 h8 (fun r1 h9 hp => ?_)
    obtain ⟨rfl, rfl⟩ := hp
    exact hk _ _ _ _ h3
  · exact False.elim h
noncomputable def i_cS2 (m nx : Nat) : In_ := fun k call lv st N => match st with
  | a2 :: a1 :: st' => cond (okC lv st') (goOn (call m [a1, a2] N) k nx lv st') none
  | _ => none
theorem snd_cS2 {m : Nat} (G : ∀ {d d' : Nat} {K : TC_} {lv : Lv_} {st : List PV_} {h : Hp_} {a1 a2 : PV_} {Post : Option PV_ → Hp_ → Prop}, TOk K own cc nL ret (rmd (d + 1)) 108 → d' + 1 ≤ d + 1 → Ctr (mi m).1 (mi m).2.1 (mi m).2.2.1 (mi m).2.2.2 (rmd d') ly ly 0 0 [a1, a2] h Post → lv.all (fun q => pok 108 q.2) = true → st.all (pok 108) = true → (st.map pcat).sum ≤ 8 → (∀ (r : Option PV_) (h' : Hp_), Post r h' → TT K ly 0 0 (pc + 3) lv (r.toList ++ st) h') → TT K ly 0 0 pc lv (a2 :: a1 :: st) h) : Snd lo hi h0 mi own cc nL ret pc (i_cS2 m (pc + 3)) := by
  intro d K hK Post hQ k call hk hc lv st N h
  unfold i_cS2 at h
  split at h
  · rename_i a2 a1 st'
    cases h2 : okC lv st'
    · rw [h2] at h; exact False.elim h
    rw [h2] at h
    simp only [cond_true] at h
    obtain ⟨r, N', e1, h3⟩ := goOn_e h
    obtain ⟨d', hd', hC⟩ := hc _ _ _ _ _ e1
    obtain ⟨h6, h7, h8⟩ := okC_e h2
    refine G hK hd' hC h6 h7 h8 (fun r1 h9 hp => ?_)
    obtain ⟨rfl, rfl⟩ := hp
    exact hk _ _ _ _ h3
  · exact False.elim h
noncomputable def i_cV3 (m ci nx : Nat) : In_ := fun k call lv st N => match st with
  | a3 :: a2 :: a1 :: .inr (.inr (some o)) :: st' => cond (isC o ci) (cond (okC lv st') (goOn (call m [vR o, a1, a2, a3] N) k nx lv st') none) none
  | _ => none
theorem snd_cV3 {m ci : Nat} (G : ∀ {d d' : Nat} {K : TC_} {lv : Lv_} {st : List PV_} {h : Hp_} {o : Nat} {a1 a2 a3 : PV_} {Post : Option PV_ → Hp_ → Prop}, TOk K own cc nL ret (rmd (d + 1)) 108 → d' + 1 ≤ d + 1 → Ctr (mi m).1 (mi m).2.1 (mi m).2.2.1 (mi m).2.2.2 (rmd d') ly ly 0 0 [vR o, a1, a2, a3] h Post → o < ly.1 → (sh o).1 = ci → lv.all (fun q => pok 108 q.2) = true → st.all (pok 108) = true → (st.map pcat).sum ≤ 8 → (∀ (r : Option PV_) (h' : Hp_), Post r h' → TT K ly 0 0 (pc + 3) lv (r.toList ++ st) h') → TT K ly 0 0 pc lv (a3 :: a2 :: a1 :: vR o :: st) h) : Snd lo hi h0 mi own cc nL ret pc (i_cV3 m ci (pc + 3)) := by
  intro d K hK Post hQ k call hk hc lv st N h
  unfold i_cV3 at h
  split at h
  · rename_i a3 a2 a1 o st'
    cases h1 : isC o ci
    · rw [h1] at h; exact False.elim h
    cases h2 : okC lv st'
    · rw [h1, h2] at h; exact False.elim h
    rw [h1, h2] at h
    simp only [cond_true] at h
    obtain ⟨r, N', e1, h3⟩ := goOn_e h
    obtain ⟨d', hd', hC⟩ := hc _ _ _ _ _ e1
    obtain ⟨h4, h5⟩ := isC_t h1
    obtain ⟨h6, h7, h8⟩ := okC_e h2
    refine G hK hd' hC h4 h5 h6 h7 h8 (fun r1 h9 hp => ?_)
    obtain ⟨rfl, rfl⟩ := hp
    exact hk _ _ _ _ h3
  · exact False.elim h
noncomputable def i_cS3 (m nx : Nat) : In_ := fun k call lv st N => match st with
  | a3 :: a2 :: a1 :: st' => cond (okC lv st') (goOn (call m [a1, a2, a3] N) k nx lv st') none
  | _ => none
theorem snd_cS3 {m : Nat} (G : ∀ {d d' : Nat} {K : TC_} {lv : Lv_} {st : List PV_} {h : Hp_} {a1 a2 a3 : PV_} {Post : Option PV_ → Hp_ → Prop}, TOk K own cc nL ret (rmd (d + 1)) 108 → d' + 1 ≤ d + 1 → Ctr (mi m).1 (mi m).2.1 (mi m).2.2.1 (mi m).2.2.2 (rmd d') ly ly 0 0 [a1, a2, a3] h Post → lv.all (fun q => pok 108 q.2) = true → st.all (pok 108) = true → (st.map pcat).sum ≤ 8 → (∀ (r : Option PV_) (h' : Hp_), Post r h' → TT K ly 0 0 (pc + 3) lv (r.toList ++ st) h') → TT K ly 0 0 pc lv (a3 :: a2 :: a1 :: st) h) : Snd lo hi h0 mi own cc nL ret pc (i_cS3 m (pc + 3)) := by
  intro d K hK Post hQ k call hk hc lv st N h
  unfold i_cS3 at h
  split at h
  · rename_i a3 a2 a1 st'
    cases h2 : okC lv st'
    · rw [h2] at h; exact False.elim h
    rw [h2] at h
    simp only [cond_true] at h
    obtain ⟨r, N', e1, h3⟩ := goOn_e h
    obtain ⟨d', hd', hC⟩ := hc _ _ _ _ _ e1
    obtain ⟨h6, h7, h8⟩ := okC_e h2
    refine G hK hd' hC h6 h7 h8 (fun r1 h9 hp => ?_)
    obtain ⟨rfl, rfl⟩ := hp
    exact hk _ _ _ _ h3
  · exact False.elim h
noncomputable def i_cV4 (m ci nx : Nat) : In_ := fun k call lv st N => match st with
  | a4 :: a3 :: a2 :: a1 :: .inr (.inr (some o)) :: st' => cond (isC o ci) (cond (okC lv st') (goOn (call m [vR o, a1, a2, a3, a4] N) k nx lv st') none) none
  | _ => none
theorem snd_cV4 {m ci : Nat} (G : ∀ {d d' : Nat} {K : TC_} {lv : Lv_} {st : List PV_} {h : Hp_} {o : Nat} {a1 a2 a3 a4 : PV_} {Post : Option PV_ → Hp_ → Prop}, TOk K own cc nL ret (rmd (d + 1)) 108 → d' + 1 ≤ d + 1 → Ctr (mi m).1 (mi m).2.1 (mi m).2.2.1 (mi m).2.2.2 (rmd d') ly ly 0 0 [vR o, a1, a2, a3, a4] h Post → o < ly.1 → (sh o).1 = ci → lv.all (fun q => pok 108 q.2) = true → st.all (pok 108) = true → (st.map pcat).sum ≤ 8 → (∀ (r : Option PV_) (h' : Hp_), Post r h' → TT K ly 0 0 (pc + 3) lv (r.toList ++ st) h') → TT K ly 0 0 pc lv (a4 :: a3 :: a2 :: a1 :: vR o :: st) h) : Snd lo hi h0 mi own cc nL ret pc (i_cV4 m ci (pc + 3)) := by
  intro d K hK Post hQ k call hk hc lv st N h
  unfold i_cV4 at h
  split at h
  · rename_i a4 a3 a2 a1 o st'
    cases h1 : isC o ci
    · rw [h1] at h; exact False.elim h
    cases h2 : okC lv st'
    · rw [h1, h2] at h; exact False.elim h
    rw [h1, h2] at h
    simp only [cond_true] at h
    obtain ⟨r, N', e1, h3⟩ := goOn_e h
    obtain ⟨d', hd', hC⟩ := hc _ _ _ _ _ e1
    obtain ⟨h4, h5⟩ := isC_t h1
    obtain ⟨h6, h7, h8⟩ := okC_e h2
    refine G hK hd' hC h4 h5 h6 h7 h8 (fun r1 h9 hp => ?_)
    obtain ⟨rfl, rfl⟩ := hp
    exact hk _ _ _ _ h3
  · exact False.elim h
noncomputable def i_cS4 (m nx : Nat) : In_ := fun k call lv st N => match st with
  | a4 :: a3 :: a2 :: a1 :: st' => cond (okC lv st') (goOn (call m [a1, a2, a3, a4] N) k nx lv st') none
  | _ => none
theorem snd_cS4 {m : Nat} (G : ∀ {d d' : Nat} {K : TC_} {lv : Lv_} {st : List PV_} {h : Hp_} {a1 a2 a3 a4 : PV_} {Post : Option PV_ → Hp_ → Prop}, TOk K own cc nL ret (rmd (d + 1)) 108 → d' + 1 ≤ d + 1 → Ctr (mi m).1 (mi m).2.1 (mi m).2.2.1 (mi m).2.2.2 (rmd d') ly ly 0 0 [a1, a2, a3, a4] h Post → lv.all (fun q => pok 108 q.2) = true → st.all (pok 108) = true → (st.map pcat).sum ≤ 8 → (∀ (r : Option PV_) (h' : Hp_), Post r h' → TT K ly 0 0 (pc + 3) lv (r.toList ++ st) h') → TT K ly 0 0 pc lv (a4 :: a3 :: a2 :: a1 :: st) h) : Snd lo hi h0 mi own cc nL ret pc (i_cS4 m (pc + 3)) := by
  intro d K hK Post hQ k call hk hc lv st N h
  unfold i_cS4 at h
  split at h
  · rename_i a4 a3 a2 a1 st'
    cases h2 : okC lv st'
    · rw [h2] at h; exact False.elim h
    rw [h2] at h
    simp only [cond_true] at h
    obtain ⟨r, N', e1, h3⟩ := goOn_e h
    obtain ⟨d', hd', hC⟩ := hc _ _ _ _ _ e1
    obtain ⟨h6, h7, h8⟩ := okC_e h2
    refine G hK hd' hC h6 h7 h8 (fun r1 h9 hp => ?_)
    obtain ⟨rfl, rfl⟩ := hp
    exact hk _ _ _ _ h3
  · exact False.elim h
noncomputable def i_cV5 (m ci nx : Nat) : In_ := fun k call lv st N => match st with
  | a5 :: a4 :: a3 :: a2 :: a1 :: .inr (.inr (some o)) :: st' => cond (isC o ci) (cond (okC lv st') (goOn (call m [vR o, a1, a2, a3, a4, a5] N) k nx lv st') none) none
  | _ => none
theorem snd_cV5 {m ci : Nat} (G : ∀ {d d' : Nat} {K : TC_} {lv : Lv_} {st : List PV_} {h : Hp_} {o : Nat} {a1 a2 a3 a4 a5 : PV_} {Post : Option PV_ → Hp_ → Prop}, TOk K own cc nL ret (rmd (d + 1)) 108 → d' + 1 ≤ d + 1 → Ctr (mi m).1 (mi m).2.1 (mi m).2.2.1 (mi m).2.2.2 (rmd d') ly ly 0 0 [vR o, a1, a2, a3, a4, a5] h Post → o < ly.1 → (sh o).1 = ci → lv.all (fun q => pok 108 q.2) = true → st.all (pok 108) = true → (st.map pcat).sum ≤ 8 → (∀ (r : Option PV_) (h' : Hp_), Post r h' → TT K ly 0 0 (pc + 3) lv (r.toList ++ st) h') → TT K ly 0 0 pc lv (a5 :: a4 :: a3 :: a2 :: a1 :: vR o :: st) h) : Snd lo hi h0 mi own cc nL ret pc (i_cV5 m ci (pc + 3)) := by
  intro d K hK Post hQ k call hk hc lv st N h
  unfold i_cV5 at h
  split at h
  · rename_i a5 a4 a3 a2 a1 o st'
    cases h1 : isC o ci
    · rw [h1] at h; exact False.elim h
    cases h2 : okC lv st'
    · rw [h1, h2] at h; exact False.elim h
    rw [h1, h2] at h
    simp only [cond_true] at h
    obtain ⟨r, N', e1, h3⟩ := goOn_e h
    obtain ⟨d', hd', hC⟩ := hc _ _ _ _ _ e1
    obtain ⟨h4, h5⟩ := isC_t h1
    obtain ⟨h6, h7, h8⟩ := okC_e h2
    refine G hK hd' hC h4 h5 h6 h7 h8 (fun r1 h9 hp => ?_)
    obtain ⟨rfl, rfl⟩ := hp
    exact hk _ _ _ _ h3
  · exact False.elim h
noncomputable def i_cS5 (m nx : Nat) : In_ := fun k call lv st N => match st with
  | a5 :: a4 :: a3 :: a2 :: a1 :: st' => cond (okC lv st') (goOn (call m [a1, a2, a3, a4, a5] N) k nx lv st') none
  | _ => none
theorem snd_cS5 {m : Nat} (G : ∀ {d d' : Nat} {K : TC_} {lv : Lv_} {st : List PV_} {h : Hp_} {a1 a2 a3 a4 a5 : PV_} {Post : Option PV_ → Hp_ → Prop}, TOk K own cc nL ret (rmd (d + 1)) 108 → d' + 1 ≤ d + 1 → Ctr (mi m).1 (mi m).2.1 (mi m).2.2.1 (mi m).2.2.2 (rmd d') ly ly 0 0 [a1, a2, a3, a4, a5] h Post → lv.all (fun q => pok 108 q.2) = true → st.all (pok 108) = true → (st.map pcat).sum ≤ 8 → (∀ (r : Option PV_) (h' : Hp_), Post r h' → TT K ly 0 0 (pc + 3) lv (r.toList ++ st) h') → TT K ly 0 0 pc lv (a5 :: a4 :: a3 :: a2 :: a1 :: st) h) : Snd lo hi h0 mi own cc nL ret pc (i_cS5 m (pc + 3)) := by
  intro d K hK Post hQ k call hk hc lv st N h
  unfold i_cS5 at h
  split at h
  · rename_i a5 a4 a3 a2 a1 st'
    cases h2 : okC lv st'
    · rw [h2] at h; exact False.elim h
    rw [h2] at h
    simp only [cond_true] at h
    obtain ⟨r, N', e1, h3⟩ := goOn_e h
    obtain ⟨d', hd', hC⟩ := hc _ _ _ _ _ e1
    obtain ⟨h6, h7, h8⟩ := okC_e h2
    refine G hK hd' hC h6 h7 h8 (fun r1 h9 hp => ?_)
    obtain ⟨rfl, rfl⟩ := hp
    exact hk _ _ _ _ h3
  · exact False.elim h
noncomputable def i_cV6 (m ci nx : Nat) : In_ := fun k call lv st N => match st with
  | a6 :: a5 :: a4 :: a3 :: a2 :: a1 :: .inr (.inr (some o)) :: st' => cond (isC o ci) (cond (okC lv st') (goOn (call m [vR o, a1, a2, a3, a4, a5, a6] N) k nx lv st') none) none
  | _ => none
theorem snd_cV6 {m ci : Nat} (G : ∀ {d d' : Nat} {K : TC_} {lv : Lv_} {st : List PV_} {h : Hp_} {o : Nat} {a1 a2 a3 a4 a5 a6 : PV_} {Post : Option PV_ → Hp_ → Prop}, TOk K own cc nL ret (rmd (d + 1)) 108 → d' + 1 ≤ d + 1 → Ctr (mi m).1 (mi m).2.1 (mi m).2.2.1 (mi m).2.2.2 (rmd d') ly ly 0 0 [vR o, a1, a2, a3, a4, a5, a6] h Post → o < ly.1 → (sh o).1 = ci → lv.all (fun q => pok 108 q.2) = true → st.all (pok 108) = true → (st.map pcat).sum ≤ 8 → (∀ (r : Option PV_) (h' : Hp_), Post r h' → TT K ly 0 0 (pc + 3) lv (r.toList ++ st) h') → TT K ly 0 0 pc lv (a6 :: a5 :: a4 :: a3 :: a2 :: a1 :: vR o :: st) h) : Snd lo hi h0 mi own cc nL ret pc (i_cV6 m ci (pc + 3)) := by
  intro d K hK Post hQ k call hk hc lv st N h
  unfold i_cV6 at h
  split at h
  · rename_i a6 a5 a4 a3 a2 a1 o st'
    cases h1 : isC o ci
    · rw [h1] at h; exact False.elim h
    cases h2 : okC lv st'
    · rw [h1, h2] at h; exact False.elim h
    rw [h1, h2] at h
    simp only [cond_true] at h
    obtain ⟨r, N', e1, h3⟩ := goOn_e h
    obtain ⟨d', hd', hC⟩ := hc _ _ _ _ _ e1
    obtain ⟨h4, h5⟩ := isC_t h1
    obtain ⟨h6, h7, h8⟩ := okC_e h2
    refine G hK hd' hC h4 h5 h6 h7 h8 (fun r1 h9 hp => ?_)
    obtain ⟨rfl, rfl⟩ := hp
    exact hk _ _ _ _ h3
  · exact False.elim h
noncomputable def i_cS6 (m nx : Nat) : In_ := fun k call lv st N => match st with
  | a6 :: a5 :: a4 :: a3 :: a2 :: a1 :: st' => cond (okC lv st') (goOn (call m [a1, a2, a3, a4, a5, a6] N) k nx lv st') none
  | _ => none
theorem snd_cS6 {m : Nat} (G : ∀ {d d' : Nat} {K : TC_} {lv : Lv_} {st : List PV_} {h : Hp_} {a1 a2 a3 a4 a5 a6 : PV_} {Post : Option PV_ → Hp_ → Prop}, TOk K own cc nL ret (rmd (d + 1)) 108 → d' + 1 ≤ d + 1 → Ctr (mi m).1 (mi m).2.1 (mi m).2.2.1 (mi m).2.2.2 (rmd d') ly ly 0 0 [a1, a2, a3, a4, a5, a6] h Post → lv.all (fun q => pok 108 q.2) = true → st.all (pok 108) = true → (st.map pcat).sum ≤ 8 → (∀ (r : Option PV_) (h' : Hp_), Post r h' → TT K ly 0 0 (pc + 3) lv (r.toList ++ st) h') → TT K ly 0 0 pc lv (a6 :: a5 :: a4 :: a3 :: a2 :: a1 :: st) h) : Snd lo hi h0 mi own cc nL ret pc (i_cS6 m (pc + 3)) := by
  intro d K hK Post hQ k call hk hc lv st N h
  unfold i_cS6 at h
  split at h
  · rename_i a6 a5 a4 a3 a2 a1 st'
    cases h2 : okC lv st'
    · rw [h2] at h; exact False.elim h
    rw [h2] at h
    simp only [cond_true] at h
    obtain ⟨r, N', e1, h3⟩ := goOn_e h
    obtain ⟨d', hd', hC⟩ := hc _ _ _ _ _ e1
    obtain ⟨h6, h7, h8⟩ := okC_e h2
    refine G hK hd' hC h6 h7 h8 (fun r1 h9 hp => ?_)
    obtain ⟨rfl, rfl⟩ := hp
    exact hk _ _ _ _ h3
  · exact False.elim h
noncomputable def i_cF2 (m7 m6 nx : Nat) : In_ := fun k call lv st N => match st with
  | a2 :: a1 :: .inr (.inr (some o)) :: st' => cond (okC lv st') (cond (isC o 7) (goOn (call m7 [vR o, a1, a2] N) k nx lv st') (cond (isC o 6) (goOn (call m6 [vR o, a1, a2] N) k nx lv st') none)) none
  | _ => none
theorem snd_cF2 {m7 m6 : Nat} (G7 : ∀ {d d' : Nat} {K : TC_} {lv : Lv_} {st : List PV_} {h : Hp_} {o : Nat} {a1 a2 : PV_} {Post : Option PV_ → Hp_ → Prop}, TOk K own cc nL ret (rmd (d + 1)) 108 → d' + 1 ≤ d + 1 → Ctr (mi m7).1 (mi m7).2.1 (mi m7).2.2.1 (mi m7).2.2.2 (rmd d') ly ly 0 0 [vR o, a1, a2] h Post → o < ly.1 → (sh o).1 = 7 → lv.all (fun q => pok 108 q.2) = true → st.all (pok 108) = true → (st.map pcat).sum ≤ 8 → (∀ (r : Option PV_) (h' : Hp_), Post r h' → TT K ly 0 0 (pc + 5) lv (r.toList ++ st) h') → TT K ly 0 0 pc lv (a2 :: a1 :: vR o :: st) h) (G6 : ∀ {d d' : Nat} {K : TC_} {lv : Lv_} {st : List PV_} {h : Hp_} {o : Nat} {a1 a2 : PV_} {Post : Option PV_ → Hp_ → Prop}, TOk K own cc nL ret (rmd (d + 1)) 108 → d' + 1 ≤ d + 1 → Ctr (mi m6).1 (mi m6).2.1 (mi m6).2.2.1 (mi m6).2.2.2 (rmd d') ly ly 0 0 [vR o, a1, a2] h Post → o < ly.1 → (sh o).1 = 6 → lv.all (fun q => pok 108 q.2) = true → st.all (pok 108) = true → (st.map pcat).sum ≤ 8 → (∀ (r : Option PV_) (h' : Hp_), Post r h' → TT K ly 0 0 (pc + 5) lv (r.toList ++ st) h') → TT K ly 0 0 pc lv (a2 :: a1 :: vR o :: st) h) : Snd lo hi h0 mi own cc nL ret pc (i_cF2 m7 m6 (pc + 5)) := by
  intro d K hK Post hQ k call hk hc lv st N h
  unfold i_cF2 at h
  split at h
  · rename_i a2 a1 o st'
    cases h2 : okC lv st'
    · rw [h2] at h; exact False.elim h
    rw [h2] at h
    simp only [cond_true] at h
    obtain ⟨h6, h7, h8⟩ := okC_e h2
    cases h1 : isC o 7
    · rw [h1] at h
      simp only [cond_false] at h
      clear h1
      cases h1 : isC o 6
      · rw [h1] at h; exact False.elim h
      rw [h1] at h
      simp only [cond_true] at h
      obtain ⟨r, N', e1, h3⟩ := goOn_e h
      obtain ⟨d', hd', hC⟩ := hc _ _ _ _ _ e1
      obtain ⟨h4, h5⟩ := isC_t h1
      refine G6 hK hd' hC h4 h5 h6 h7 h8 (fun r1 h9 hp => ?_)
      obtain ⟨rfl, rfl⟩ := hp
      exact hk _ _ _ _ h3
    · rw [h1] at h
      simp only [cond_true] at h
      obtain ⟨r, N', e1, h3⟩ := goOn_e h
      obtain ⟨d', hd', hC⟩ := hc _ _ _ _ _ e1
      obtain ⟨h4, h5⟩ := isC_t h1
      refine G7 hK hd' hC h4 h5 h6 h7 h8 (fun r1 h9 hp => ?_)
      obtain ⟨rfl, rfl⟩ := hp
      exact hk _ _ _ _ h3
  · exact False.elim h
end SN
/-! the reading of a method, and of the methods that it calls -/
abbrev CT_ : Type := Lean.RArray (Nat × In_)
noncomputable def ftch (t : CT_) (pc : Nat) : In_ := match Lean.RArray.get t pc with
  | (p0, f) => cond (Nat.beq p0 pc) f i_stop
noncomputable def lp (code : Nat → In_) (call : Cl_) (n : Nat) : Kt_ := Nat.rec (motive := fun _ => Kt_) (fun pc lv st N => some (.inr (pc, lv, st, N))) (fun _ ih => fun pc lv st N => code pc ih call lv st N) n
abbrev MC_ : Type := Lean.RArray (MI_ × CT_)
noncomputable def cl_ (T : MC_) (d : Nat) : Cl_ := Nat.rec (motive := fun _ => Cl_) (fun _ _ _ => none) (fun _ ih => fun m args N => match Lean.RArray.get T m with
  | (mi, ct) => cond (Nat.ble (catS args) mi.2.2.1) (match lp (ftch ct) ih 100000 0 (lvA 0 args) [] N with
    | some (.inl x) => some x
    | _ => none) none) d
noncomputable def raA {α : Type} (P : α → Prop) (t : Lean.RArray α) : Prop := Lean.RArray.rec (motive := fun _ => Prop) (fun x => P x) (fun _ _ _ a b => a ∧ b) t
theorem raA_get {α : Type} {P : α → Prop} {t : Lean.RArray α} (h : raA P t) (n : Nat) : P (t.get n) := by
  induction t with
  | leaf x => exact h
  | branch q l r ihl ihr =>
    have h2 : raA P l ∧ raA P r := h
    show P ((Nat.ble q n).rec (l.get n) (r.get n))
    cases Nat.ble q n
    · exact ihl h2.1
    · exact ihr h2.2
theorem raA_leaf {α : Type} {P : α → Prop} {x : α} (h : P x) : raA P (.leaf x) := h
theorem raA_br {α : Type} {P : α → Prop} {q : Nat} {l r : Lean.RArray α} (h1 : raA P l) (h2 : raA P r) : raA P (.branch q l r) := ⟨h1, h2⟩
def okI (lo hi : Nat) (h0 : Hp_) (mi : Nat → MI_) (x : MI_) (q : Nat × In_) : Prop := Snd lo hi h0 mi x.1.cls x.2.1 x.2.2.1 x.2.2.2 q.1 q.2
def okM (lo hi : Nat) (h0 : Hp_) (mi : Nat → MI_) (x : MI_ × CT_) : Prop := plainName x.1.1.cls = true ∧ raA (okI lo hi h0 mi x.1) x.2
theorem ftch_ok {lo hi : Nat} {h0 : Hp_} {mi : Nat → MI_} {x : MI_} {t : CT_} (h : raA (okI lo hi h0 mi x) t) (pc : Nat) : Snd lo hi h0 mi x.1.cls x.2.1 x.2.2.1 x.2.2.2 pc (ftch t pc) := by
  have h1 := raA_get h pc
  unfold ftch
  generalize Lean.RArray.get t pc = q at h1
  obtain ⟨p0, f⟩ := q
  show Snd lo hi h0 mi _ _ _ _ pc (cond (Nat.beq p0 pc) f i_stop)
  cases h2 : Nat.beq p0 pc
  · exact snd_stop
  · have := Nat.eq_of_beq_eq_true h2
    subst this
    exact h1
theorem lp_ok {lo hi : Nat} {h0 : Hp_} {mi : Nat → MI_} {x : MI_} {t : CT_} (ht : raA (okI lo hi h0 mi x) t) {d : Nat} {K : TC_} {Post : Option PV_ → Hp_ → Prop} {call : Cl_} (hK : TOk K x.1.cls x.2.1 x.2.2.1 x.2.2.2 (rmd (d + 1)) 108) (hQ : TQ K ly 0 0 Post) (hc : COk lo hi h0 mi (d + 1) call) : ∀ n pc lv st N, GD lo hi h0 K Post (lp (ftch t) call n pc lv st N) → TT K ly 0 0 pc lv st (tG lo hi h0 N) := by
  intro n
  induction n with
  | zero => intro pc lv st N h; exact h
  | succ n ih => intro pc lv st N h; exact ftch_ok ht pc d K hK Post hQ _ call ih hc lv st N h
noncomputable def miT (T : MC_) (m : Nat) : MI_ := (Lean.RArray.get T m).1
theorem cl_ok {lo hi : Nat} {h0 : Hp_} {T : MC_} (hT : raA (okM lo hi h0 (miT T)) T) (d : Nat) : COk lo hi h0 (miT T) (d + 1) (cl_ T d) := by
  induction d with
  | zero => intro m args N r N' h; exact absurd h (by simp [cl_])
  | succ d ih =>
    intro m args N r N' h
    refine ⟨d + 1, by omega, ?_⟩
    have h1 := raA_get hT m
    have e : cl_ T (d + 1) m args N = (match Lean.RArray.get T m with
      | (mi, ct) => cond (Nat.ble (catS args) mi.2.2.1) (match lp (ftch ct) (cl_ T d) 100000 0 (lvA 0 args) [] N with
        | some (.inl x) => some x
        | _ => none) none) := rfl
    rw [e] at h
    unfold CtrM miT
    generalize Lean.RArray.get T m = q at h h1
    obtain ⟨mi, ct⟩ := q
    obtain ⟨hy, hI⟩ := h1
    dsimp only at h hy hI ⊢
    cases h2 : Nat.ble (catS args) mi.2.2.1
    · rw [h2] at h; exact absurd h (by simp)
    rw [h2] at h
    simp only [cond_true] at h
    have h3 := Nat.le_of_ble_eq_true h2
    rw [catS_e] at h3
    refine Ctr_of hy h3 ⟨Nat.le_refl _, Nat.le_refl _⟩ (fun K hK hQ _ => ?_)
    refine lp_ok hI hK hQ ih 100000 0 (lvA 0 args) [] N ?_
    split at h
    · rename_i x hx
      rw [hx]
      have h4 := Option.some.inj h
      subst h4
      exact ⟨rfl, rfl⟩
    · exact absurd h (by simp)
theorem cl_ctr {lo hi : Nat} {h0 : Hp_} {T : MC_} (hT : raA (okM lo hi h0 (miT T)) T) {d m : Nat} {args : List PV_} {N : Nat} {r : Option PV_} {N' : Nat} (h : cl_ T d m args N = some (r, N')) : ∃ d', d' ≤ d ∧ CtrM lo hi h0 (miT T m) d' args N r N' := by
  obtain ⟨d', h1, h2⟩ := cl_ok hT d m args N r N' h
  exact ⟨d', by omega, h2⟩

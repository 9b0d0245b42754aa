/-! the law: its cases, its walk -/
theorem law_c0 {K : TC_} {b L kc ks : Nat} {xs : Nat → Int32} {hh0 : List (Nat × Nat × Nat × Nat)} {i : Int} {h : Hp_} (hK : TOk K RL code 7 ret room_1 0) (hX : TLX K b L xs) (hT : TH K hh0) (hL : L ≤ 256) (hi : 0 ≤ i ∧ i + 4 ≤ L) (hkc : kc + 1 ≤ 241) (hks : ks + 6 ≤ 30874) (hI : INV h) (J : ∀ kc' ks' h', INV h' → kc' ≤ kc + 1 → ks' ≤ ks + 6 → TT K ly kc' ks' 596 [(4, vI i), (0, vR 2000), (1, vR 0), (2, vR 73), (3, vR 107)] [] h') : TT K ly kc ks 108 [(4, vI i), (3, vR 107), (2, vR 73), (1, vR 0), (0, vR 2000)] [] h := by
  obtain ⟨hNI, hKI, hSI, hTI, hTY, hB8, hB45, hMI, hTB, hWH, hPX⟩ := id hI
  obtain ⟨a1, e1, r1⟩ : ∃ a : Int, (xs (i + 1).toNat).toInt = a ∧ (-2147483648 ≤ a ∧ a ≤ 2147483647) := ⟨_, rfl, by have := ir_of (xs (i + 1).toNat); exact ⟨this.1, by have := this.2; omega⟩⟩
  obtain ⟨a2, e2, r2⟩ : ∃ a : Int, (xs (i + 2).toNat).toInt = a ∧ (-2147483648 ≤ a ∧ a ≤ 2147483647) := ⟨_, rfl, by have := ir_of (xs (i + 2).toNat); exact ⟨this.1, by have := this.2; omega⟩⟩
  obtain ⟨a3, e3, r3⟩ : ∃ a : Int, (xs (i + 3).toNat).toInt = a ∧ (-2147483648 ≤ a ∧ a ≤ 2147483647) := ⟨_, rfl, by have := ir_of (xs (i + 3).toNat); exact ⟨this.1, by have := this.2; omega⟩⟩
  refine TT_aload_n hK rfl 3 rfl dL_law_108 ?_
  refine TT_aload_n hK rfl 4 rfl dL_law_109 ?_
  refine TT_iload hK 0 rfl dL_law_110 ?_
  refine TT_iconst hK dL_law_112 ?_
  refine TT_iadd hK dL_law_113 ?_
  refine TT_sld hK hX (by omega) (by omega) (by omega) dL_law_114 ?_
  rw [e1]
  refine TT_aload_n hK rfl 4 rfl dL_law_115 ?_
  refine TT_iload hK 0 rfl dL_law_116 ?_
  refine TT_iconst hK dL_law_118 ?_
  refine TT_iadd hK dL_law_119 ?_
  refine TT_sld hK hX (by omega) (by omega) (by omega) dL_law_120 ?_
  rw [e2]
  refine TT_callH hK hT (y := yL_picture) (hh := [(0, 6, 9, 13)]) (As := [vR 0, vI a1, vI a2]) (st := []) (n := 3) (w1 := ly) (mc := 1) (ms := 6) (hp_picture a1 a2 h hTY r1 r2) ⟨rfl, rfl⟩ ⟨by decide, by decide⟩ (gd_ (tb_3 1 rfl) rfl) ⟨by decide, by decide, by decide +kernel⟩ (List.forall_mem_cons.mpr ⟨(gd_ (tb_2 239 rfl) rfl), (List.forall_mem_cons.mpr ⟨(gd_ (tb_3 0 rfl) rfl), (List.forall_mem_cons.mpr ⟨(gd_ (tb_1 0 rfl) rfl), (fun _ z => absurd z List.not_mem_nil)⟩)⟩)⟩) rfl (Nat.zero_le _) rfl rfl (Nat.le_of_ble_eq_true rfl) ⟨by show kc + 1 ≤ 241; omega, by show ks + 6 ≤ 30874; omega⟩ dL_law_121 ?_
  intro r9 h1 hp9
  obtain ⟨z1, hr9, ⟨hT1, hF1⟩, q1⟩ := hp9
  rw [hr9]
  show TT K ly (kc + 1) (ks + 6) 124 [(4, vI i), (3, vR 107), (2, vR 73), (1, vR 0), (0, vR 2000)] [vI z1] h1
  refine TT_istore hK (by decide) rfl dL_law_124 ?_
  show TT K ly (kc + 1) (ks + 6) 126 [(5, vI z1), (4, vI i), (3, vR 107), (2, vR 73), (1, vR 0), (0, vR 2000)] [] h1
  refine TT_aload_n hK rfl 3 rfl dL_law_126 ?_
  refine TT_aload_n hK rfl 5 rfl dL_law_127 ?_
  refine TT_iload hK 1 rfl dL_law_128 ?_
  refine TT_iconst hK dL_law_130 ?_
  refine TT_iadd hK dL_law_131 ?_
  refine TT_sld hK hX (by omega) (by omega) (by omega) dL_law_132 ?_
  rw [e1]
  refine TT_aload_n hK rfl 5 rfl dL_law_133 ?_
  refine TT_iload hK 1 rfl dL_law_134 ?_
  refine TT_iconst hK dL_law_136 ?_
  refine TT_iadd hK dL_law_137 ?_
  refine TT_sld hK hX (by omega) (by omega) (by omega) dL_law_138 ?_
  rw [e2]
  refine iv_L_36 hK (s_rpicture_x a1 a2 h1 hT1 r1 r2) (by decide) rfl ⟨by decide, by decide⟩ (Nat.zero_le _) rfl rfl (Nat.le_of_ble_eq_true rfl) ⟨by show kc + 1 ≤ 241; omega, by show ks + 6 ≤ 30874; omega⟩ dL_law_139 ?_
  intro r9 h2 hp9
  obtain ⟨⟨hT2, hG2⟩, hr9, q2_1⟩ := hp9
  rw [hr9]
  show TT K ly (kc + 1) (ks + 6) 142 [(5, vI z1), (4, vI i), (3, vR 107), (2, vR 73), (1, vR 0), (0, vR 2000)] [] h2
  refine TT_goto hK (tgt := 596) dL_law_142 rfl ?_
  have fin7 : SIQ h2 := by
    unfold SIQ
    rw [show h2 5 = h 5 from ((hG2.1 5 (by decide)).trans (hF1 5 (by decide))), show h2 6 = h 6 from ((hG2.1 6 (by decide)).trans (hF1 6 (by decide))), show h2 100 = h 100 from ((hG2.1 100 (by decide)).trans (hF1 100 (by decide))), show h2 73 41 = h 73 41 from ((hG2.2 41 (by decide)).trans (congrFun (hF1 73 (by decide)) 41))]
    exact hSI
  have fin6 : TIQ h2 := by
    unfold TIQ
    rw [show h2 44 = h 44 from ((hG2.1 44 (by decide)).trans (hF1 44 (by decide))), show h2 61 = h 61 from ((hG2.1 61 (by decide)).trans (hF1 61 (by decide))), show h2 106 = h 106 from ((hG2.1 106 (by decide)).trans (hF1 106 (by decide))), show h2 73 55 = h 73 55 from ((hG2.2 55 (by decide)).trans (congrFun (hF1 73 (by decide)) 55))]
    exact hTI
  have f1 : h2 1 = h1 1 := hG2.1 1 (by decide)
  have f2 : h2 2 = h1 2 := hG2.1 2 (by decide)
  have f3 : h2 73 3 = h2 73 3 := rfl
  have f4 : h2 73 4 = h2 73 4 := rfl
  have f6 : h2 76 = h2 76 := rfl
  have g3 : h1 73 = h 73 := hF1 73 (by decide)
  have g6 : h1 76 = h 76 := hF1 76 (by decide)
  have fin : (h2 1 1 = h2 73 3 ∧ h2 1 2 = h2 73 4) ∧ ∀ j : Int, 0 ≤ j → j < 64 → h2 2 j = h2 76 j := by
    rw [f1, f2, f3, f4, f6]
    rcases q1 with ⟨c1, c2, c3, c4, c5⟩ | ⟨c1, c2, c3, c4⟩
    · rcases q2_1 with ⟨d1, d2, d3, d4, d5⟩ | ⟨d1, d2, -⟩
      · exact ⟨⟨by rw [c3, d3], by rw [c4, d4]⟩, fun j h0 h1 => by rw [c5 j h0 h1, d5 j h0 h1]⟩
      · exact absurd c2 d2
    · rcases q2_1 with ⟨d1, d2, -⟩ | ⟨d1, d2, d3, d4, d5⟩
      · exact absurd d2 c2
      · rw [d3, d4, d5, c3, c4, g3, g6]
        exact ⟨hWH, hPX⟩
  have hJ : INV h2 := ⟨(by unfold NIQ; rw [show h2 8 = h 8 from ((hG2.1 8 (by decide)).trans (hF1 8 (by decide))), show h2 9 = h 9 from ((hG2.1 9 (by decide)).trans (hF1 9 (by decide))), show h2 10 = h 10 from ((hG2.1 10 (by decide)).trans (hF1 10 (by decide))), show h2 11 = h 11 from ((hG2.1 11 (by decide)).trans (hF1 11 (by decide))), show h2 12 = h 12 from ((hG2.1 12 (by decide)).trans (hF1 12 (by decide))), show h2 13 = h 13 from ((hG2.1 13 (by decide)).trans (hF1 13 (by decide))), show h2 80 = h 80 from ((hG2.1 80 (by decide)).trans (hF1 80 (by decide))), show h2 81 = h 81 from ((hG2.1 81 (by decide)).trans (hF1 81 (by decide))), show h2 84 = h 84 from ((hG2.1 84 (by decide)).trans (hF1 84 (by decide))), show h2 85 = h 85 from ((hG2.1 85 (by decide)).trans (hF1 85 (by decide))), show h2 73 18 = h 73 18 from ((hG2.2 18 (by decide)).trans (congrFun (hF1 73 (by decide)) 18))]; exact hNI), (by unfold KIQ; rw [show h2 19 = h 19 from ((hG2.1 19 (by decide)).trans (hF1 19 (by decide))), show h2 92 = h 92 from ((hG2.1 92 (by decide)).trans (hF1 92 (by decide))), show h2 16 = h 16 from ((hG2.1 16 (by decide)).trans (hF1 16 (by decide))), show h2 83 = h 83 from ((hG2.1 83 (by decide)).trans (hF1 83 (by decide))), show h2 17 = h 17 from ((hG2.1 17 (by decide)).trans (hF1 17 (by decide))), show h2 18 = h 18 from ((hG2.1 18 (by decide)).trans (hF1 18 (by decide))), show h2 22 = h 22 from ((hG2.1 22 (by decide)).trans (hF1 22 (by decide))), show h2 23 = h 23 from ((hG2.1 23 (by decide)).trans (hF1 23 (by decide))), show h2 89 = h 89 from ((hG2.1 89 (by decide)).trans (hF1 89 (by decide))), show h2 90 = h 90 from ((hG2.1 90 (by decide)).trans (hF1 90 (by decide))), show h2 91 = h 91 from ((hG2.1 91 (by decide)).trans (hF1 91 (by decide))), show h2 73 18 = h 73 18 from ((hG2.2 18 (by decide)).trans (congrFun (hF1 73 (by decide)) 18))]; exact hKI), fin7, fin6, hT2, by rw [show h2 10 = h 10 from ((hG2.1 10 (by decide)).trans (hF1 10 (by decide))), show h2 12 = h 12 from ((hG2.1 12 (by decide)).trans (hF1 12 (by decide))), show h2 11 = h 11 from ((hG2.1 11 (by decide)).trans (hF1 11 (by decide))), show h2 13 = h 13 from ((hG2.1 13 (by decide)).trans (hF1 13 (by decide)))]; exact hB8, by rw [show h2 47 = h 47 from ((hG2.1 47 (by decide)).trans (hF1 47 (by decide))), show h2 49 = h 49 from ((hG2.1 49 (by decide)).trans (hF1 49 (by decide))), show h2 48 = h 48 from ((hG2.1 48 (by decide)).trans (hF1 48 (by decide))), show h2 50 = h 50 from ((hG2.1 50 (by decide)).trans (hF1 50 (by decide)))]; exact hB45, by rw [show h2 90 = h 90 from ((hG2.1 90 (by decide)).trans (hF1 90 (by decide))), show h2 91 = h 91 from ((hG2.1 91 (by decide)).trans (hF1 91 (by decide)))]; exact hMI, by rw [show h2 74 = h 74 from ((hG2.1 74 (by decide)).trans (hF1 74 (by decide))), show h2 75 = h 75 from ((hG2.1 75 (by decide)).trans (hF1 75 (by decide)))]; exact hTB, fin.1, fin.2⟩
  refine TT_sub [1, 5, 4, 3, 2] rfl ?_
  exact J _ _ _ hJ (by omega) (by omega)
theorem law_c1 {K : TC_} {b L kc ks : Nat} {xs : Nat → Int32} {hh0 : List (Nat × Nat × Nat × Nat)} {i : Int} {h : Hp_} (hK : TOk K RL code 7 ret room_1 0) (hX : TLX K b L xs) (hT : TH K hh0) (hL : L ≤ 256) (hi : 0 ≤ i ∧ i + 4 ≤ L) (hkc : kc + 1 ≤ 241) (hks : ks + 6 ≤ 30874) (hI : INV h) (J : ∀ kc' ks' h', INV h' → kc' ≤ kc + 1 → ks' ≤ ks + 6 → TT K ly kc' ks' 596 [(4, vI i), (0, vR 2000), (1, vR 0), (2, vR 73), (3, vR 107)] [] h') : TT K ly kc ks 145 [(4, vI i), (3, vR 107), (2, vR 73), (1, vR 0), (0, vR 2000)] [] h := by
  obtain ⟨hNI, hKI, hSI, hTI, hTY, hB8, hB45, hMI, hTB, hWH, hPX⟩ := id hI
  obtain ⟨a1, e1, r1⟩ : ∃ a : Int, (xs (i + 1).toNat).toInt = a ∧ (-2147483648 ≤ a ∧ a ≤ 2147483647) := ⟨_, rfl, by have := ir_of (xs (i + 1).toNat); exact ⟨this.1, by have := this.2; omega⟩⟩
  obtain ⟨a2, e2, r2⟩ : ∃ a : Int, (xs (i + 2).toNat).toInt = a ∧ (-2147483648 ≤ a ∧ a ≤ 2147483647) := ⟨_, rfl, by have := ir_of (xs (i + 2).toNat); exact ⟨this.1, by have := this.2; omega⟩⟩
  obtain ⟨a3, e3, r3⟩ : ∃ a : Int, (xs (i + 3).toNat).toInt = a ∧ (-2147483648 ≤ a ∧ a ≤ 2147483647) := ⟨_, rfl, by have := ir_of (xs (i + 3).toNat); exact ⟨this.1, by have := this.2; omega⟩⟩
  refine TT_aload_n hK rfl 3 rfl dL_law_145 ?_
  refine TT_aload_n hK rfl 4 rfl dL_law_146 ?_
  refine TT_iload hK 0 rfl dL_law_147 ?_
  refine TT_iconst hK dL_law_149 ?_
  refine TT_iadd hK dL_law_150 ?_
  refine TT_sld hK hX (by omega) (by omega) (by omega) dL_law_151 ?_
  rw [e1]
  refine TT_aload_n hK rfl 4 rfl dL_law_152 ?_
  refine TT_iload hK 0 rfl dL_law_153 ?_
  refine TT_iconst hK dL_law_155 ?_
  refine TT_iadd hK dL_law_156 ?_
  refine TT_sld hK hX (by omega) (by omega) (by omega) dL_law_157 ?_
  rw [e2]
  refine TT_aload_n hK rfl 4 rfl dL_law_158 ?_
  refine TT_iload hK 0 rfl dL_law_159 ?_
  refine TT_iconst hK dL_law_161 ?_
  refine TT_iadd hK dL_law_162 ?_
  refine TT_sld hK hX (by omega) (by omega) (by omega) dL_law_163 ?_
  rw [e3]
  refine TT_callH hK hT (y := yL_paint) (hh := [(0, 7, 10, 13)]) (As := [vR 0, vI a1, vI a2, vI a3]) (st := []) (n := 4) (w1 := ly) (mc := 1) (ms := 6) (hp_paint a1 a2 a3 h hTY r1 r2 r3) ⟨rfl, rfl⟩ ⟨by decide, by decide⟩ (gd_ (tb_3 78 rfl) rfl) ⟨by decide, by decide, by decide +kernel⟩ (List.forall_mem_cons.mpr ⟨(gd_ (tb_3 76 rfl) rfl), (List.forall_mem_cons.mpr ⟨(gd_ (tb_3 77 rfl) rfl), (List.forall_mem_cons.mpr ⟨(gd_ (tb_1 0 rfl) rfl), (fun _ z => absurd z List.not_mem_nil)⟩)⟩)⟩) rfl (Nat.zero_le _) rfl rfl (Nat.le_of_ble_eq_true rfl) ⟨by show kc + 1 ≤ 241; omega, by show ks + 6 ≤ 30874; omega⟩ dL_law_164 ?_
  intro r9 h1 hp9
  obtain ⟨z1, hr9, ⟨hT1, hF1⟩, q1⟩ := hp9
  rw [hr9]
  show TT K ly (kc + 1) (ks + 6) 167 [(4, vI i), (3, vR 107), (2, vR 73), (1, vR 0), (0, vR 2000)] [vI z1] h1
  refine TT_istore hK (by decide) rfl dL_law_167 ?_
  show TT K ly (kc + 1) (ks + 6) 169 [(5, vI z1), (4, vI i), (3, vR 107), (2, vR 73), (1, vR 0), (0, vR 2000)] [] h1
  refine TT_aload_n hK rfl 3 rfl dL_law_169 ?_
  refine TT_aload_n hK rfl 5 rfl dL_law_170 ?_
  refine TT_iload hK 1 rfl dL_law_171 ?_
  refine TT_iconst hK dL_law_173 ?_
  refine TT_iadd hK dL_law_174 ?_
  refine TT_sld hK hX (by omega) (by omega) (by omega) dL_law_175 ?_
  rw [e1]
  refine TT_aload_n hK rfl 5 rfl dL_law_176 ?_
  refine TT_iload hK 1 rfl dL_law_177 ?_
  refine TT_iconst hK dL_law_179 ?_
  refine TT_iadd hK dL_law_180 ?_
  refine TT_sld hK hX (by omega) (by omega) (by omega) dL_law_181 ?_
  rw [e2]
  refine TT_aload_n hK rfl 5 rfl dL_law_182 ?_
  refine TT_iload hK 1 rfl dL_law_183 ?_
  refine TT_iconst hK dL_law_185 ?_
  refine TT_iadd hK dL_law_186 ?_
  refine TT_sld hK hX (by omega) (by omega) (by omega) dL_law_187 ?_
  rw [e3]
  refine iv_L_40 hK (s_rpaint_x a1 a2 a3 h1 hT1 r1 r2 r3) (by decide) rfl ⟨by decide, by decide⟩ (Nat.zero_le _) rfl rfl (Nat.le_of_ble_eq_true rfl) ⟨by show kc + 1 ≤ 241; omega, by show ks + 6 ≤ 30874; omega⟩ dL_law_188 ?_
  intro r9 h2 hp9
  obtain ⟨⟨hT2, hG2⟩, hr9, q2_1⟩ := hp9
  rw [hr9]
  show TT K ly (kc + 1) (ks + 6) 191 [(5, vI z1), (4, vI i), (3, vR 107), (2, vR 73), (1, vR 0), (0, vR 2000)] [] h2
  refine TT_goto hK (tgt := 596) dL_law_191 rfl ?_
  have fin7 : SIQ h2 := by
    unfold SIQ
    rw [show h2 5 = h 5 from ((hG2.1 5 (by decide)).trans (hF1 5 (by decide))), show h2 6 = h 6 from ((hG2.1 6 (by decide)).trans (hF1 6 (by decide))), show h2 100 = h 100 from ((hG2.1 100 (by decide)).trans (hF1 100 (by decide))), show h2 73 41 = h 73 41 from ((hG2.2 41 (by decide)).trans (congrFun (hF1 73 (by decide)) 41))]
    exact hSI
  have fin6 : TIQ h2 := by
    unfold TIQ
    rw [show h2 44 = h 44 from ((hG2.1 44 (by decide)).trans (hF1 44 (by decide))), show h2 61 = h 61 from ((hG2.1 61 (by decide)).trans (hF1 61 (by decide))), show h2 106 = h 106 from ((hG2.1 106 (by decide)).trans (hF1 106 (by decide))), show h2 73 55 = h 73 55 from ((hG2.2 55 (by decide)).trans (congrFun (hF1 73 (by decide)) 55))]
    exact hTI
  have f1 : h2 1 = h1 1 := hG2.1 1 (by decide)
  have f2 : h2 2 = h1 2 := hG2.1 2 (by decide)
  have f3 : h2 73 3 = h2 73 3 := rfl
  have f4 : h2 73 4 = h2 73 4 := rfl
  have f6 : h2 76 = h2 76 := rfl
  have g3 : h1 73 = h 73 := hF1 73 (by decide)
  have g6 : h1 76 = h 76 := hF1 76 (by decide)
  have fin : (h2 1 1 = h2 73 3 ∧ h2 1 2 = h2 73 4) ∧ ∀ j : Int, 0 ≤ j → j < 64 → h2 2 j = h2 76 j := by
    have k1 : h1 1 = h 1 := hF1 1 (by decide)
    have k3 : h2 73 3 = h 73 3 := (hG2.2 3 (by decide)).trans (congrFun g3 3)
    have k4 : h2 73 4 = h 73 4 := (hG2.2 4 (by decide)).trans (congrFun g3 4)
    have w1 : h1 73 3 = h 1 1 := by rw [g3]; exact hWH.1.symm
    have w2 : h1 73 4 = h 1 2 := by rw [g3]; exact hWH.2.symm
    rw [f1, f2, f3, f4, f6, k1, k3, k4]
    refine ⟨hWH, ?_⟩
    rcases q1 with ⟨c1, c2, c3⟩ | ⟨c1, c2, c3⟩
    · rcases q2_1 with ⟨d1, d2, d3⟩ | ⟨d1, d2, -⟩
      · intro j h0 h1
        rw [c3, d3, g6, Int.mul_comm 8 a2]
        by_cases e : j = a2 * 8 + a1
        · rw [e, fup_eq, fup_eq]
        · rw [fup_ne _ _ e, fup_ne _ _ e]
          exact hPX j h0 h1
      · exfalso; omega
    · rcases q2_1 with ⟨d1, d2, -⟩ | ⟨d1, d2, d3⟩
      · exfalso; omega
      · rw [c3, d3, g6]
        exact hPX
  have hJ : INV h2 := ⟨(by unfold NIQ; rw [show h2 8 = h 8 from ((hG2.1 8 (by decide)).trans (hF1 8 (by decide))), show h2 9 = h 9 from ((hG2.1 9 (by decide)).trans (hF1 9 (by decide))), show h2 10 = h 10 from ((hG2.1 10 (by decide)).trans (hF1 10 (by decide))), show h2 11 = h 11 from ((hG2.1 11 (by decide)).trans (hF1 11 (by decide))), show h2 12 = h 12 from ((hG2.1 12 (by decide)).trans (hF1 12 (by decide))), show h2 13 = h 13 from ((hG2.1 13 (by decide)).trans (hF1 13 (by decide))), show h2 80 = h 80 from ((hG2.1 80 (by decide)).trans (hF1 80 (by decide))), show h2 81 = h 81 from ((hG2.1 81 (by decide)).trans (hF1 81 (by decide))), show h2 84 = h 84 from ((hG2.1 84 (by decide)).trans (hF1 84 (by decide))), show h2 85 = h 85 from ((hG2.1 85 (by decide)).trans (hF1 85 (by decide))), show h2 73 18 = h 73 18 from ((hG2.2 18 (by decide)).trans (congrFun (hF1 73 (by decide)) 18))]; exact hNI), (by unfold KIQ; rw [show h2 19 = h 19 from ((hG2.1 19 (by decide)).trans (hF1 19 (by decide))), show h2 92 = h 92 from ((hG2.1 92 (by decide)).trans (hF1 92 (by decide))), show h2 16 = h 16 from ((hG2.1 16 (by decide)).trans (hF1 16 (by decide))), show h2 83 = h 83 from ((hG2.1 83 (by decide)).trans (hF1 83 (by decide))), show h2 17 = h 17 from ((hG2.1 17 (by decide)).trans (hF1 17 (by decide))), show h2 18 = h 18 from ((hG2.1 18 (by decide)).trans (hF1 18 (by decide))), show h2 22 = h 22 from ((hG2.1 22 (by decide)).trans (hF1 22 (by decide))), show h2 23 = h 23 from ((hG2.1 23 (by decide)).trans (hF1 23 (by decide))), show h2 89 = h 89 from ((hG2.1 89 (by decide)).trans (hF1 89 (by decide))), show h2 90 = h 90 from ((hG2.1 90 (by decide)).trans (hF1 90 (by decide))), show h2 91 = h 91 from ((hG2.1 91 (by decide)).trans (hF1 91 (by decide))), show h2 73 18 = h 73 18 from ((hG2.2 18 (by decide)).trans (congrFun (hF1 73 (by decide)) 18))]; exact hKI), fin7, fin6, hT2, by rw [show h2 10 = h 10 from ((hG2.1 10 (by decide)).trans (hF1 10 (by decide))), show h2 12 = h 12 from ((hG2.1 12 (by decide)).trans (hF1 12 (by decide))), show h2 11 = h 11 from ((hG2.1 11 (by decide)).trans (hF1 11 (by decide))), show h2 13 = h 13 from ((hG2.1 13 (by decide)).trans (hF1 13 (by decide)))]; exact hB8, by rw [show h2 47 = h 47 from ((hG2.1 47 (by decide)).trans (hF1 47 (by decide))), show h2 49 = h 49 from ((hG2.1 49 (by decide)).trans (hF1 49 (by decide))), show h2 48 = h 48 from ((hG2.1 48 (by decide)).trans (hF1 48 (by decide))), show h2 50 = h 50 from ((hG2.1 50 (by decide)).trans (hF1 50 (by decide)))]; exact hB45, by rw [show h2 90 = h 90 from ((hG2.1 90 (by decide)).trans (hF1 90 (by decide))), show h2 91 = h 91 from ((hG2.1 91 (by decide)).trans (hF1 91 (by decide)))]; exact hMI, by rw [show h2 74 = h 74 from ((hG2.1 74 (by decide)).trans (hF1 74 (by decide))), show h2 75 = h 75 from ((hG2.1 75 (by decide)).trans (hF1 75 (by decide)))]; exact hTB, fin.1, fin.2⟩
  refine TT_sub [1, 5, 4, 3, 2] rfl ?_
  exact J _ _ _ hJ (by omega) (by omega)
theorem law_c2 {K : TC_} {b L kc ks : Nat} {xs : Nat → Int32} {hh0 : List (Nat × Nat × Nat × Nat)} {i : Int} {h : Hp_} (hK : TOk K RL code 7 ret room_1 0) (hX : TLX K b L xs) (hT : TH K hh0) (hL : L ≤ 256) (hi : 0 ≤ i ∧ i + 4 ≤ L) (hkc : kc + 1 ≤ 241) (hks : ks + 6 ≤ 30874) (hI : INV h) (J : ∀ kc' ks' h', INV h' → kc' ≤ kc + 1 → ks' ≤ ks + 6 → TT K ly kc' ks' 596 [(4, vI i), (0, vR 2000), (1, vR 0), (2, vR 73), (3, vR 107)] [] h') : TT K ly kc ks 194 [(4, vI i), (3, vR 107), (2, vR 73), (1, vR 0), (0, vR 2000)] [] h := by
  obtain ⟨hNI, hKI, hSI, hTI, hTY, hB8, hB45, hMI, hTB, hWH, hPX⟩ := id hI
  obtain ⟨a1, e1, r1⟩ : ∃ a : Int, (xs (i + 1).toNat).toInt = a ∧ (-2147483648 ≤ a ∧ a ≤ 2147483647) := ⟨_, rfl, by have := ir_of (xs (i + 1).toNat); exact ⟨this.1, by have := this.2; omega⟩⟩
  obtain ⟨a2, e2, r2⟩ : ∃ a : Int, (xs (i + 2).toNat).toInt = a ∧ (-2147483648 ≤ a ∧ a ≤ 2147483647) := ⟨_, rfl, by have := ir_of (xs (i + 2).toNat); exact ⟨this.1, by have := this.2; omega⟩⟩
  obtain ⟨a3, e3, r3⟩ : ∃ a : Int, (xs (i + 3).toNat).toInt = a ∧ (-2147483648 ≤ a ∧ a ≤ 2147483647) := ⟨_, rfl, by have := ir_of (xs (i + 3).toNat); exact ⟨this.1, by have := this.2; omega⟩⟩
  refine TT_aload_n hK rfl 3 rfl dL_law_194 ?_
  refine TT_aload_n hK rfl 4 rfl dL_law_195 ?_
  refine TT_iload hK 0 rfl dL_law_196 ?_
  refine TT_iconst hK dL_law_198 ?_
  refine TT_iadd hK dL_law_199 ?_
  refine TT_sld hK hX (by omega) (by omega) (by omega) dL_law_200 ?_
  rw [e1]
  refine TT_aload_n hK rfl 4 rfl dL_law_201 ?_
  refine TT_iload hK 0 rfl dL_law_202 ?_
  refine TT_iconst hK dL_law_204 ?_
  refine TT_iadd hK dL_law_205 ?_
  refine TT_sld hK hX (by omega) (by omega) (by omega) dL_law_206 ?_
  rw [e2]
  refine iv_L_41 hK (s_X11_pixel_0 a1 a2 h hTY r1 r2) (by decide) rfl ⟨by decide, by decide⟩ (Nat.zero_le _) rfl rfl (Nat.le_of_ble_eq_true rfl) ⟨by show kc ≤ 241; omega, by show ks ≤ 30874; omega⟩ dL_law_207 ?_
  intro r9 h1 hp9
  obtain ⟨⟨hT1, hF1⟩, z1, hr9, hz1, q1_1⟩ := hp9
  rw [hr9]
  show TT K ly kc ks 210 [(4, vI i), (3, vR 107), (2, vR 73), (1, vR 0), (0, vR 2000)] [vI z1] h1
  refine TT_pop hK rfl dL_law_210 ?_
  show TT K ly kc ks 211 [(4, vI i), (3, vR 107), (2, vR 73), (1, vR 0), (0, vR 2000)] [] h1
  refine TT_aload_n hK rfl 2 rfl dL_law_211 ?_
  refine TT_aload_n hK rfl 4 rfl dL_law_212 ?_
  refine TT_iload hK 0 rfl dL_law_213 ?_
  refine TT_iconst hK dL_law_215 ?_
  refine TT_iadd hK dL_law_216 ?_
  refine TT_sld hK hX (by omega) (by omega) (by omega) dL_law_217 ?_
  rw [e1]
  refine TT_aload_n hK rfl 4 rfl dL_law_218 ?_
  refine TT_iload hK 0 rfl dL_law_219 ?_
  refine TT_iconst hK dL_law_221 ?_
  refine TT_iadd hK dL_law_222 ?_
  refine TT_sld hK hX (by omega) (by omega) (by omega) dL_law_223 ?_
  rw [e2]
  refine iv_L_44 hK (s_rpixel_x a1 a2 h1 hT1 r1 r2) (by decide) rfl ⟨by decide, by decide⟩ (Nat.zero_le _) rfl rfl (Nat.le_of_ble_eq_true rfl) ⟨by show kc ≤ 241; omega, by show ks ≤ 30874; omega⟩ dL_law_224 ?_
  intro r9 h2 hp9
  obtain ⟨⟨hT2, hG2⟩, z2, hr9, hz2, q2_1⟩ := hp9
  rw [hr9]
  show TT K ly kc ks 227 [(4, vI i), (3, vR 107), (2, vR 73), (1, vR 0), (0, vR 2000)] [vI z2] h2
  refine TT_pop hK rfl dL_law_227 ?_
  show TT K ly kc ks 228 [(4, vI i), (3, vR 107), (2, vR 73), (1, vR 0), (0, vR 2000)] [] h2
  refine TT_goto hK (tgt := 596) dL_law_228 rfl ?_
  have fin7 : SIQ h2 := by
    unfold SIQ
    rw [show h2 5 = h 5 from ((hG2.1 5 (by decide)).trans (hF1 5 (by decide))), show h2 6 = h 6 from ((hG2.1 6 (by decide)).trans (hF1 6 (by decide))), show h2 100 = h 100 from ((hG2.1 100 (by decide)).trans (hF1 100 (by decide))), show h2 73 41 = h 73 41 from ((hG2.2 41 (by decide)).trans (congrFun (hF1 73 (by decide)) 41))]
    exact hSI
  have fin6 : TIQ h2 := by
    unfold TIQ
    rw [show h2 44 = h 44 from ((hG2.1 44 (by decide)).trans (hF1 44 (by decide))), show h2 61 = h 61 from ((hG2.1 61 (by decide)).trans (hF1 61 (by decide))), show h2 106 = h 106 from ((hG2.1 106 (by decide)).trans (hF1 106 (by decide))), show h2 73 55 = h 73 55 from ((hG2.2 55 (by decide)).trans (congrFun (hF1 73 (by decide)) 55))]
    exact hTI
  have hJ : INV h2 := ⟨(by unfold NIQ; rw [show h2 8 = h 8 from ((hG2.1 8 (by decide)).trans (hF1 8 (by decide))), show h2 9 = h 9 from ((hG2.1 9 (by decide)).trans (hF1 9 (by decide))), show h2 10 = h 10 from ((hG2.1 10 (by decide)).trans (hF1 10 (by decide))), show h2 11 = h 11 from ((hG2.1 11 (by decide)).trans (hF1 11 (by decide))), show h2 12 = h 12 from ((hG2.1 12 (by decide)).trans (hF1 12 (by decide))), show h2 13 = h 13 from ((hG2.1 13 (by decide)).trans (hF1 13 (by decide))), show h2 80 = h 80 from ((hG2.1 80 (by decide)).trans (hF1 80 (by decide))), show h2 81 = h 81 from ((hG2.1 81 (by decide)).trans (hF1 81 (by decide))), show h2 84 = h 84 from ((hG2.1 84 (by decide)).trans (hF1 84 (by decide))), show h2 85 = h 85 from ((hG2.1 85 (by decide)).trans (hF1 85 (by decide))), show h2 73 18 = h 73 18 from ((hG2.2 18 (by decide)).trans (congrFun (hF1 73 (by decide)) 18))]; exact hNI), (by unfold KIQ; rw [show h2 19 = h 19 from ((hG2.1 19 (by decide)).trans (hF1 19 (by decide))), show h2 92 = h 92 from ((hG2.1 92 (by decide)).trans (hF1 92 (by decide))), show h2 16 = h 16 from ((hG2.1 16 (by decide)).trans (hF1 16 (by decide))), show h2 83 = h 83 from ((hG2.1 83 (by decide)).trans (hF1 83 (by decide))), show h2 17 = h 17 from ((hG2.1 17 (by decide)).trans (hF1 17 (by decide))), show h2 18 = h 18 from ((hG2.1 18 (by decide)).trans (hF1 18 (by decide))), show h2 22 = h 22 from ((hG2.1 22 (by decide)).trans (hF1 22 (by decide))), show h2 23 = h 23 from ((hG2.1 23 (by decide)).trans (hF1 23 (by decide))), show h2 89 = h 89 from ((hG2.1 89 (by decide)).trans (hF1 89 (by decide))), show h2 90 = h 90 from ((hG2.1 90 (by decide)).trans (hF1 90 (by decide))), show h2 91 = h 91 from ((hG2.1 91 (by decide)).trans (hF1 91 (by decide))), show h2 73 18 = h 73 18 from ((hG2.2 18 (by decide)).trans (congrFun (hF1 73 (by decide)) 18))]; exact hKI), fin7, fin6, hT2, by rw [show h2 10 = h 10 from ((hG2.1 10 (by decide)).trans (hF1 10 (by decide))), show h2 12 = h 12 from ((hG2.1 12 (by decide)).trans (hF1 12 (by decide))), show h2 11 = h 11 from ((hG2.1 11 (by decide)).trans (hF1 11 (by decide))), show h2 13 = h 13 from ((hG2.1 13 (by decide)).trans (hF1 13 (by decide)))]; exact hB8, by rw [show h2 47 = h 47 from ((hG2.1 47 (by decide)).trans (hF1 47 (by decide))), show h2 49 = h 49 from ((hG2.1 49 (by decide)).trans (hF1 49 (by decide))), show h2 48 = h 48 from ((hG2.1 48 (by decide)).trans (hF1 48 (by decide))), show h2 50 = h 50 from ((hG2.1 50 (by decide)).trans (hF1 50 (by decide)))]; exact hB45, by rw [show h2 90 = h 90 from ((hG2.1 90 (by decide)).trans (hF1 90 (by decide))), show h2 91 = h 91 from ((hG2.1 91 (by decide)).trans (hF1 91 (by decide)))]; exact hMI, by rw [show h2 74 = h 74 from ((hG2.1 74 (by decide)).trans (hF1 74 (by decide))), show h2 75 = h 75 from ((hG2.1 75 (by decide)).trans (hF1 75 (by decide)))]; exact hTB, ⟨by rw [(show h2 1 = h 1 from ((hG2.1 1 (by decide)).trans (hF1 1 (by decide)))), show h2 73 3 = h 73 3 from ((hG2.2 3 (by decide)).trans (congrFun (hF1 73 (by decide)) 3))]; exact hWH.1, by rw [(show h2 1 = h 1 from ((hG2.1 1 (by decide)).trans (hF1 1 (by decide)))), show h2 73 4 = h 73 4 from ((hG2.2 4 (by decide)).trans (congrFun (hF1 73 (by decide)) 4))]; exact hWH.2⟩, fun j h0 h1 => by rw [(show h2 2 = h 2 from ((hG2.1 2 (by decide)).trans (hF1 2 (by decide)))), (show h2 76 = h 76 from ((hG2.1 76 (by decide)).trans (hF1 76 (by decide))))]; exact hPX j h0 h1⟩
  refine TT_sub [0, 4, 3, 2, 1] rfl ?_
  exact J _ _ _ hJ (by omega) (by omega)
theorem law_c3 {K : TC_} {b L kc ks : Nat} {xs : Nat → Int32} {hh0 : List (Nat × Nat × Nat × Nat)} {i : Int} {h : Hp_} (hK : TOk K RL code 7 ret room_1 0) (hX : TLX K b L xs) (hT : TH K hh0) (hL : L ≤ 256) (hi : 0 ≤ i ∧ i + 4 ≤ L) (hkc : kc + 1 ≤ 241) (hks : ks + 6 ≤ 30874) (hI : INV h) (J : ∀ kc' ks' h', INV h' → kc' ≤ kc + 1 → ks' ≤ ks + 6 → TT K ly kc' ks' 596 [(4, vI i), (0, vR 2000), (1, vR 0), (2, vR 73), (3, vR 107)] [] h') : TT K ly kc ks 231 [(4, vI i), (3, vR 107), (2, vR 73), (1, vR 0), (0, vR 2000)] [] h := by
  obtain ⟨hNI, hKI, hSI, hTI, hTY, hB8, hB45, hMI, hTB, hWH, hPX⟩ := id hI
  obtain ⟨a1, e1, r1⟩ : ∃ a : Int, (xs (i + 1).toNat).toInt = a ∧ (-2147483648 ≤ a ∧ a ≤ 2147483647) := ⟨_, rfl, by have := ir_of (xs (i + 1).toNat); exact ⟨this.1, by have := this.2; omega⟩⟩
  obtain ⟨a2, e2, r2⟩ : ∃ a : Int, (xs (i + 2).toNat).toInt = a ∧ (-2147483648 ≤ a ∧ a ≤ 2147483647) := ⟨_, rfl, by have := ir_of (xs (i + 2).toNat); exact ⟨this.1, by have := this.2; omega⟩⟩
  obtain ⟨a3, e3, r3⟩ : ∃ a : Int, (xs (i + 3).toNat).toInt = a ∧ (-2147483648 ≤ a ∧ a ≤ 2147483647) := ⟨_, rfl, by have := ir_of (xs (i + 3).toNat); exact ⟨this.1, by have := this.2; omega⟩⟩
  refine TT_aload_n hK rfl 3 rfl dL_law_231 ?_
  refine TT_aload_n hK rfl 4 rfl dL_law_232 ?_
  refine TT_iload hK 0 rfl dL_law_233 ?_
  refine TT_iconst hK dL_law_235 ?_
  refine TT_iadd hK dL_law_236 ?_
  refine TT_sld hK hX (by omega) (by omega) (by omega) dL_law_237 ?_
  rw [e1]
  refine TT_aload_n hK rfl 4 rfl dL_law_238 ?_
  refine TT_iload hK 0 rfl dL_law_239 ?_
  refine TT_iconst hK dL_law_241 ?_
  refine TT_iadd hK dL_law_242 ?_
  refine TT_sld hK hX (by omega) (by omega) (by omega) dL_law_243 ?_
  rw [e2]
  refine TT_aload_n hK rfl 1 rfl dL_law_244 ?_
  have k3 := ty_73_3 (v := h 73 3) hTY rfl
  have k4 := ty_73_4 (v := h 73 4) hTY rfl
  have hsd : (1 ≤ h 1 1 ∧ h 1 1 ≤ 8) ∧ (1 ≤ h 1 2 ∧ h 1 2 ≤ 8) := by rw [hWH.1, hWH.2]; exact ⟨k3, k4⟩
  refine TT_callH hK hT (y := yL_encode) (hh := [(0, 10, 13, 13)]) (As := [vR 0, vI a1, vI a2, vR 107]) (st := []) (n := 4) (w1 := ly) (mc := 1) (ms := 6) (hp_encode a1 a2 h hTY r1 r2 hB8 hsd) ⟨rfl, rfl⟩ ⟨by decide, by decide⟩ (gd_ (tb_3 91 rfl) rfl) ⟨by decide, by decide, by decide +kernel⟩ (List.forall_mem_cons.mpr ⟨(gd_ (tb_3 89 rfl) rfl), (List.forall_mem_cons.mpr ⟨(gd_ (tb_3 90 rfl) rfl), (List.forall_mem_cons.mpr ⟨(gd_ (tb_1 0 rfl) rfl), (fun _ z => absurd z List.not_mem_nil)⟩)⟩)⟩) rfl (Nat.zero_le _) rfl rfl (Nat.le_of_ble_eq_true rfl) ⟨by show kc + 1 ≤ 241; omega, by show ks + 6 ≤ 30874; omega⟩ dL_law_245 ?_
  intro r9 h1 hp9
  obtain ⟨z1, hr9, ⟨hT1, hF1⟩, q1⟩ := hp9
  rw [hr9]
  show TT K ly (kc + 1) (ks + 6) 248 [(4, vI i), (3, vR 107), (2, vR 73), (1, vR 0), (0, vR 2000)] [vI z1] h1
  refine TT_istore hK (by decide) rfl dL_law_248 ?_
  show TT K ly (kc + 1) (ks + 6) 250 [(5, vI z1), (4, vI i), (3, vR 107), (2, vR 73), (1, vR 0), (0, vR 2000)] [] h1
  refine TT_aload_n hK rfl 3 rfl dL_law_250 ?_
  refine TT_aload_n hK rfl 5 rfl dL_law_251 ?_
  refine TT_iload hK 1 rfl dL_law_252 ?_
  refine TT_iconst hK dL_law_254 ?_
  refine TT_iadd hK dL_law_255 ?_
  refine TT_sld hK hX (by omega) (by omega) (by omega) dL_law_256 ?_
  rw [e1]
  refine TT_aload_n hK rfl 5 rfl dL_law_257 ?_
  refine TT_iload hK 1 rfl dL_law_258 ?_
  refine TT_iconst hK dL_law_260 ?_
  refine TT_iadd hK dL_law_261 ?_
  refine TT_sld hK hX (by omega) (by omega) (by omega) dL_law_262 ?_
  rw [e2]
  have w1 : h1 73 3 = h 1 1 := by rw [hF1 73 (by decide)]; exact hWH.1.symm
  have w2 : h1 73 4 = h 1 2 := by rw [hF1 73 (by decide)]; exact hWH.2.symm
  have p76 : h1 76 = h 76 := hF1 76 (by decide)
  have hN9 : ∀ c x y : Int, 0 ≤ a1 → a1 ≤ 3 → 0 ≤ c → c < 3 * a1 + 1 → 0 ≤ x → x < BW (h 1 1) a1 c → 0 ≤ y → y < BH (h 1 2) a1 c → NBE (h 1 1) (h 1 2) (fun i => h 2 i - 128) a1 c x y = NBE (h 1 1) (h 1 2) (fun i => h1 76 i - 128) a1 c x y := fun c x y l0 l1 c0 c1 x0 x1 y0 y1 => by
    have cx := CXr hsd.1 hsd.2 ⟨l0, l1⟩ c ⟨c0, c1⟩
    unfold NBE
    exact LE_cg hsd.1 hsd.2 ⟨l0, l1⟩ (fun i i0 i1 => by rw [p76, hPX i i0 i1]) (by omega) (by omega)
  obtain ⟨Mf, sf, hsf, hmf9, hE9⟩ := ENC_chL (V := (0 ≤ a1 ∧ a1 ≤ 3) ∧ (1 ≤ a2 ∧ a2 ≤ 3)) (fun v => v.1) hsd.1 hsd.2 hN9 (pl := h1 16) (cd := h1 23) (cs := h1 17) (cl := h1 18) (ll := h1 19) (fun v => by
    rcases q1.1 with ⟨c1, c2, c3, c4, c5, c6, c7, c8, cs9⟩ | ⟨c1, c2, -⟩
    · exact c8
    · exact absurd v c2)
  refine iv_L_48 hK (s_encode_s Mf sf a1 a2 h1 hT1 r1 r2 (by rw [(hF1 74 (by decide)), (hF1 75 (by decide))]; exact hTB) (by rw [(hF1 90 (by decide)), (hF1 91 (by decide))]; exact hMI) hsf (by rw [w1, w2]; exact hmf9)) (by decide) rfl ⟨by decide, by decide⟩ (Nat.zero_le _) rfl rfl (Nat.le_of_ble_eq_true rfl) ⟨by show kc + 1 ≤ 241; omega, by show ks + 6 ≤ 30874; omega⟩ dL_law_263 ?_
  intro r9 h2 hp9
  obtain ⟨⟨hT2, hG2⟩, z2, hr9, hz2, q2_1, q2_2, q2_3, q2_4, q2_5, q2_6, q2_7, q2_8, q2_9, q2_10, q2_11, q2_12⟩ := hp9
  rw [hr9]
  show TT K ly (kc + 1) (ks + 6) 266 [(5, vI z1), (4, vI i), (3, vR 107), (2, vR 73), (1, vR 0), (0, vR 2000)] [vI z2] h2
  refine TT_istore hK (by decide) rfl dL_law_266 ?_
  show TT K ly (kc + 1) (ks + 6) 268 [(6, vI z2), (5, vI z1), (4, vI i), (3, vR 107), (2, vR 73), (1, vR 0), (0, vR 2000)] [] h2
  refine TT_goto hK (tgt := 596) dL_law_268 rfl ?_
  have fin9 : NIQ h2 := by
    have g8 : h2 8 = h1 8 := hG2.1 8 (by decide)
    have g9 : h2 9 = h1 9 := hG2.1 9 (by decide)
    have g10 : h2 10 = h1 10 := hG2.1 10 (by decide)
    have g11 : h2 11 = h1 11 := hG2.1 11 (by decide)
    have g12 : h2 12 = h1 12 := hG2.1 12 (by decide)
    have g13 : h2 13 = h1 13 := hG2.1 13 (by decide)
    rw [w1, w2, p76] at q2_2
    unfold NIQ
    rw [g8, g9, g10, g11, g12, g13]
    rcases q1.1 with ⟨c1, c2, c3, c4, c5, c6, c7⟩ | ⟨c1, c2, c3, c4, c5, c6, c7, c8, c9⟩
    · obtain ⟨d1, d2, d3⟩ := q2_2 c2
      refine ⟨by rw [c3, d1], fun b k1 k2 => ?_⟩
      rw [d1] at k2
      have e80 := d2 b k1 k2
      have e12 := c4 b k1 k2
      refine ⟨e12.1.trans e80.1.symm, e12.2.trans e80.2.symm, fun x y m1 m2 m3 m4 => ?_⟩
      rw [e80.1] at m2
      rw [e80.2] at m4
      have cx := CXr hsd.1 hsd.2 c2.1 b ⟨k1, k2⟩
      rw [c5 b x y k1 k2 m1 m2 m3 m4, d3 b x y k1 k2 m1 m2 m3 m4]
      exact LE_cg hsd.1 hsd.2 c2.1 (fun i i0 i1 => by rw [hPX i i0 i1]) (by omega) (by omega)
    · obtain ⟨d1, d2, d3, d4, d5⟩ := q2_3 c2
      rw [c3, c4, c5, c6, c7, c8, d1, d2, d3, d4, d5, hF1 80 (by decide), hF1 81 (by decide), hF1 84 (by decide), hF1 85 (by decide), show h1 73 18 = h 73 18 from congrFun (hF1 73 (by decide)) 18]
      exact hNI
  have fin8 : KIQ h2 := by
    have q8 := q2_4
    have q6 := q2_6
    rw [w1, w2] at q8 q6
    unfold KIQ
    rw [show h2 16 = h1 16 from hG2.1 16 (by decide), show h2 19 = h1 19 from hG2.1 19 (by decide), show h2 17 = h1 17 from hG2.1 17 (by decide), show h2 18 = h1 18 from hG2.1 18 (by decide), show h2 22 = h1 22 from hG2.1 22 (by decide), show h2 23 = h1 23 from hG2.1 23 (by decide)]
    rcases q1.1 with ⟨c1, c2, c3, c4, c5, c6, c7, c8⟩ | ⟨c1, c2, c3, c4, c5, c6, c7, c8, c9, c10, c11, c12, c13, c14, cs9⟩
    · obtain ⟨d1, d2, d3⟩ := q2_2 c2
      intro c k1 k2
      rw [d1] at k2
      have e := ENC_eq (fun x y x0 x1 y0 y1 => hN9 c x y c2.1.1 c2.1.2 k1 k2 x0 x1 y0 y1) (c6 c k1 k2) (q8 c2 c k1 k2) (hsf c) (hE9 c2 c k1 k2).1.2
      exact ⟨⟨⟨e.2.1, e.2.2⟩, c7 c k1 k2⟩, e.1, LS_fin (hsf c) (hE9 c2 c k1 k2).1 e (hE9 c2 c k1 k2).2.1 (hE9 c2 c k1 k2).2.2 (q6 c2 c k1 k2).1 (q6 c2 c k1 k2).2⟩
    · obtain ⟨d1, d2, d3, d4, d5⟩ := q2_3 c2
      obtain ⟨f1, f2, f3, f4⟩ := q2_5 c2
      rw [c9, c10, c11, c12, c13, c14, d1, f1, f2, f3, f4, q2_7 c2, hF1 92 (by decide), hF1 83 (by decide), hF1 89 (by decide), hF1 90 (by decide), hF1 91 (by decide), show h1 73 18 = h 73 18 from congrFun (hF1 73 (by decide)) 18]
      exact hKI
  have str9 : ((0 ≤ a1 ∧ a1 ≤ 3) ∧ (1 ≤ a2 ∧ a2 ≤ 3)) → h1 5 1 = h2 73 41 ∧ ∀ j : Int, 0 ≤ j → j < h2 73 41 → h1 6 j = h2 100 j := by
    intro v9
    rcases q1.1 with ⟨c1, c2, c3, c4, c5, c6, c7, c8, c9, c10, c11⟩ | ⟨c1, c2, -⟩
    · have e18 : h2 73 18 = 3 * a1 + 1 := (q2_2 v9).1
      have lq9 := q2_9 v9
      have st9 := q2_8 v9
      rw [w1, w2] at st9
      refine ST_eq (D := (h1 16, h1 19, h1 12, h1 13, fun c i => h1 23 (h1 17 c + i))) (E := (h2 83, h2 92, h2 80, h2 81, fun c i => h2 89 (h2 90 c + i))) (cl := h2 91) (cnt := 3 * a1 + 1) (fun c k0 k1 => ?_) (DQS_i lq9.1 (fun c k0 k1 => ?_) (by omega) lq9.2 (fun j j0 j1 => (ty_92 (i := j) (v := h2 92 j) hT2 rfl j0 j1).1) v9.2.2) v9.1 v9.2 rfl c9 st9.1
      · have k := fin9.2 c k0 (by rw [e18]; exact k1)
        have m := fin8 c k0 (by rw [e18]; exact k1)
        rw [show h2 12 = h1 12 from hG2.1 12 (by decide), show h2 13 = h1 13 from hG2.1 13 (by decide)] at k
        rw [show h2 16 = h1 16 from hG2.1 16 (by decide), show h2 17 = h1 17 from hG2.1 17 (by decide), show h2 19 = h1 19 from hG2.1 19 (by decide), show h2 23 = h1 23 from hG2.1 23 (by decide)] at m
        exact ⟨m.2.1, k.1, k.2.1, m.2.2, m.1.1.2⟩
      · have r9 := ty_83 (i := c) (v := h2 83 c) hT2 rfl k0 (by omega)
        show 0 ≤ h2 83 c ∧ h2 83 c ≤ 12
        omega
    · exact absurd v9 c2
  have fin7 : SIQ h2 := by
    have g5 : h2 5 = h1 5 := hG2.1 5 (by decide)
    have g6 : h2 6 = h1 6 := hG2.1 6 (by decide)
    unfold SIQ
    rw [g5, g6]
    by_cases v9 : (0 ≤ a1 ∧ a1 ≤ 3) ∧ (1 ≤ a2 ∧ a2 ≤ 3)
    · exact str9 v9
    · rcases q1.1 with ⟨c1, c2, -⟩ | ⟨c1, c2, c3, c4, c5, c6, c7, c8, c9, c10, c11, c12, c13, c14, c15, c16⟩
      · exact absurd c2 v9
      · have d := q2_11 v9
        rw [c15, c16, d.1, d.2, hF1 100 (by decide), show h1 73 41 = h 73 41 from congrFun (hF1 73 (by decide)) 41]
        exact hSI
  have fin6 : TIQ h2 := by
    unfold TIQ
    rw [show h2 44 = h 44 from ((hG2.1 44 (by decide)).trans (hF1 44 (by decide))), show h2 61 = h 61 from ((hG2.1 61 (by decide)).trans (hF1 61 (by decide))), show h2 106 = h 106 from ((hG2.1 106 (by decide)).trans (hF1 106 (by decide))), show h2 73 55 = h 73 55 from ((hG2.2 55 (by decide)).trans (congrFun (hF1 73 (by decide)) 55))]
    exact hTI
  have hJ : INV h2 := ⟨fin9, fin8, fin7, fin6, hT2, by rw [(show h2 10 = h1 10 from hG2.1 10 (by decide)), (show h2 12 = h1 12 from hG2.1 12 (by decide)), (show h2 11 = h1 11 from hG2.1 11 (by decide)), (show h2 13 = h1 13 from hG2.1 13 (by decide))]; exact q1.2, by rw [show h2 47 = h 47 from ((hG2.1 47 (by decide)).trans (hF1 47 (by decide))), show h2 49 = h 49 from ((hG2.1 49 (by decide)).trans (hF1 49 (by decide))), show h2 48 = h 48 from ((hG2.1 48 (by decide)).trans (hF1 48 (by decide))), show h2 50 = h 50 from ((hG2.1 50 (by decide)).trans (hF1 50 (by decide)))]; exact hB45, q2_1, by rw [show h2 74 = h 74 from ((hG2.1 74 (by decide)).trans (hF1 74 (by decide))), show h2 75 = h 75 from ((hG2.1 75 (by decide)).trans (hF1 75 (by decide)))]; exact hTB, ⟨by rw [(show h2 1 = h 1 from ((hG2.1 1 (by decide)).trans (hF1 1 (by decide)))), show h2 73 3 = h 73 3 from ((hG2.2 3 (by decide)).trans (congrFun (hF1 73 (by decide)) 3))]; exact hWH.1, by rw [(show h2 1 = h 1 from ((hG2.1 1 (by decide)).trans (hF1 1 (by decide)))), show h2 73 4 = h 73 4 from ((hG2.2 4 (by decide)).trans (congrFun (hF1 73 (by decide)) 4))]; exact hWH.2⟩, fun j h0 h1 => by rw [(show h2 2 = h 2 from ((hG2.1 2 (by decide)).trans (hF1 2 (by decide)))), (show h2 76 = h 76 from ((hG2.1 76 (by decide)).trans (hF1 76 (by decide))))]; exact hPX j h0 h1⟩
  refine TT_sub [2, 6, 5, 4, 3] rfl ?_
  exact J _ _ _ hJ (by omega) (by omega)
theorem law_c4 {K : TC_} {b L kc ks : Nat} {xs : Nat → Int32} {hh0 : List (Nat × Nat × Nat × Nat)} {i : Int} {h : Hp_} (hK : TOk K RL code 7 ret room_1 0) (hX : TLX K b L xs) (hT : TH K hh0) (hL : L ≤ 256) (hi : 0 ≤ i ∧ i + 4 ≤ L) (hkc : kc + 1 ≤ 241) (hks : ks + 6 ≤ 30874) (hI : INV h) (J : ∀ kc' ks' h', INV h' → kc' ≤ kc + 1 → ks' ≤ ks + 6 → TT K ly kc' ks' 596 [(4, vI i), (0, vR 2000), (1, vR 0), (2, vR 73), (3, vR 107)] [] h') : TT K ly kc ks 271 [(4, vI i), (3, vR 107), (2, vR 73), (1, vR 0), (0, vR 2000)] [] h := by
  obtain ⟨hNI, hKI, hSI, hTI, hTY, hB8, hB45, hMI, hTB, hWH, hPX⟩ := id hI
  obtain ⟨a1, e1, r1⟩ : ∃ a : Int, (xs (i + 1).toNat).toInt = a ∧ (-2147483648 ≤ a ∧ a ≤ 2147483647) := ⟨_, rfl, by have := ir_of (xs (i + 1).toNat); exact ⟨this.1, by have := this.2; omega⟩⟩
  obtain ⟨a2, e2, r2⟩ : ∃ a : Int, (xs (i + 2).toNat).toInt = a ∧ (-2147483648 ≤ a ∧ a ≤ 2147483647) := ⟨_, rfl, by have := ir_of (xs (i + 2).toNat); exact ⟨this.1, by have := this.2; omega⟩⟩
  obtain ⟨a3, e3, r3⟩ : ∃ a : Int, (xs (i + 3).toNat).toInt = a ∧ (-2147483648 ≤ a ∧ a ≤ 2147483647) := ⟨_, rfl, by have := ir_of (xs (i + 3).toNat); exact ⟨this.1, by have := this.2; omega⟩⟩
  refine TT_aload_n hK rfl 3 rfl dL_law_271 ?_
  refine TT_aload_n hK rfl 4 rfl dL_law_272 ?_
  refine TT_iload hK 0 rfl dL_law_273 ?_
  refine TT_iconst hK dL_law_275 ?_
  refine TT_iadd hK dL_law_276 ?_
  refine TT_sld hK hX (by omega) (by omega) (by omega) dL_law_277 ?_
  rw [e1]
  refine iv_L_49 hK (s_cstream_e a1 h hTY r1) (by decide) rfl ⟨by decide, by decide⟩ (Nat.zero_le _) rfl rfl (Nat.le_of_ble_eq_true rfl) ⟨by show kc ≤ 241; omega, by show ks ≤ 30874; omega⟩ dL_law_278 ?_
  intro r9 h1 hp9
  obtain ⟨⟨hT1, hF1⟩, z1, hr9, hz1, q1_1⟩ := hp9
  rw [hr9]
  show TT K ly kc ks 281 [(4, vI i), (3, vR 107), (2, vR 73), (1, vR 0), (0, vR 2000)] [vI z1] h1
  refine TT_pop hK rfl dL_law_281 ?_
  show TT K ly kc ks 282 [(4, vI i), (3, vR 107), (2, vR 73), (1, vR 0), (0, vR 2000)] [] h1
  refine TT_aload_n hK rfl 2 rfl dL_law_282 ?_
  refine TT_aload_n hK rfl 4 rfl dL_law_283 ?_
  refine TT_iload hK 0 rfl dL_law_284 ?_
  refine TT_iconst hK dL_law_286 ?_
  refine TT_iadd hK dL_law_287 ?_
  refine TT_sld hK hX (by omega) (by omega) (by omega) dL_law_288 ?_
  rw [e1]
  refine iv_L_52 hK (s_stream_e a1 h1 hT1 r1) (by decide) rfl ⟨by decide, by decide⟩ (Nat.zero_le _) rfl rfl (Nat.le_of_ble_eq_true rfl) ⟨by show kc ≤ 241; omega, by show ks ≤ 30874; omega⟩ dL_law_289 ?_
  intro r9 h2 hp9
  obtain ⟨⟨hT2, hG2⟩, z2, hr9, hz2, q2_1⟩ := hp9
  rw [hr9]
  rw [hF1 100 (by decide), show h1 73 41 = h 73 41 from congrFun (hF1 73 (by decide)) 41] at q2_1
  show TT K ly kc ks 292 [(4, vI i), (3, vR 107), (2, vR 73), (1, vR 0), (0, vR 2000)] [vI z2] h2
  refine TT_pop hK rfl dL_law_292 ?_
  show TT K ly kc ks 293 [(4, vI i), (3, vR 107), (2, vR 73), (1, vR 0), (0, vR 2000)] [] h2
  refine TT_goto hK (tgt := 596) dL_law_293 rfl ?_
  have fin7 : SIQ h2 := by
    unfold SIQ
    rw [show h2 5 = h 5 from ((hG2.1 5 (by decide)).trans (hF1 5 (by decide))), show h2 6 = h 6 from ((hG2.1 6 (by decide)).trans (hF1 6 (by decide))), show h2 100 = h 100 from ((hG2.1 100 (by decide)).trans (hF1 100 (by decide))), show h2 73 41 = h 73 41 from ((hG2.2 41 (by decide)).trans (congrFun (hF1 73 (by decide)) 41))]
    exact hSI
  have fin6 : TIQ h2 := by
    unfold TIQ
    rw [show h2 44 = h 44 from ((hG2.1 44 (by decide)).trans (hF1 44 (by decide))), show h2 61 = h 61 from ((hG2.1 61 (by decide)).trans (hF1 61 (by decide))), show h2 106 = h 106 from ((hG2.1 106 (by decide)).trans (hF1 106 (by decide))), show h2 73 55 = h 73 55 from ((hG2.2 55 (by decide)).trans (congrFun (hF1 73 (by decide)) 55))]
    exact hTI
  have hJ : INV h2 := ⟨(by unfold NIQ; rw [show h2 8 = h 8 from ((hG2.1 8 (by decide)).trans (hF1 8 (by decide))), show h2 9 = h 9 from ((hG2.1 9 (by decide)).trans (hF1 9 (by decide))), show h2 10 = h 10 from ((hG2.1 10 (by decide)).trans (hF1 10 (by decide))), show h2 11 = h 11 from ((hG2.1 11 (by decide)).trans (hF1 11 (by decide))), show h2 12 = h 12 from ((hG2.1 12 (by decide)).trans (hF1 12 (by decide))), show h2 13 = h 13 from ((hG2.1 13 (by decide)).trans (hF1 13 (by decide))), show h2 80 = h 80 from ((hG2.1 80 (by decide)).trans (hF1 80 (by decide))), show h2 81 = h 81 from ((hG2.1 81 (by decide)).trans (hF1 81 (by decide))), show h2 84 = h 84 from ((hG2.1 84 (by decide)).trans (hF1 84 (by decide))), show h2 85 = h 85 from ((hG2.1 85 (by decide)).trans (hF1 85 (by decide))), show h2 73 18 = h 73 18 from ((hG2.2 18 (by decide)).trans (congrFun (hF1 73 (by decide)) 18))]; exact hNI), (by unfold KIQ; rw [show h2 19 = h 19 from ((hG2.1 19 (by decide)).trans (hF1 19 (by decide))), show h2 92 = h 92 from ((hG2.1 92 (by decide)).trans (hF1 92 (by decide))), show h2 16 = h 16 from ((hG2.1 16 (by decide)).trans (hF1 16 (by decide))), show h2 83 = h 83 from ((hG2.1 83 (by decide)).trans (hF1 83 (by decide))), show h2 17 = h 17 from ((hG2.1 17 (by decide)).trans (hF1 17 (by decide))), show h2 18 = h 18 from ((hG2.1 18 (by decide)).trans (hF1 18 (by decide))), show h2 22 = h 22 from ((hG2.1 22 (by decide)).trans (hF1 22 (by decide))), show h2 23 = h 23 from ((hG2.1 23 (by decide)).trans (hF1 23 (by decide))), show h2 89 = h 89 from ((hG2.1 89 (by decide)).trans (hF1 89 (by decide))), show h2 90 = h 90 from ((hG2.1 90 (by decide)).trans (hF1 90 (by decide))), show h2 91 = h 91 from ((hG2.1 91 (by decide)).trans (hF1 91 (by decide))), show h2 73 18 = h 73 18 from ((hG2.2 18 (by decide)).trans (congrFun (hF1 73 (by decide)) 18))]; exact hKI), fin7, fin6, hT2, by rw [show h2 10 = h 10 from ((hG2.1 10 (by decide)).trans (hF1 10 (by decide))), show h2 12 = h 12 from ((hG2.1 12 (by decide)).trans (hF1 12 (by decide))), show h2 11 = h 11 from ((hG2.1 11 (by decide)).trans (hF1 11 (by decide))), show h2 13 = h 13 from ((hG2.1 13 (by decide)).trans (hF1 13 (by decide)))]; exact hB8, by rw [show h2 47 = h 47 from ((hG2.1 47 (by decide)).trans (hF1 47 (by decide))), show h2 49 = h 49 from ((hG2.1 49 (by decide)).trans (hF1 49 (by decide))), show h2 48 = h 48 from ((hG2.1 48 (by decide)).trans (hF1 48 (by decide))), show h2 50 = h 50 from ((hG2.1 50 (by decide)).trans (hF1 50 (by decide)))]; exact hB45, by rw [show h2 90 = h 90 from ((hG2.1 90 (by decide)).trans (hF1 90 (by decide))), show h2 91 = h 91 from ((hG2.1 91 (by decide)).trans (hF1 91 (by decide)))]; exact hMI, by rw [show h2 74 = h 74 from ((hG2.1 74 (by decide)).trans (hF1 74 (by decide))), show h2 75 = h 75 from ((hG2.1 75 (by decide)).trans (hF1 75 (by decide)))]; exact hTB, ⟨by rw [(show h2 1 = h 1 from ((hG2.1 1 (by decide)).trans (hF1 1 (by decide)))), show h2 73 3 = h 73 3 from ((hG2.2 3 (by decide)).trans (congrFun (hF1 73 (by decide)) 3))]; exact hWH.1, by rw [(show h2 1 = h 1 from ((hG2.1 1 (by decide)).trans (hF1 1 (by decide)))), show h2 73 4 = h 73 4 from ((hG2.2 4 (by decide)).trans (congrFun (hF1 73 (by decide)) 4))]; exact hWH.2⟩, fun j h0 h1 => by rw [(show h2 2 = h 2 from ((hG2.1 2 (by decide)).trans (hF1 2 (by decide)))), (show h2 76 = h 76 from ((hG2.1 76 (by decide)).trans (hF1 76 (by decide))))]; exact hPX j h0 h1⟩
  refine TT_sub [0, 4, 3, 2, 1] rfl ?_
  exact J _ _ _ hJ (by omega) (by omega)
theorem law_c5 {K : TC_} {b L kc ks : Nat} {xs : Nat → Int32} {hh0 : List (Nat × Nat × Nat × Nat)} {i : Int} {h : Hp_} (hK : TOk K RL code 7 ret room_1 0) (hX : TLX K b L xs) (hT : TH K hh0) (hL : L ≤ 256) (hi : 0 ≤ i ∧ i + 4 ≤ L) (hkc : kc + 1 ≤ 241) (hks : ks + 6 ≤ 30874) (hI : INV h) (J : ∀ kc' ks' h', INV h' → kc' ≤ kc + 1 → ks' ≤ ks + 6 → TT K ly kc' ks' 596 [(4, vI i), (0, vR 2000), (1, vR 0), (2, vR 73), (3, vR 107)] [] h') : TT K ly kc ks 296 [(4, vI i), (3, vR 107), (2, vR 73), (1, vR 0), (0, vR 2000)] [] h := by
  obtain ⟨hNI, hKI, hSI, hTI, hTY, hB8, hB45, hMI, hTB, hWH, hPX⟩ := id hI
  obtain ⟨a1, e1, r1⟩ : ∃ a : Int, (xs (i + 1).toNat).toInt = a ∧ (-2147483648 ≤ a ∧ a ≤ 2147483647) := ⟨_, rfl, by have := ir_of (xs (i + 1).toNat); exact ⟨this.1, by have := this.2; omega⟩⟩
  obtain ⟨a2, e2, r2⟩ : ∃ a : Int, (xs (i + 2).toNat).toInt = a ∧ (-2147483648 ≤ a ∧ a ≤ 2147483647) := ⟨_, rfl, by have := ir_of (xs (i + 2).toNat); exact ⟨this.1, by have := this.2; omega⟩⟩
  obtain ⟨a3, e3, r3⟩ : ∃ a : Int, (xs (i + 3).toNat).toInt = a ∧ (-2147483648 ≤ a ∧ a ≤ 2147483647) := ⟨_, rfl, by have := ir_of (xs (i + 3).toNat); exact ⟨this.1, by have := this.2; omega⟩⟩
  refine TT_aload_n hK rfl 3 rfl dL_law_296 ?_
  refine TT_aload_n hK rfl 4 rfl dL_law_297 ?_
  refine TT_iload hK 0 rfl dL_law_298 ?_
  refine TT_iconst hK dL_law_300 ?_
  refine TT_iadd hK dL_law_301 ?_
  refine TT_sld hK hX (by omega) (by omega) (by omega) dL_law_302 ?_
  rw [e1]
  refine TT_aload_n hK rfl 4 rfl dL_law_303 ?_
  refine TT_iload hK 0 rfl dL_law_304 ?_
  refine TT_iconst hK dL_law_306 ?_
  refine TT_iadd hK dL_law_307 ?_
  refine TT_sld hK hX (by omega) (by omega) (by omega) dL_law_308 ?_
  rw [e2]
  refine iv_L_53 hK (s_cpoke_e a1 a2 h hTY r1 r2) (by decide) rfl ⟨by decide, by decide⟩ (Nat.zero_le _) rfl rfl (Nat.le_of_ble_eq_true rfl) ⟨by show kc ≤ 241; omega, by show ks ≤ 30874; omega⟩ dL_law_309 ?_
  intro r9 h1 hp9
  obtain ⟨⟨hT1, hF1⟩, z1, hr9, hz1, q1_1⟩ := hp9
  rw [hr9]
  show TT K ly kc ks 312 [(4, vI i), (3, vR 107), (2, vR 73), (1, vR 0), (0, vR 2000)] [vI z1] h1
  refine TT_pop hK rfl dL_law_312 ?_
  show TT K ly kc ks 313 [(4, vI i), (3, vR 107), (2, vR 73), (1, vR 0), (0, vR 2000)] [] h1
  refine TT_aload_n hK rfl 2 rfl dL_law_313 ?_
  refine TT_aload_n hK rfl 4 rfl dL_law_314 ?_
  refine TT_iload hK 0 rfl dL_law_315 ?_
  refine TT_iconst hK dL_law_317 ?_
  refine TT_iadd hK dL_law_318 ?_
  refine TT_sld hK hX (by omega) (by omega) (by omega) dL_law_319 ?_
  rw [e1]
  refine TT_aload_n hK rfl 4 rfl dL_law_320 ?_
  refine TT_iload hK 0 rfl dL_law_321 ?_
  refine TT_iconst hK dL_law_323 ?_
  refine TT_iadd hK dL_law_324 ?_
  refine TT_sld hK hX (by omega) (by omega) (by omega) dL_law_325 ?_
  rw [e2]
  refine iv_L_57 hK (s_poke_e a1 a2 h1 hT1 r1 r2) (by decide) rfl ⟨by decide, by decide⟩ (Nat.zero_le _) rfl rfl (Nat.le_of_ble_eq_true rfl) ⟨by show kc ≤ 241; omega, by show ks ≤ 30874; omega⟩ dL_law_326 ?_
  intro r9 h2 hp9
  obtain ⟨⟨hT2, hG2⟩, z2, hr9, hz2, q2_1⟩ := hp9
  rw [hr9]
  rw [hF1 100 (by decide), show h1 73 41 = h 73 41 from congrFun (hF1 73 (by decide)) 41] at q2_1
  show TT K ly kc ks 329 [(4, vI i), (3, vR 107), (2, vR 73), (1, vR 0), (0, vR 2000)] [vI z2] h2
  refine TT_pop hK rfl dL_law_329 ?_
  show TT K ly kc ks 330 [(4, vI i), (3, vR 107), (2, vR 73), (1, vR 0), (0, vR 2000)] [] h2
  refine TT_goto hK (tgt := 596) dL_law_330 rfl ?_
  have fin7 : SIQ h2 := by
    have e5 : h2 5 = h 5 := ((hG2.1 5 (by decide)).trans (hF1 5 (by decide)))
    have e41 : h2 73 41 = h 73 41 := ((hG2.2 41 (by decide)).trans (congrFun (hF1 73 (by decide)) 41))
    have g6 : h2 6 = h1 6 := hG2.1 6 (by decide)
    refine ⟨by rw [e5, e41]; exact hSI.1, fun j j0 j1 => ?_⟩
    rw [e41] at j1
    rw [g6]
    by_cases c : (0 ≤ a1 ∧ a1 < h 73 41) ∧ (0 ≤ a2 ∧ a2 ≤ 255)
    · rw [(q1_1.1 (by rw [hSI.1]; exact c)).2, (q2_1.1 c).2]
      by_cases e : j = a1
      · rw [e, fup_eq, fup_eq]
      · rw [fup_ne _ _ e, fup_ne _ _ e]
        exact hSI.2 j j0 j1
    · rw [(q1_1.2 (by rw [hSI.1]; exact c)).2, (q2_1.2 c).2]
      exact hSI.2 j j0 j1
  have fin6 : TIQ h2 := by
    unfold TIQ
    rw [show h2 44 = h 44 from ((hG2.1 44 (by decide)).trans (hF1 44 (by decide))), show h2 61 = h 61 from ((hG2.1 61 (by decide)).trans (hF1 61 (by decide))), show h2 106 = h 106 from ((hG2.1 106 (by decide)).trans (hF1 106 (by decide))), show h2 73 55 = h 73 55 from ((hG2.2 55 (by decide)).trans (congrFun (hF1 73 (by decide)) 55))]
    exact hTI
  have hJ : INV h2 := ⟨(by unfold NIQ; rw [show h2 8 = h 8 from ((hG2.1 8 (by decide)).trans (hF1 8 (by decide))), show h2 9 = h 9 from ((hG2.1 9 (by decide)).trans (hF1 9 (by decide))), show h2 10 = h 10 from ((hG2.1 10 (by decide)).trans (hF1 10 (by decide))), show h2 11 = h 11 from ((hG2.1 11 (by decide)).trans (hF1 11 (by decide))), show h2 12 = h 12 from ((hG2.1 12 (by decide)).trans (hF1 12 (by decide))), show h2 13 = h 13 from ((hG2.1 13 (by decide)).trans (hF1 13 (by decide))), show h2 80 = h 80 from ((hG2.1 80 (by decide)).trans (hF1 80 (by decide))), show h2 81 = h 81 from ((hG2.1 81 (by decide)).trans (hF1 81 (by decide))), show h2 84 = h 84 from ((hG2.1 84 (by decide)).trans (hF1 84 (by decide))), show h2 85 = h 85 from ((hG2.1 85 (by decide)).trans (hF1 85 (by decide))), show h2 73 18 = h 73 18 from ((hG2.2 18 (by decide)).trans (congrFun (hF1 73 (by decide)) 18))]; exact hNI), (by unfold KIQ; rw [show h2 19 = h 19 from ((hG2.1 19 (by decide)).trans (hF1 19 (by decide))), show h2 92 = h 92 from ((hG2.1 92 (by decide)).trans (hF1 92 (by decide))), show h2 16 = h 16 from ((hG2.1 16 (by decide)).trans (hF1 16 (by decide))), show h2 83 = h 83 from ((hG2.1 83 (by decide)).trans (hF1 83 (by decide))), show h2 17 = h 17 from ((hG2.1 17 (by decide)).trans (hF1 17 (by decide))), show h2 18 = h 18 from ((hG2.1 18 (by decide)).trans (hF1 18 (by decide))), show h2 22 = h 22 from ((hG2.1 22 (by decide)).trans (hF1 22 (by decide))), show h2 23 = h 23 from ((hG2.1 23 (by decide)).trans (hF1 23 (by decide))), show h2 89 = h 89 from ((hG2.1 89 (by decide)).trans (hF1 89 (by decide))), show h2 90 = h 90 from ((hG2.1 90 (by decide)).trans (hF1 90 (by decide))), show h2 91 = h 91 from ((hG2.1 91 (by decide)).trans (hF1 91 (by decide))), show h2 73 18 = h 73 18 from ((hG2.2 18 (by decide)).trans (congrFun (hF1 73 (by decide)) 18))]; exact hKI), fin7, fin6, hT2, by rw [show h2 10 = h 10 from ((hG2.1 10 (by decide)).trans (hF1 10 (by decide))), show h2 12 = h 12 from ((hG2.1 12 (by decide)).trans (hF1 12 (by decide))), show h2 11 = h 11 from ((hG2.1 11 (by decide)).trans (hF1 11 (by decide))), show h2 13 = h 13 from ((hG2.1 13 (by decide)).trans (hF1 13 (by decide)))]; exact hB8, by rw [show h2 47 = h 47 from ((hG2.1 47 (by decide)).trans (hF1 47 (by decide))), show h2 49 = h 49 from ((hG2.1 49 (by decide)).trans (hF1 49 (by decide))), show h2 48 = h 48 from ((hG2.1 48 (by decide)).trans (hF1 48 (by decide))), show h2 50 = h 50 from ((hG2.1 50 (by decide)).trans (hF1 50 (by decide)))]; exact hB45, by rw [show h2 90 = h 90 from ((hG2.1 90 (by decide)).trans (hF1 90 (by decide))), show h2 91 = h 91 from ((hG2.1 91 (by decide)).trans (hF1 91 (by decide)))]; exact hMI, by rw [show h2 74 = h 74 from ((hG2.1 74 (by decide)).trans (hF1 74 (by decide))), show h2 75 = h 75 from ((hG2.1 75 (by decide)).trans (hF1 75 (by decide)))]; exact hTB, ⟨by rw [(show h2 1 = h 1 from ((hG2.1 1 (by decide)).trans (hF1 1 (by decide)))), show h2 73 3 = h 73 3 from ((hG2.2 3 (by decide)).trans (congrFun (hF1 73 (by decide)) 3))]; exact hWH.1, by rw [(show h2 1 = h 1 from ((hG2.1 1 (by decide)).trans (hF1 1 (by decide)))), show h2 73 4 = h 73 4 from ((hG2.2 4 (by decide)).trans (congrFun (hF1 73 (by decide)) 4))]; exact hWH.2⟩, fun j h0 h1 => by rw [(show h2 2 = h 2 from ((hG2.1 2 (by decide)).trans (hF1 2 (by decide)))), (show h2 76 = h 76 from ((hG2.1 76 (by decide)).trans (hF1 76 (by decide))))]; exact hPX j h0 h1⟩
  refine TT_sub [0, 4, 3, 2, 1] rfl ?_
  exact J _ _ _ hJ (by omega) (by omega)
theorem law_c6 {K : TC_} {b L kc ks : Nat} {xs : Nat → Int32} {hh0 : List (Nat × Nat × Nat × Nat)} {i : Int} {h : Hp_} (hK : TOk K RL code 7 ret room_1 0) (hX : TLX K b L xs) (hT : TH K hh0) (hL : L ≤ 256) (hi : 0 ≤ i ∧ i + 4 ≤ L) (hkc : kc + 1 ≤ 241) (hks : ks + 6 ≤ 30874) (hI : INV h) (J : ∀ kc' ks' h', INV h' → kc' ≤ kc + 1 → ks' ≤ ks + 6 → TT K ly kc' ks' 596 [(4, vI i), (0, vR 2000), (1, vR 0), (2, vR 73), (3, vR 107)] [] h') : TT K ly kc ks 333 [(4, vI i), (3, vR 107), (2, vR 73), (1, vR 0), (0, vR 2000)] [] h := by
  obtain ⟨hNI, hKI, hSI, hTI, hTY, hB8, hB45, hMI, hTB, hWH, hPX⟩ := id hI
  obtain ⟨a1, e1, r1⟩ : ∃ a : Int, (xs (i + 1).toNat).toInt = a ∧ (-2147483648 ≤ a ∧ a ≤ 2147483647) := ⟨_, rfl, by have := ir_of (xs (i + 1).toNat); exact ⟨this.1, by have := this.2; omega⟩⟩
  obtain ⟨a2, e2, r2⟩ : ∃ a : Int, (xs (i + 2).toNat).toInt = a ∧ (-2147483648 ≤ a ∧ a ≤ 2147483647) := ⟨_, rfl, by have := ir_of (xs (i + 2).toNat); exact ⟨this.1, by have := this.2; omega⟩⟩
  obtain ⟨a3, e3, r3⟩ : ∃ a : Int, (xs (i + 3).toNat).toInt = a ∧ (-2147483648 ≤ a ∧ a ≤ 2147483647) := ⟨_, rfl, by have := ir_of (xs (i + 3).toNat); exact ⟨this.1, by have := this.2; omega⟩⟩
  refine TT_aload_n hK rfl 3 rfl dL_law_333 ?_
  refine TT_aload_n hK rfl 4 rfl dL_law_334 ?_
  refine TT_iload hK 0 rfl dL_law_335 ?_
  refine TT_iconst hK dL_law_337 ?_
  refine TT_iadd hK dL_law_338 ?_
  refine TT_sld hK hX (by omega) (by omega) (by omega) dL_law_339 ?_
  rw [e1]
  refine TT_aload_n hK rfl 4 rfl dL_law_340 ?_
  refine TT_iload hK 0 rfl dL_law_341 ?_
  refine TT_iconst hK dL_law_343 ?_
  refine TT_iadd hK dL_law_344 ?_
  refine TT_sld hK hX (by omega) (by omega) (by omega) dL_law_345 ?_
  rw [e2]
  refine iv_L_58 hK (s_cband_e a1 a2 h hTY r1 r2) (by decide) rfl ⟨by decide, by decide⟩ (Nat.zero_le _) rfl rfl (Nat.le_of_ble_eq_true rfl) ⟨by show kc ≤ 241; omega, by show ks ≤ 30874; omega⟩ dL_law_346 ?_
  intro r9 h1 hp9
  obtain ⟨⟨hT1, hF1⟩, z1, hr9, hz1, q1_1⟩ := hp9
  rw [hr9]
  show TT K ly kc ks 349 [(4, vI i), (3, vR 107), (2, vR 73), (1, vR 0), (0, vR 2000)] [vI z1] h1
  refine TT_pop hK rfl dL_law_349 ?_
  show TT K ly kc ks 350 [(4, vI i), (3, vR 107), (2, vR 73), (1, vR 0), (0, vR 2000)] [] h1
  refine TT_aload_n hK rfl 2 rfl dL_law_350 ?_
  refine TT_aload_n hK rfl 4 rfl dL_law_351 ?_
  refine TT_iload hK 0 rfl dL_law_352 ?_
  refine TT_iconst hK dL_law_354 ?_
  refine TT_iadd hK dL_law_355 ?_
  refine TT_sld hK hX (by omega) (by omega) (by omega) dL_law_356 ?_
  rw [e1]
  refine TT_aload_n hK rfl 4 rfl dL_law_357 ?_
  refine TT_iload hK 0 rfl dL_law_358 ?_
  refine TT_iconst hK dL_law_360 ?_
  refine TT_iadd hK dL_law_361 ?_
  refine TT_sld hK hX (by omega) (by omega) (by omega) dL_law_362 ?_
  rw [e2]
  refine iv_L_61 hK (s_band_e a1 a2 h1 hT1 r1 r2) (by decide) rfl ⟨by decide, by decide⟩ (Nat.zero_le _) rfl rfl (Nat.le_of_ble_eq_true rfl) ⟨by show kc ≤ 241; omega, by show ks ≤ 30874; omega⟩ dL_law_363 ?_
  intro r9 h2 hp9
  obtain ⟨⟨hT2, hG2⟩, z2, hr9, hz2, q2_1⟩ := hp9
  rw [hr9]
  show TT K ly kc ks 366 [(4, vI i), (3, vR 107), (2, vR 73), (1, vR 0), (0, vR 2000)] [vI z2] h2
  refine TT_pop hK rfl dL_law_366 ?_
  show TT K ly kc ks 367 [(4, vI i), (3, vR 107), (2, vR 73), (1, vR 0), (0, vR 2000)] [] h2
  refine TT_goto hK (tgt := 596) dL_law_367 rfl ?_
  have fin7 : SIQ h2 := by
    unfold SIQ
    rw [show h2 5 = h 5 from ((hG2.1 5 (by decide)).trans (hF1 5 (by decide))), show h2 6 = h 6 from ((hG2.1 6 (by decide)).trans (hF1 6 (by decide))), show h2 100 = h 100 from ((hG2.1 100 (by decide)).trans (hF1 100 (by decide))), show h2 73 41 = h 73 41 from ((hG2.2 41 (by decide)).trans (congrFun (hF1 73 (by decide)) 41))]
    exact hSI
  have fin6 : TIQ h2 := by
    unfold TIQ
    rw [show h2 44 = h 44 from ((hG2.1 44 (by decide)).trans (hF1 44 (by decide))), show h2 61 = h 61 from ((hG2.1 61 (by decide)).trans (hF1 61 (by decide))), show h2 106 = h 106 from ((hG2.1 106 (by decide)).trans (hF1 106 (by decide))), show h2 73 55 = h 73 55 from ((hG2.2 55 (by decide)).trans (congrFun (hF1 73 (by decide)) 55))]
    exact hTI
  have hJ : INV h2 := ⟨(by unfold NIQ; rw [show h2 8 = h 8 from ((hG2.1 8 (by decide)).trans (hF1 8 (by decide))), show h2 9 = h 9 from ((hG2.1 9 (by decide)).trans (hF1 9 (by decide))), show h2 10 = h 10 from ((hG2.1 10 (by decide)).trans (hF1 10 (by decide))), show h2 11 = h 11 from ((hG2.1 11 (by decide)).trans (hF1 11 (by decide))), show h2 12 = h 12 from ((hG2.1 12 (by decide)).trans (hF1 12 (by decide))), show h2 13 = h 13 from ((hG2.1 13 (by decide)).trans (hF1 13 (by decide))), show h2 80 = h 80 from ((hG2.1 80 (by decide)).trans (hF1 80 (by decide))), show h2 81 = h 81 from ((hG2.1 81 (by decide)).trans (hF1 81 (by decide))), show h2 84 = h 84 from ((hG2.1 84 (by decide)).trans (hF1 84 (by decide))), show h2 85 = h 85 from ((hG2.1 85 (by decide)).trans (hF1 85 (by decide))), show h2 73 18 = h 73 18 from ((hG2.2 18 (by decide)).trans (congrFun (hF1 73 (by decide)) 18))]; exact hNI), (by unfold KIQ; rw [show h2 19 = h 19 from ((hG2.1 19 (by decide)).trans (hF1 19 (by decide))), show h2 92 = h 92 from ((hG2.1 92 (by decide)).trans (hF1 92 (by decide))), show h2 16 = h 16 from ((hG2.1 16 (by decide)).trans (hF1 16 (by decide))), show h2 83 = h 83 from ((hG2.1 83 (by decide)).trans (hF1 83 (by decide))), show h2 17 = h 17 from ((hG2.1 17 (by decide)).trans (hF1 17 (by decide))), show h2 18 = h 18 from ((hG2.1 18 (by decide)).trans (hF1 18 (by decide))), show h2 22 = h 22 from ((hG2.1 22 (by decide)).trans (hF1 22 (by decide))), show h2 23 = h 23 from ((hG2.1 23 (by decide)).trans (hF1 23 (by decide))), show h2 89 = h 89 from ((hG2.1 89 (by decide)).trans (hF1 89 (by decide))), show h2 90 = h 90 from ((hG2.1 90 (by decide)).trans (hF1 90 (by decide))), show h2 91 = h 91 from ((hG2.1 91 (by decide)).trans (hF1 91 (by decide))), show h2 73 18 = h 73 18 from ((hG2.2 18 (by decide)).trans (congrFun (hF1 73 (by decide)) 18))]; exact hKI), fin7, fin6, hT2, by rw [show h2 10 = h 10 from ((hG2.1 10 (by decide)).trans (hF1 10 (by decide))), show h2 12 = h 12 from ((hG2.1 12 (by decide)).trans (hF1 12 (by decide))), show h2 11 = h 11 from ((hG2.1 11 (by decide)).trans (hF1 11 (by decide))), show h2 13 = h 13 from ((hG2.1 13 (by decide)).trans (hF1 13 (by decide)))]; exact hB8, by rw [show h2 47 = h 47 from ((hG2.1 47 (by decide)).trans (hF1 47 (by decide))), show h2 49 = h 49 from ((hG2.1 49 (by decide)).trans (hF1 49 (by decide))), show h2 48 = h 48 from ((hG2.1 48 (by decide)).trans (hF1 48 (by decide))), show h2 50 = h 50 from ((hG2.1 50 (by decide)).trans (hF1 50 (by decide)))]; exact hB45, by rw [show h2 90 = h 90 from ((hG2.1 90 (by decide)).trans (hF1 90 (by decide))), show h2 91 = h 91 from ((hG2.1 91 (by decide)).trans (hF1 91 (by decide)))]; exact hMI, by rw [show h2 74 = h 74 from ((hG2.1 74 (by decide)).trans (hF1 74 (by decide))), show h2 75 = h 75 from ((hG2.1 75 (by decide)).trans (hF1 75 (by decide)))]; exact hTB, ⟨by rw [(show h2 1 = h 1 from ((hG2.1 1 (by decide)).trans (hF1 1 (by decide)))), show h2 73 3 = h 73 3 from ((hG2.2 3 (by decide)).trans (congrFun (hF1 73 (by decide)) 3))]; exact hWH.1, by rw [(show h2 1 = h 1 from ((hG2.1 1 (by decide)).trans (hF1 1 (by decide)))), show h2 73 4 = h 73 4 from ((hG2.2 4 (by decide)).trans (congrFun (hF1 73 (by decide)) 4))]; exact hWH.2⟩, fun j h0 h1 => by rw [(show h2 2 = h 2 from ((hG2.1 2 (by decide)).trans (hF1 2 (by decide)))), (show h2 76 = h 76 from ((hG2.1 76 (by decide)).trans (hF1 76 (by decide))))]; exact hPX j h0 h1⟩
  refine TT_sub [0, 4, 3, 2, 1] rfl ?_
  exact J _ _ _ hJ (by omega) (by omega)
theorem law_c7 {K : TC_} {b L kc ks : Nat} {xs : Nat → Int32} {hh0 : List (Nat × Nat × Nat × Nat)} {i : Int} {h : Hp_} (hK : TOk K RL code 7 ret room_1 0) (hX : TLX K b L xs) (hT : TH K hh0) (hL : L ≤ 256) (hi : 0 ≤ i ∧ i + 4 ≤ L) (hkc : kc + 1 ≤ 241) (hks : ks + 6 ≤ 30874) (hI : INV h) (J : ∀ kc' ks' h', INV h' → kc' ≤ kc + 1 → ks' ≤ ks + 6 → TT K ly kc' ks' 596 [(4, vI i), (0, vR 2000), (1, vR 0), (2, vR 73), (3, vR 107)] [] h') : TT K ly kc ks 370 [(4, vI i), (3, vR 107), (2, vR 73), (1, vR 0), (0, vR 2000)] [] h := by
  obtain ⟨hNI, hKI, hSI, hTI, hTY, hB8, hB45, hMI, hTB, hWH, hPX⟩ := id hI
  obtain ⟨a1, e1, r1⟩ : ∃ a : Int, (xs (i + 1).toNat).toInt = a ∧ (-2147483648 ≤ a ∧ a ≤ 2147483647) := ⟨_, rfl, by have := ir_of (xs (i + 1).toNat); exact ⟨this.1, by have := this.2; omega⟩⟩
  obtain ⟨a2, e2, r2⟩ : ∃ a : Int, (xs (i + 2).toNat).toInt = a ∧ (-2147483648 ≤ a ∧ a ≤ 2147483647) := ⟨_, rfl, by have := ir_of (xs (i + 2).toNat); exact ⟨this.1, by have := this.2; omega⟩⟩
  obtain ⟨a3, e3, r3⟩ : ∃ a : Int, (xs (i + 3).toNat).toInt = a ∧ (-2147483648 ≤ a ∧ a ≤ 2147483647) := ⟨_, rfl, by have := ir_of (xs (i + 3).toNat); exact ⟨this.1, by have := this.2; omega⟩⟩
  refine TT_aload_n hK rfl 3 rfl dL_law_370 ?_
  refine TT_aload_n hK rfl 4 rfl dL_law_371 ?_
  refine TT_iload hK 0 rfl dL_law_372 ?_
  refine TT_iconst hK dL_law_374 ?_
  refine TT_iadd hK dL_law_375 ?_
  refine TT_sld hK hX (by omega) (by omega) (by omega) dL_law_376 ?_
  rw [e1]
  refine TT_aload_n hK rfl 4 rfl dL_law_377 ?_
  refine TT_iload hK 0 rfl dL_law_378 ?_
  refine TT_iconst hK dL_law_380 ?_
  refine TT_iadd hK dL_law_381 ?_
  refine TT_sld hK hX (by omega) (by omega) (by omega) dL_law_382 ?_
  rw [e2]
  refine TT_aload_n hK rfl 4 rfl dL_law_383 ?_
  refine TT_iload hK 0 rfl dL_law_384 ?_
  refine TT_iconst hK dL_law_386 ?_
  refine TT_iadd hK dL_law_387 ?_
  refine TT_sld hK hX (by omega) (by omega) (by omega) dL_law_388 ?_
  rw [e3]
  refine iv_L_62 hK (s_X11_number_0 a1 a2 a3 h hTY r1 r2 r3 hB8) (by decide) rfl ⟨by decide, by decide⟩ (Nat.zero_le _) rfl rfl (Nat.le_of_ble_eq_true rfl) ⟨by show kc ≤ 241; omega, by show ks ≤ 30874; omega⟩ dL_law_389 ?_
  intro r9 h1 hp9
  obtain ⟨⟨hT1, hF1⟩, z1, hr9, hz1⟩ := hp9
  rw [hr9]
  show TT K ly kc ks 392 [(4, vI i), (3, vR 107), (2, vR 73), (1, vR 0), (0, vR 2000)] [vI z1] h1
  refine TT_pop hK rfl dL_law_392 ?_
  show TT K ly kc ks 393 [(4, vI i), (3, vR 107), (2, vR 73), (1, vR 0), (0, vR 2000)] [] h1
  refine TT_aload_n hK rfl 2 rfl dL_law_393 ?_
  refine TT_aload_n hK rfl 4 rfl dL_law_394 ?_
  refine TT_iload hK 0 rfl dL_law_395 ?_
  refine TT_iconst hK dL_law_397 ?_
  refine TT_iadd hK dL_law_398 ?_
  refine TT_sld hK hX (by omega) (by omega) (by omega) dL_law_399 ?_
  rw [e1]
  refine TT_aload_n hK rfl 4 rfl dL_law_400 ?_
  refine TT_iload hK 0 rfl dL_law_401 ?_
  refine TT_iconst hK dL_law_403 ?_
  refine TT_iadd hK dL_law_404 ?_
  refine TT_sld hK hX (by omega) (by omega) (by omega) dL_law_405 ?_
  rw [e2]
  refine TT_aload_n hK rfl 4 rfl dL_law_406 ?_
  refine TT_iload hK 0 rfl dL_law_407 ?_
  refine TT_iconst hK dL_law_409 ?_
  refine TT_iadd hK dL_law_410 ?_
  refine TT_sld hK hX (by omega) (by omega) (by omega) dL_law_411 ?_
  rw [e3]
  refine iv_L_66 hK (s_number_x a1 a2 a3 h1 hT1 r1 r2 r3) (by decide) rfl ⟨by decide, by decide⟩ (Nat.zero_le _) rfl rfl (Nat.le_of_ble_eq_true rfl) ⟨by show kc ≤ 241; omega, by show ks ≤ 30874; omega⟩ dL_law_412 ?_
  intro r9 h2 hp9
  obtain ⟨⟨hT2, hG2⟩, z2, hr9, hz2, q2_1⟩ := hp9
  rw [hr9]
  show TT K ly kc ks 415 [(4, vI i), (3, vR 107), (2, vR 73), (1, vR 0), (0, vR 2000)] [vI z2] h2
  refine TT_pop hK rfl dL_law_415 ?_
  show TT K ly kc ks 416 [(4, vI i), (3, vR 107), (2, vR 73), (1, vR 0), (0, vR 2000)] [] h2
  refine TT_goto hK (tgt := 596) dL_law_416 rfl ?_
  have fin7 : SIQ h2 := by
    unfold SIQ
    rw [show h2 5 = h 5 from ((hG2.1 5 (by decide)).trans (hF1 5 (by decide))), show h2 6 = h 6 from ((hG2.1 6 (by decide)).trans (hF1 6 (by decide))), show h2 100 = h 100 from ((hG2.1 100 (by decide)).trans (hF1 100 (by decide))), show h2 73 41 = h 73 41 from ((hG2.2 41 (by decide)).trans (congrFun (hF1 73 (by decide)) 41))]
    exact hSI
  have fin6 : TIQ h2 := by
    unfold TIQ
    rw [show h2 44 = h 44 from ((hG2.1 44 (by decide)).trans (hF1 44 (by decide))), show h2 61 = h 61 from ((hG2.1 61 (by decide)).trans (hF1 61 (by decide))), show h2 106 = h 106 from ((hG2.1 106 (by decide)).trans (hF1 106 (by decide))), show h2 73 55 = h 73 55 from ((hG2.2 55 (by decide)).trans (congrFun (hF1 73 (by decide)) 55))]
    exact hTI
  have hJ : INV h2 := ⟨(by unfold NIQ; rw [show h2 8 = h 8 from ((hG2.1 8 (by decide)).trans (hF1 8 (by decide))), show h2 9 = h 9 from ((hG2.1 9 (by decide)).trans (hF1 9 (by decide))), show h2 10 = h 10 from ((hG2.1 10 (by decide)).trans (hF1 10 (by decide))), show h2 11 = h 11 from ((hG2.1 11 (by decide)).trans (hF1 11 (by decide))), show h2 12 = h 12 from ((hG2.1 12 (by decide)).trans (hF1 12 (by decide))), show h2 13 = h 13 from ((hG2.1 13 (by decide)).trans (hF1 13 (by decide))), show h2 80 = h 80 from ((hG2.1 80 (by decide)).trans (hF1 80 (by decide))), show h2 81 = h 81 from ((hG2.1 81 (by decide)).trans (hF1 81 (by decide))), show h2 84 = h 84 from ((hG2.1 84 (by decide)).trans (hF1 84 (by decide))), show h2 85 = h 85 from ((hG2.1 85 (by decide)).trans (hF1 85 (by decide))), show h2 73 18 = h 73 18 from ((hG2.2 18 (by decide)).trans (congrFun (hF1 73 (by decide)) 18))]; exact hNI), (by unfold KIQ; rw [show h2 19 = h 19 from ((hG2.1 19 (by decide)).trans (hF1 19 (by decide))), show h2 92 = h 92 from ((hG2.1 92 (by decide)).trans (hF1 92 (by decide))), show h2 16 = h 16 from ((hG2.1 16 (by decide)).trans (hF1 16 (by decide))), show h2 83 = h 83 from ((hG2.1 83 (by decide)).trans (hF1 83 (by decide))), show h2 17 = h 17 from ((hG2.1 17 (by decide)).trans (hF1 17 (by decide))), show h2 18 = h 18 from ((hG2.1 18 (by decide)).trans (hF1 18 (by decide))), show h2 22 = h 22 from ((hG2.1 22 (by decide)).trans (hF1 22 (by decide))), show h2 23 = h 23 from ((hG2.1 23 (by decide)).trans (hF1 23 (by decide))), show h2 89 = h 89 from ((hG2.1 89 (by decide)).trans (hF1 89 (by decide))), show h2 90 = h 90 from ((hG2.1 90 (by decide)).trans (hF1 90 (by decide))), show h2 91 = h 91 from ((hG2.1 91 (by decide)).trans (hF1 91 (by decide))), show h2 73 18 = h 73 18 from ((hG2.2 18 (by decide)).trans (congrFun (hF1 73 (by decide)) 18))]; exact hKI), fin7, fin6, hT2, by rw [show h2 10 = h 10 from ((hG2.1 10 (by decide)).trans (hF1 10 (by decide))), show h2 12 = h 12 from ((hG2.1 12 (by decide)).trans (hF1 12 (by decide))), show h2 11 = h 11 from ((hG2.1 11 (by decide)).trans (hF1 11 (by decide))), show h2 13 = h 13 from ((hG2.1 13 (by decide)).trans (hF1 13 (by decide)))]; exact hB8, by rw [show h2 47 = h 47 from ((hG2.1 47 (by decide)).trans (hF1 47 (by decide))), show h2 49 = h 49 from ((hG2.1 49 (by decide)).trans (hF1 49 (by decide))), show h2 48 = h 48 from ((hG2.1 48 (by decide)).trans (hF1 48 (by decide))), show h2 50 = h 50 from ((hG2.1 50 (by decide)).trans (hF1 50 (by decide)))]; exact hB45, by rw [show h2 90 = h 90 from ((hG2.1 90 (by decide)).trans (hF1 90 (by decide))), show h2 91 = h 91 from ((hG2.1 91 (by decide)).trans (hF1 91 (by decide)))]; exact hMI, by rw [show h2 74 = h 74 from ((hG2.1 74 (by decide)).trans (hF1 74 (by decide))), show h2 75 = h 75 from ((hG2.1 75 (by decide)).trans (hF1 75 (by decide)))]; exact hTB, ⟨by rw [(show h2 1 = h 1 from ((hG2.1 1 (by decide)).trans (hF1 1 (by decide)))), show h2 73 3 = h 73 3 from ((hG2.2 3 (by decide)).trans (congrFun (hF1 73 (by decide)) 3))]; exact hWH.1, by rw [(show h2 1 = h 1 from ((hG2.1 1 (by decide)).trans (hF1 1 (by decide)))), show h2 73 4 = h 73 4 from ((hG2.2 4 (by decide)).trans (congrFun (hF1 73 (by decide)) 4))]; exact hWH.2⟩, fun j h0 h1 => by rw [(show h2 2 = h 2 from ((hG2.1 2 (by decide)).trans (hF1 2 (by decide)))), (show h2 76 = h 76 from ((hG2.1 76 (by decide)).trans (hF1 76 (by decide))))]; exact hPX j h0 h1⟩
  refine TT_sub [0, 4, 3, 2, 1] rfl ?_
  exact J _ _ _ hJ (by omega) (by omega)
theorem law_c8 {K : TC_} {b L kc ks : Nat} {xs : Nat → Int32} {hh0 : List (Nat × Nat × Nat × Nat)} {i : Int} {h : Hp_} (hK : TOk K RL code 7 ret room_1 0) (hX : TLX K b L xs) (hT : TH K hh0) (hL : L ≤ 256) (hi : 0 ≤ i ∧ i + 4 ≤ L) (hkc : kc + 1 ≤ 241) (hks : ks + 6 ≤ 30874) (hI : INV h) (J : ∀ kc' ks' h', INV h' → kc' ≤ kc + 1 → ks' ≤ ks + 6 → TT K ly kc' ks' 596 [(4, vI i), (0, vR 2000), (1, vR 0), (2, vR 73), (3, vR 107)] [] h') : TT K ly kc ks 419 [(4, vI i), (3, vR 107), (2, vR 73), (1, vR 0), (0, vR 2000)] [] h := by
  obtain ⟨hNI, hKI, hSI, hTI, hTY, hB8, hB45, hMI, hTB, hWH, hPX⟩ := id hI
  obtain ⟨a1, e1, r1⟩ : ∃ a : Int, (xs (i + 1).toNat).toInt = a ∧ (-2147483648 ≤ a ∧ a ≤ 2147483647) := ⟨_, rfl, by have := ir_of (xs (i + 1).toNat); exact ⟨this.1, by have := this.2; omega⟩⟩
  obtain ⟨a2, e2, r2⟩ : ∃ a : Int, (xs (i + 2).toNat).toInt = a ∧ (-2147483648 ≤ a ∧ a ≤ 2147483647) := ⟨_, rfl, by have := ir_of (xs (i + 2).toNat); exact ⟨this.1, by have := this.2; omega⟩⟩
  obtain ⟨a3, e3, r3⟩ : ∃ a : Int, (xs (i + 3).toNat).toInt = a ∧ (-2147483648 ≤ a ∧ a ≤ 2147483647) := ⟨_, rfl, by have := ir_of (xs (i + 3).toNat); exact ⟨this.1, by have := this.2; omega⟩⟩
  refine TT_aload_n hK rfl 3 rfl dL_law_419 ?_
  refine TT_aload_n hK rfl 4 rfl dL_law_420 ?_
  refine TT_iload hK 0 rfl dL_law_421 ?_
  refine TT_iconst hK dL_law_423 ?_
  refine TT_iadd hK dL_law_424 ?_
  refine TT_sld hK hX (by omega) (by omega) (by omega) dL_law_425 ?_
  rw [e1]
  refine TT_aload_n hK rfl 4 rfl dL_law_426 ?_
  refine TT_iload hK 0 rfl dL_law_427 ?_
  refine TT_iconst hK dL_law_429 ?_
  refine TT_iadd hK dL_law_430 ?_
  refine TT_sld hK hX (by omega) (by omega) (by omega) dL_law_431 ?_
  rw [e2]
  refine iv_L_67 hK (s_ccodeword_e a1 a2 h hTY r1 r2 (fun c k1 k2 => (hKI c k1 (by rw [← hNI.1]; exact k2)).1.2)) (by decide) rfl ⟨by decide, by decide⟩ (Nat.zero_le _) rfl rfl (Nat.le_of_ble_eq_true rfl) ⟨by show kc ≤ 241; omega, by show ks ≤ 30874; omega⟩ dL_law_432 ?_
  intro r9 h1 hp9
  obtain ⟨⟨hT1, hF1⟩, z1, hr9, hz1, q1_1⟩ := hp9
  rw [hr9]
  show TT K ly kc ks 435 [(4, vI i), (3, vR 107), (2, vR 73), (1, vR 0), (0, vR 2000)] [vI z1] h1
  refine TT_pop hK rfl dL_law_435 ?_
  show TT K ly kc ks 436 [(4, vI i), (3, vR 107), (2, vR 73), (1, vR 0), (0, vR 2000)] [] h1
  refine TT_aload_n hK rfl 2 rfl dL_law_436 ?_
  refine TT_aload_n hK rfl 4 rfl dL_law_437 ?_
  refine TT_iload hK 0 rfl dL_law_438 ?_
  refine TT_iconst hK dL_law_440 ?_
  refine TT_iadd hK dL_law_441 ?_
  refine TT_sld hK hX (by omega) (by omega) (by omega) dL_law_442 ?_
  rw [e1]
  refine TT_aload_n hK rfl 4 rfl dL_law_443 ?_
  refine TT_iload hK 0 rfl dL_law_444 ?_
  refine TT_iconst hK dL_law_446 ?_
  refine TT_iadd hK dL_law_447 ?_
  refine TT_sld hK hX (by omega) (by omega) (by omega) dL_law_448 ?_
  rw [e2]
  refine iv_L_70 hK (s_codeword_e a1 a2 h1 hT1 r1 r2 (by rw [(hF1 90 (by decide)), (hF1 91 (by decide))]; exact hMI)) (by decide) rfl ⟨by decide, by decide⟩ (Nat.zero_le _) rfl rfl (Nat.le_of_ble_eq_true rfl) ⟨by show kc ≤ 241; omega, by show ks ≤ 30874; omega⟩ dL_law_449 ?_
  intro r9 h2 hp9
  obtain ⟨⟨hT2, hG2⟩, z2, hr9, hz2, q2_1⟩ := hp9
  rw [hr9]
  show TT K ly kc ks 452 [(4, vI i), (3, vR 107), (2, vR 73), (1, vR 0), (0, vR 2000)] [vI z2] h2
  refine TT_pop hK rfl dL_law_452 ?_
  show TT K ly kc ks 453 [(4, vI i), (3, vR 107), (2, vR 73), (1, vR 0), (0, vR 2000)] [] h2
  refine TT_goto hK (tgt := 596) dL_law_453 rfl ?_
  have fin7 : SIQ h2 := by
    unfold SIQ
    rw [show h2 5 = h 5 from ((hG2.1 5 (by decide)).trans (hF1 5 (by decide))), show h2 6 = h 6 from ((hG2.1 6 (by decide)).trans (hF1 6 (by decide))), show h2 100 = h 100 from ((hG2.1 100 (by decide)).trans (hF1 100 (by decide))), show h2 73 41 = h 73 41 from ((hG2.2 41 (by decide)).trans (congrFun (hF1 73 (by decide)) 41))]
    exact hSI
  have fin6 : TIQ h2 := by
    unfold TIQ
    rw [show h2 44 = h 44 from ((hG2.1 44 (by decide)).trans (hF1 44 (by decide))), show h2 61 = h 61 from ((hG2.1 61 (by decide)).trans (hF1 61 (by decide))), show h2 106 = h 106 from ((hG2.1 106 (by decide)).trans (hF1 106 (by decide))), show h2 73 55 = h 73 55 from ((hG2.2 55 (by decide)).trans (congrFun (hF1 73 (by decide)) 55))]
    exact hTI
  have hJ : INV h2 := ⟨(by unfold NIQ; rw [show h2 8 = h 8 from ((hG2.1 8 (by decide)).trans (hF1 8 (by decide))), show h2 9 = h 9 from ((hG2.1 9 (by decide)).trans (hF1 9 (by decide))), show h2 10 = h 10 from ((hG2.1 10 (by decide)).trans (hF1 10 (by decide))), show h2 11 = h 11 from ((hG2.1 11 (by decide)).trans (hF1 11 (by decide))), show h2 12 = h 12 from ((hG2.1 12 (by decide)).trans (hF1 12 (by decide))), show h2 13 = h 13 from ((hG2.1 13 (by decide)).trans (hF1 13 (by decide))), show h2 80 = h 80 from ((hG2.1 80 (by decide)).trans (hF1 80 (by decide))), show h2 81 = h 81 from ((hG2.1 81 (by decide)).trans (hF1 81 (by decide))), show h2 84 = h 84 from ((hG2.1 84 (by decide)).trans (hF1 84 (by decide))), show h2 85 = h 85 from ((hG2.1 85 (by decide)).trans (hF1 85 (by decide))), show h2 73 18 = h 73 18 from ((hG2.2 18 (by decide)).trans (congrFun (hF1 73 (by decide)) 18))]; exact hNI), (by unfold KIQ; rw [show h2 19 = h 19 from ((hG2.1 19 (by decide)).trans (hF1 19 (by decide))), show h2 92 = h 92 from ((hG2.1 92 (by decide)).trans (hF1 92 (by decide))), show h2 16 = h 16 from ((hG2.1 16 (by decide)).trans (hF1 16 (by decide))), show h2 83 = h 83 from ((hG2.1 83 (by decide)).trans (hF1 83 (by decide))), show h2 17 = h 17 from ((hG2.1 17 (by decide)).trans (hF1 17 (by decide))), show h2 18 = h 18 from ((hG2.1 18 (by decide)).trans (hF1 18 (by decide))), show h2 22 = h 22 from ((hG2.1 22 (by decide)).trans (hF1 22 (by decide))), show h2 23 = h 23 from ((hG2.1 23 (by decide)).trans (hF1 23 (by decide))), show h2 89 = h 89 from ((hG2.1 89 (by decide)).trans (hF1 89 (by decide))), show h2 90 = h 90 from ((hG2.1 90 (by decide)).trans (hF1 90 (by decide))), show h2 91 = h 91 from ((hG2.1 91 (by decide)).trans (hF1 91 (by decide))), show h2 73 18 = h 73 18 from ((hG2.2 18 (by decide)).trans (congrFun (hF1 73 (by decide)) 18))]; exact hKI), fin7, fin6, hT2, by rw [show h2 10 = h 10 from ((hG2.1 10 (by decide)).trans (hF1 10 (by decide))), show h2 12 = h 12 from ((hG2.1 12 (by decide)).trans (hF1 12 (by decide))), show h2 11 = h 11 from ((hG2.1 11 (by decide)).trans (hF1 11 (by decide))), show h2 13 = h 13 from ((hG2.1 13 (by decide)).trans (hF1 13 (by decide)))]; exact hB8, by rw [show h2 47 = h 47 from ((hG2.1 47 (by decide)).trans (hF1 47 (by decide))), show h2 49 = h 49 from ((hG2.1 49 (by decide)).trans (hF1 49 (by decide))), show h2 48 = h 48 from ((hG2.1 48 (by decide)).trans (hF1 48 (by decide))), show h2 50 = h 50 from ((hG2.1 50 (by decide)).trans (hF1 50 (by decide)))]; exact hB45, by rw [show h2 90 = h 90 from ((hG2.1 90 (by decide)).trans (hF1 90 (by decide))), show h2 91 = h 91 from ((hG2.1 91 (by decide)).trans (hF1 91 (by decide)))]; exact hMI, by rw [show h2 74 = h 74 from ((hG2.1 74 (by decide)).trans (hF1 74 (by decide))), show h2 75 = h 75 from ((hG2.1 75 (by decide)).trans (hF1 75 (by decide)))]; exact hTB, ⟨by rw [(show h2 1 = h 1 from ((hG2.1 1 (by decide)).trans (hF1 1 (by decide)))), show h2 73 3 = h 73 3 from ((hG2.2 3 (by decide)).trans (congrFun (hF1 73 (by decide)) 3))]; exact hWH.1, by rw [(show h2 1 = h 1 from ((hG2.1 1 (by decide)).trans (hF1 1 (by decide)))), show h2 73 4 = h 73 4 from ((hG2.2 4 (by decide)).trans (congrFun (hF1 73 (by decide)) 4))]; exact hWH.2⟩, fun j h0 h1 => by rw [(show h2 2 = h 2 from ((hG2.1 2 (by decide)).trans (hF1 2 (by decide)))), (show h2 76 = h 76 from ((hG2.1 76 (by decide)).trans (hF1 76 (by decide))))]; exact hPX j h0 h1⟩
  refine TT_sub [0, 4, 3, 2, 1] rfl ?_
  exact J _ _ _ hJ (by omega) (by omega)
theorem law_c9 {K : TC_} {b L kc ks : Nat} {xs : Nat → Int32} {hh0 : List (Nat × Nat × Nat × Nat)} {i : Int} {h : Hp_} (hK : TOk K RL code 7 ret room_1 0) (hX : TLX K b L xs) (hT : TH K hh0) (hL : L ≤ 256) (hi : 0 ≤ i ∧ i + 4 ≤ L) (hkc : kc + 1 ≤ 241) (hks : ks + 6 ≤ 30874) (hI : INV h) (J : ∀ kc' ks' h', INV h' → kc' ≤ kc + 1 → ks' ≤ ks + 6 → TT K ly kc' ks' 596 [(4, vI i), (0, vR 2000), (1, vR 0), (2, vR 73), (3, vR 107)] [] h') : TT K ly kc ks 456 [(4, vI i), (3, vR 107), (2, vR 73), (1, vR 0), (0, vR 2000)] [] h := by
  obtain ⟨hNI, hKI, hSI, hTI, hTY, hB8, hB45, hMI, hTB, hWH, hPX⟩ := id hI
  obtain ⟨a1, e1, r1⟩ : ∃ a : Int, (xs (i + 1).toNat).toInt = a ∧ (-2147483648 ≤ a ∧ a ≤ 2147483647) := ⟨_, rfl, by have := ir_of (xs (i + 1).toNat); exact ⟨this.1, by have := this.2; omega⟩⟩
  obtain ⟨a2, e2, r2⟩ : ∃ a : Int, (xs (i + 2).toNat).toInt = a ∧ (-2147483648 ≤ a ∧ a ≤ 2147483647) := ⟨_, rfl, by have := ir_of (xs (i + 2).toNat); exact ⟨this.1, by have := this.2; omega⟩⟩
  obtain ⟨a3, e3, r3⟩ : ∃ a : Int, (xs (i + 3).toNat).toInt = a ∧ (-2147483648 ≤ a ∧ a ≤ 2147483647) := ⟨_, rfl, by have := ir_of (xs (i + 3).toNat); exact ⟨this.1, by have := this.2; omega⟩⟩
  refine TT_aload_n hK rfl 3 rfl dL_law_456 ?_
  refine TT_aload_n hK rfl 4 rfl dL_law_457 ?_
  refine TT_iload hK 0 rfl dL_law_458 ?_
  refine TT_iconst hK dL_law_460 ?_
  refine TT_iadd hK dL_law_461 ?_
  refine TT_sld hK hX (by omega) (by omega) (by omega) dL_law_462 ?_
  rw [e1]
  refine TT_aload_n hK rfl 4 rfl dL_law_463 ?_
  refine TT_iload hK 0 rfl dL_law_464 ?_
  refine TT_iconst hK dL_law_466 ?_
  refine TT_iadd hK dL_law_467 ?_
  refine TT_sld hK hX (by omega) (by omega) (by omega) dL_law_468 ?_
  rw [e2]
  refine iv_L_71 hK (s_cleast_e a1 a2 h hTY r1 r2) (by decide) rfl ⟨by decide, by decide⟩ (Nat.zero_le _) rfl rfl (Nat.le_of_ble_eq_true rfl) ⟨by show kc ≤ 241; omega, by show ks ≤ 30874; omega⟩ dL_law_469 ?_
  intro r9 h1 hp9
  obtain ⟨⟨hT1, hF1⟩, z1, hr9, hz1, q1_1⟩ := hp9
  rw [hr9]
  show TT K ly kc ks 472 [(4, vI i), (3, vR 107), (2, vR 73), (1, vR 0), (0, vR 2000)] [vI z1] h1
  refine TT_pop hK rfl dL_law_472 ?_
  show TT K ly kc ks 473 [(4, vI i), (3, vR 107), (2, vR 73), (1, vR 0), (0, vR 2000)] [] h1
  refine TT_aload_n hK rfl 2 rfl dL_law_473 ?_
  refine TT_aload_n hK rfl 4 rfl dL_law_474 ?_
  refine TT_iload hK 0 rfl dL_law_475 ?_
  refine TT_iconst hK dL_law_477 ?_
  refine TT_iadd hK dL_law_478 ?_
  refine TT_sld hK hX (by omega) (by omega) (by omega) dL_law_479 ?_
  rw [e1]
  refine TT_aload_n hK rfl 4 rfl dL_law_480 ?_
  refine TT_iload hK 0 rfl dL_law_481 ?_
  refine TT_iconst hK dL_law_483 ?_
  refine TT_iadd hK dL_law_484 ?_
  refine TT_sld hK hX (by omega) (by omega) (by omega) dL_law_485 ?_
  rw [e2]
  refine iv_L_74 hK (s_least_e a1 a2 h1 hT1 r1 r2) (by decide) rfl ⟨by decide, by decide⟩ (Nat.zero_le _) rfl rfl (Nat.le_of_ble_eq_true rfl) ⟨by show kc ≤ 241; omega, by show ks ≤ 30874; omega⟩ dL_law_486 ?_
  intro r9 h2 hp9
  obtain ⟨⟨hT2, hG2⟩, z2, hr9, hz2, q2_1⟩ := hp9
  rw [hr9]
  show TT K ly kc ks 489 [(4, vI i), (3, vR 107), (2, vR 73), (1, vR 0), (0, vR 2000)] [vI z2] h2
  refine TT_pop hK rfl dL_law_489 ?_
  show TT K ly kc ks 490 [(4, vI i), (3, vR 107), (2, vR 73), (1, vR 0), (0, vR 2000)] [] h2
  refine TT_goto hK (tgt := 596) dL_law_490 rfl ?_
  have fin7 : SIQ h2 := by
    unfold SIQ
    rw [show h2 5 = h 5 from ((hG2.1 5 (by decide)).trans (hF1 5 (by decide))), show h2 6 = h 6 from ((hG2.1 6 (by decide)).trans (hF1 6 (by decide))), show h2 100 = h 100 from ((hG2.1 100 (by decide)).trans (hF1 100 (by decide))), show h2 73 41 = h 73 41 from ((hG2.2 41 (by decide)).trans (congrFun (hF1 73 (by decide)) 41))]
    exact hSI
  have fin6 : TIQ h2 := by
    unfold TIQ
    rw [show h2 44 = h 44 from ((hG2.1 44 (by decide)).trans (hF1 44 (by decide))), show h2 61 = h 61 from ((hG2.1 61 (by decide)).trans (hF1 61 (by decide))), show h2 106 = h 106 from ((hG2.1 106 (by decide)).trans (hF1 106 (by decide))), show h2 73 55 = h 73 55 from ((hG2.2 55 (by decide)).trans (congrFun (hF1 73 (by decide)) 55))]
    exact hTI
  have hJ : INV h2 := ⟨(by unfold NIQ; rw [show h2 8 = h 8 from ((hG2.1 8 (by decide)).trans (hF1 8 (by decide))), show h2 9 = h 9 from ((hG2.1 9 (by decide)).trans (hF1 9 (by decide))), show h2 10 = h 10 from ((hG2.1 10 (by decide)).trans (hF1 10 (by decide))), show h2 11 = h 11 from ((hG2.1 11 (by decide)).trans (hF1 11 (by decide))), show h2 12 = h 12 from ((hG2.1 12 (by decide)).trans (hF1 12 (by decide))), show h2 13 = h 13 from ((hG2.1 13 (by decide)).trans (hF1 13 (by decide))), show h2 80 = h 80 from ((hG2.1 80 (by decide)).trans (hF1 80 (by decide))), show h2 81 = h 81 from ((hG2.1 81 (by decide)).trans (hF1 81 (by decide))), show h2 84 = h 84 from ((hG2.1 84 (by decide)).trans (hF1 84 (by decide))), show h2 85 = h 85 from ((hG2.1 85 (by decide)).trans (hF1 85 (by decide))), show h2 73 18 = h 73 18 from ((hG2.2 18 (by decide)).trans (congrFun (hF1 73 (by decide)) 18))]; exact hNI), (by unfold KIQ; rw [show h2 19 = h 19 from ((hG2.1 19 (by decide)).trans (hF1 19 (by decide))), show h2 92 = h 92 from ((hG2.1 92 (by decide)).trans (hF1 92 (by decide))), show h2 16 = h 16 from ((hG2.1 16 (by decide)).trans (hF1 16 (by decide))), show h2 83 = h 83 from ((hG2.1 83 (by decide)).trans (hF1 83 (by decide))), show h2 17 = h 17 from ((hG2.1 17 (by decide)).trans (hF1 17 (by decide))), show h2 18 = h 18 from ((hG2.1 18 (by decide)).trans (hF1 18 (by decide))), show h2 22 = h 22 from ((hG2.1 22 (by decide)).trans (hF1 22 (by decide))), show h2 23 = h 23 from ((hG2.1 23 (by decide)).trans (hF1 23 (by decide))), show h2 89 = h 89 from ((hG2.1 89 (by decide)).trans (hF1 89 (by decide))), show h2 90 = h 90 from ((hG2.1 90 (by decide)).trans (hF1 90 (by decide))), show h2 91 = h 91 from ((hG2.1 91 (by decide)).trans (hF1 91 (by decide))), show h2 73 18 = h 73 18 from ((hG2.2 18 (by decide)).trans (congrFun (hF1 73 (by decide)) 18))]; exact hKI), fin7, fin6, hT2, by rw [show h2 10 = h 10 from ((hG2.1 10 (by decide)).trans (hF1 10 (by decide))), show h2 12 = h 12 from ((hG2.1 12 (by decide)).trans (hF1 12 (by decide))), show h2 11 = h 11 from ((hG2.1 11 (by decide)).trans (hF1 11 (by decide))), show h2 13 = h 13 from ((hG2.1 13 (by decide)).trans (hF1 13 (by decide)))]; exact hB8, by rw [show h2 47 = h 47 from ((hG2.1 47 (by decide)).trans (hF1 47 (by decide))), show h2 49 = h 49 from ((hG2.1 49 (by decide)).trans (hF1 49 (by decide))), show h2 48 = h 48 from ((hG2.1 48 (by decide)).trans (hF1 48 (by decide))), show h2 50 = h 50 from ((hG2.1 50 (by decide)).trans (hF1 50 (by decide)))]; exact hB45, by rw [show h2 90 = h 90 from ((hG2.1 90 (by decide)).trans (hF1 90 (by decide))), show h2 91 = h 91 from ((hG2.1 91 (by decide)).trans (hF1 91 (by decide)))]; exact hMI, by rw [show h2 74 = h 74 from ((hG2.1 74 (by decide)).trans (hF1 74 (by decide))), show h2 75 = h 75 from ((hG2.1 75 (by decide)).trans (hF1 75 (by decide)))]; exact hTB, ⟨by rw [(show h2 1 = h 1 from ((hG2.1 1 (by decide)).trans (hF1 1 (by decide)))), show h2 73 3 = h 73 3 from ((hG2.2 3 (by decide)).trans (congrFun (hF1 73 (by decide)) 3))]; exact hWH.1, by rw [(show h2 1 = h 1 from ((hG2.1 1 (by decide)).trans (hF1 1 (by decide)))), show h2 73 4 = h 73 4 from ((hG2.2 4 (by decide)).trans (congrFun (hF1 73 (by decide)) 4))]; exact hWH.2⟩, fun j h0 h1 => by rw [(show h2 2 = h 2 from ((hG2.1 2 (by decide)).trans (hF1 2 (by decide)))), (show h2 76 = h 76 from ((hG2.1 76 (by decide)).trans (hF1 76 (by decide))))]; exact hPX j h0 h1⟩
  refine TT_sub [0, 4, 3, 2, 1] rfl ?_
  exact J _ _ _ hJ (by omega) (by omega)
theorem law_c10 {K : TC_} {b L kc ks : Nat} {xs : Nat → Int32} {hh0 : List (Nat × Nat × Nat × Nat)} {i : Int} {h : Hp_} (hK : TOk K RL code 7 ret room_1 0) (hX : TLX K b L xs) (hT : TH K hh0) (hL : L ≤ 256) (hi : 0 ≤ i ∧ i + 4 ≤ L) (hkc : kc + 1 ≤ 241) (hks : ks + 6 ≤ 30874) (hI : INV h) (J : ∀ kc' ks' h', INV h' → kc' ≤ kc + 1 → ks' ≤ ks + 6 → TT K ly kc' ks' 596 [(4, vI i), (0, vR 2000), (1, vR 0), (2, vR 73), (3, vR 107)] [] h') : TT K ly kc ks 493 [(4, vI i), (3, vR 107), (2, vR 73), (1, vR 0), (0, vR 2000)] [] h := by
  obtain ⟨hNI, hKI, hSI, hTI, hTY, hB8, hB45, hMI, hTB, hWH, hPX⟩ := id hI
  obtain ⟨a1, e1, r1⟩ : ∃ a : Int, (xs (i + 1).toNat).toInt = a ∧ (-2147483648 ≤ a ∧ a ≤ 2147483647) := ⟨_, rfl, by have := ir_of (xs (i + 1).toNat); exact ⟨this.1, by have := this.2; omega⟩⟩
  obtain ⟨a2, e2, r2⟩ : ∃ a : Int, (xs (i + 2).toNat).toInt = a ∧ (-2147483648 ≤ a ∧ a ≤ 2147483647) := ⟨_, rfl, by have := ir_of (xs (i + 2).toNat); exact ⟨this.1, by have := this.2; omega⟩⟩
  obtain ⟨a3, e3, r3⟩ : ∃ a : Int, (xs (i + 3).toNat).toInt = a ∧ (-2147483648 ≤ a ∧ a ≤ 2147483647) := ⟨_, rfl, by have := ir_of (xs (i + 3).toNat); exact ⟨this.1, by have := this.2; omega⟩⟩
  refine TT_aload_n hK rfl 3 rfl dL_law_493 ?_
  refine TT_aload_n hK rfl 4 rfl dL_law_494 ?_
  refine TT_iload hK 0 rfl dL_law_495 ?_
  refine TT_iconst hK dL_law_497 ?_
  refine TT_iadd hK dL_law_498 ?_
  refine TT_sld hK hX (by omega) (by omega) (by omega) dL_law_499 ?_
  rw [e1]
  refine TT_aload_n hK rfl 1 rfl dL_law_500 ?_
  refine TT_callH hK hT (y := yL_decode) (hh := [(0, 9, 12, 13)]) (As := [vR 0, vI a1, vR 107]) (st := []) (n := 3) (w1 := ly) (mc := 1) (ms := 6) (hp_decode a1 h hTY r1 hB45 (h 100) (fun j j0 j1 => hSI.2 j j0 (by rw [← hSI.1]; exact j1))) ⟨rfl, rfl⟩ ⟨by decide, by decide⟩ (gd_ (tb_4 184 rfl) rfl) ⟨by decide, by decide, by decide +kernel⟩ (List.forall_mem_cons.mpr ⟨(gd_ (tb_4 182 rfl) rfl), (List.forall_mem_cons.mpr ⟨(gd_ (tb_4 183 rfl) rfl), (List.forall_mem_cons.mpr ⟨(gd_ (tb_1 0 rfl) rfl), (fun _ z => absurd z List.not_mem_nil)⟩)⟩)⟩) rfl (Nat.zero_le _) rfl rfl (Nat.le_of_ble_eq_true rfl) ⟨by show kc + 1 ≤ 241; omega, by show ks + 6 ≤ 30874; omega⟩ dL_law_501 ?_
  intro r9 h1 hp9
  obtain ⟨z1, hr9, ⟨hT1, hF1⟩, q1⟩ := hp9
  rw [hr9]
  show TT K ly (kc + 1) (ks + 6) 504 [(4, vI i), (3, vR 107), (2, vR 73), (1, vR 0), (0, vR 2000)] [vI z1] h1
  refine TT_istore hK (by decide) rfl dL_law_504 ?_
  show TT K ly (kc + 1) (ks + 6) 506 [(5, vI z1), (4, vI i), (3, vR 107), (2, vR 73), (1, vR 0), (0, vR 2000)] [] h1
  refine TT_aload_n hK rfl 3 rfl dL_law_506 ?_
  refine TT_aload_n hK rfl 5 rfl dL_law_507 ?_
  refine TT_iload hK 1 rfl dL_law_508 ?_
  refine TT_iconst hK dL_law_510 ?_
  refine TT_iadd hK dL_law_511 ?_
  refine TT_sld hK hX (by omega) (by omega) (by omega) dL_law_512 ?_
  rw [e1]
  refine iv_L_78 hK (s_decode_t a1 h1 hT1 r1 (by rw [(hF1 74 (by decide)), (hF1 75 (by decide))]; exact hTB)) (by decide) rfl ⟨by decide, by decide⟩ (Nat.zero_le _) rfl rfl (Nat.le_of_ble_eq_true rfl) ⟨by show kc + 1 ≤ 241; omega, by show ks + 6 ≤ 30874; omega⟩ dL_law_513 ?_
  intro r9 h2 hp9
  obtain ⟨⟨hT2, hG2⟩, z2, hr9, hz2, q2_1, q2_2, q2_3, q2_4, q2_5⟩ := hp9
  rw [hr9]
  rw [hF1 100 (by decide), show h1 73 41 = h 73 41 from congrFun (hF1 73 (by decide)) 41, ← hSI.1] at q2_3
  show TT K ly (kc + 1) (ks + 6) 516 [(5, vI z1), (4, vI i), (3, vR 107), (2, vR 73), (1, vR 0), (0, vR 2000)] [vI z2] h2
  refine TT_istore hK (by decide) rfl dL_law_516 ?_
  show TT K ly (kc + 1) (ks + 6) 518 [(6, vI z2), (5, vI z1), (4, vI i), (3, vR 107), (2, vR 73), (1, vR 0), (0, vR 2000)] [] h2
  refine TT_goto hK (tgt := 596) dL_law_518 rfl ?_
  have fin9 : NIQ h2 := by
    have k18 : h2 73 18 = h 73 18 := ((hG2.2 18 (by decide)).trans (congrFun (hF1 73 (by decide)) 18))
    have kq9 := q2_1
    rw [hF1 80 (by decide), hF1 81 (by decide), hF1 84 (by decide), hF1 85 (by decide)] at kq9
    unfold NIQ
    rw [show h2 8 = h 8 from ((hG2.1 8 (by decide)).trans (hF1 8 (by decide))), show h2 9 = h 9 from ((hG2.1 9 (by decide)).trans (hF1 9 (by decide))), show h2 10 = h 10 from ((hG2.1 10 (by decide)).trans (hF1 10 (by decide))), show h2 11 = h 11 from ((hG2.1 11 (by decide)).trans (hF1 11 (by decide))), show h2 12 = h 12 from ((hG2.1 12 (by decide)).trans (hF1 12 (by decide))), show h2 13 = h 13 from ((hG2.1 13 (by decide)).trans (hF1 13 (by decide))), k18]
    refine ⟨hNI.1, fun b k1 k2 => ?_⟩
    have b10 := (ty_73_18 (v := h 73 18) hTY rfl).2
    have k := hNI.2 b k1 k2
    have e8 := kq9.1 b (by omega)
    rw [e8.1, e8.2]
    refine ⟨k.1, k.2.1, fun x y m1 m2 m3 m4 => ?_⟩
    have t80 := ty_80 (i := b) (v := h 80 b) hTY rfl k1 (by omega)
    have t81 := ty_81 (i := b) (v := h 81 b) hTY rfl k1 (by omega)
    have e84 := kq9.2 (64 * b + 8 * y + x) (by omega)
    rw [e84.1, e84.2]
    exact k.2.2 x y m1 m2 m3 m4
  have fin8 : KIQ h2 := by
    have k18 : h2 73 18 = h 73 18 := ((hG2.2 18 (by decide)).trans (congrFun (hF1 73 (by decide)) 18))
    have kp9 := q2_2
    rw [hF1 83 (by decide)] at kp9
    unfold KIQ
    rw [show h2 19 = h 19 from ((hG2.1 19 (by decide)).trans (hF1 19 (by decide))), show h2 92 = h 92 from ((hG2.1 92 (by decide)).trans (hF1 92 (by decide))), show h2 16 = h 16 from ((hG2.1 16 (by decide)).trans (hF1 16 (by decide))), show h2 17 = h 17 from ((hG2.1 17 (by decide)).trans (hF1 17 (by decide))), show h2 18 = h 18 from ((hG2.1 18 (by decide)).trans (hF1 18 (by decide))), show h2 22 = h 22 from ((hG2.1 22 (by decide)).trans (hF1 22 (by decide))), show h2 23 = h 23 from ((hG2.1 23 (by decide)).trans (hF1 23 (by decide))), show h2 89 = h 89 from ((hG2.1 89 (by decide)).trans (hF1 89 (by decide))), show h2 90 = h 90 from ((hG2.1 90 (by decide)).trans (hF1 90 (by decide))), show h2 91 = h 91 from ((hG2.1 91 (by decide)).trans (hF1 91 (by decide))), k18]
    intro c k1 k2
    have b10 := (ty_73_18 (v := h 73 18) hTY rfl).2
    rw [kp9 c (by omega)]
    exact hKI c k1 k2
  have fin7 : SIQ h2 := by
    have e5 : h2 5 1 = h 5 1 := (congrFun (hG2.1 5 (by decide)) 1).trans q1.2.2
    unfold SIQ
    rw [e5, show h2 6 = h 6 from ((hG2.1 6 (by decide)).trans (hF1 6 (by decide))), show h2 100 = h 100 from ((hG2.1 100 (by decide)).trans (hF1 100 (by decide))), show h2 73 41 = h 73 41 from ((hG2.2 41 (by decide)).trans (congrFun (hF1 73 (by decide)) 41))]
    exact hSI
  have fin6 : TIQ h2 := by
    have e44 : h2 44 12 = h1 44 12 := congrFun (hG2.1 44 (by decide)) 12
    have e61 : h2 61 = h1 61 := hG2.1 61 (by decide)
    have t1 := q2_4
    have t2 := q2_5
    rw [hF1 100 (by decide)] at t1
    rw [hF1 106 (by decide), show h1 73 55 = h 73 55 from congrFun (hF1 73 (by decide)) 55] at t2
    unfold TIQ
    rw [e44, e61]
    rcases q1.1 with ⟨q, v, w⟩ | ⟨q, v, w⟩
    · rcases q2_3 with ⟨q9, v9, w9⟩ | ⟨q9, v9⟩
      · have u := t1 q9
        refine ⟨by rw [w.1.2, u.2], fun j j0 j1 => ?_⟩
        rw [u.2] at j1
        rw [w.1.1 j j0 j1, u.1 j j0 j1]
      · exact absurd v v9
    · rcases q2_3 with ⟨q9, v9, w9⟩ | ⟨q9, v9⟩
      · exact absurd v9 v
      · have u := t2 (by omega)
        rw [w.1, w.2, u.1, u.2]
        exact hTI
  have hJ : INV h2 := ⟨fin9, fin8, fin7, fin6, hT2, by rw [show h2 10 = h 10 from ((hG2.1 10 (by decide)).trans (hF1 10 (by decide))), show h2 12 = h 12 from ((hG2.1 12 (by decide)).trans (hF1 12 (by decide))), show h2 11 = h 11 from ((hG2.1 11 (by decide)).trans (hF1 11 (by decide))), show h2 13 = h 13 from ((hG2.1 13 (by decide)).trans (hF1 13 (by decide)))]; exact hB8, by rw [(show h2 47 = h1 47 from hG2.1 47 (by decide)), (show h2 49 = h1 49 from hG2.1 49 (by decide)), (show h2 48 = h1 48 from hG2.1 48 (by decide)), (show h2 50 = h1 50 from hG2.1 50 (by decide))]; exact q1.2.1, by rw [show h2 90 = h 90 from ((hG2.1 90 (by decide)).trans (hF1 90 (by decide))), show h2 91 = h 91 from ((hG2.1 91 (by decide)).trans (hF1 91 (by decide)))]; exact hMI, by rw [show h2 74 = h 74 from ((hG2.1 74 (by decide)).trans (hF1 74 (by decide))), show h2 75 = h 75 from ((hG2.1 75 (by decide)).trans (hF1 75 (by decide)))]; exact hTB, ⟨by rw [(show h2 1 = h 1 from ((hG2.1 1 (by decide)).trans (hF1 1 (by decide)))), show h2 73 3 = h 73 3 from ((hG2.2 3 (by decide)).trans (congrFun (hF1 73 (by decide)) 3))]; exact hWH.1, by rw [(show h2 1 = h 1 from ((hG2.1 1 (by decide)).trans (hF1 1 (by decide)))), show h2 73 4 = h 73 4 from ((hG2.2 4 (by decide)).trans (congrFun (hF1 73 (by decide)) 4))]; exact hWH.2⟩, fun j h0 h1 => by rw [(show h2 2 = h 2 from ((hG2.1 2 (by decide)).trans (hF1 2 (by decide)))), (show h2 76 = h 76 from ((hG2.1 76 (by decide)).trans (hF1 76 (by decide))))]; exact hPX j h0 h1⟩
  refine TT_sub [2, 6, 5, 4, 3] rfl ?_
  exact J _ _ _ hJ (by omega) (by omega)
theorem law_c11 {K : TC_} {b L kc ks : Nat} {xs : Nat → Int32} {hh0 : List (Nat × Nat × Nat × Nat)} {i : Int} {h : Hp_} (hK : TOk K RL code 7 ret room_1 0) (hX : TLX K b L xs) (hT : TH K hh0) (hL : L ≤ 256) (hi : 0 ≤ i ∧ i + 4 ≤ L) (hkc : kc + 1 ≤ 241) (hks : ks + 6 ≤ 30874) (hI : INV h) (J : ∀ kc' ks' h', INV h' → kc' ≤ kc + 1 → ks' ≤ ks + 6 → TT K ly kc' ks' 596 [(4, vI i), (0, vR 2000), (1, vR 0), (2, vR 73), (3, vR 107)] [] h') : TT K ly kc ks 521 [(4, vI i), (3, vR 107), (2, vR 73), (1, vR 0), (0, vR 2000)] [] h := by
  obtain ⟨hNI, hKI, hSI, hTI, hTY, hB8, hB45, hMI, hTB, hWH, hPX⟩ := id hI
  obtain ⟨a1, e1, r1⟩ : ∃ a : Int, (xs (i + 1).toNat).toInt = a ∧ (-2147483648 ≤ a ∧ a ≤ 2147483647) := ⟨_, rfl, by have := ir_of (xs (i + 1).toNat); exact ⟨this.1, by have := this.2; omega⟩⟩
  obtain ⟨a2, e2, r2⟩ : ∃ a : Int, (xs (i + 2).toNat).toInt = a ∧ (-2147483648 ≤ a ∧ a ≤ 2147483647) := ⟨_, rfl, by have := ir_of (xs (i + 2).toNat); exact ⟨this.1, by have := this.2; omega⟩⟩
  obtain ⟨a3, e3, r3⟩ : ∃ a : Int, (xs (i + 3).toNat).toInt = a ∧ (-2147483648 ≤ a ∧ a ≤ 2147483647) := ⟨_, rfl, by have := ir_of (xs (i + 3).toNat); exact ⟨this.1, by have := this.2; omega⟩⟩
  refine TT_aload_n hK rfl 3 rfl dL_law_521 ?_
  refine TT_aload_n hK rfl 4 rfl dL_law_522 ?_
  refine TT_iload hK 0 rfl dL_law_523 ?_
  refine TT_iconst hK dL_law_525 ?_
  refine TT_iadd hK dL_law_526 ?_
  refine TT_sld hK hX (by omega) (by omega) (by omega) dL_law_527 ?_
  rw [e1]
  refine TT_aload_n hK rfl 4 rfl dL_law_528 ?_
  refine TT_iload hK 0 rfl dL_law_529 ?_
  refine TT_iconst hK dL_law_531 ?_
  refine TT_iadd hK dL_law_532 ?_
  refine TT_sld hK hX (by omega) (by omega) (by omega) dL_law_533 ?_
  rw [e2]
  refine iv_L_79 hK (s_X11_decoded_0 a1 a2 h hTY r1 r2) (by decide) rfl ⟨by decide, by decide⟩ (Nat.zero_le _) rfl rfl (Nat.le_of_ble_eq_true rfl) ⟨by show kc ≤ 241; omega, by show ks ≤ 30874; omega⟩ dL_law_534 ?_
  intro r9 h1 hp9
  obtain ⟨⟨hT1, hF1⟩, z1, hr9, hz1⟩ := hp9
  rw [hr9]
  show TT K ly kc ks 537 [(4, vI i), (3, vR 107), (2, vR 73), (1, vR 0), (0, vR 2000)] [vI z1] h1
  refine TT_pop hK rfl dL_law_537 ?_
  show TT K ly kc ks 538 [(4, vI i), (3, vR 107), (2, vR 73), (1, vR 0), (0, vR 2000)] [] h1
  refine TT_aload_n hK rfl 2 rfl dL_law_538 ?_
  refine TT_aload_n hK rfl 4 rfl dL_law_539 ?_
  refine TT_iload hK 0 rfl dL_law_540 ?_
  refine TT_iconst hK dL_law_542 ?_
  refine TT_iadd hK dL_law_543 ?_
  refine TT_sld hK hX (by omega) (by omega) (by omega) dL_law_544 ?_
  rw [e1]
  refine TT_aload_n hK rfl 4 rfl dL_law_545 ?_
  refine TT_iload hK 0 rfl dL_law_546 ?_
  refine TT_iconst hK dL_law_548 ?_
  refine TT_iadd hK dL_law_549 ?_
  refine TT_sld hK hX (by omega) (by omega) (by omega) dL_law_550 ?_
  rw [e2]
  refine iv_L_82 hK (s_X12_decoded_73 a1 a2 h1 hT1 r1 r2) (by decide) rfl ⟨by decide, by decide⟩ (Nat.zero_le _) rfl rfl (Nat.le_of_ble_eq_true rfl) ⟨by show kc ≤ 241; omega, by show ks ≤ 30874; omega⟩ dL_law_551 ?_
  intro r9 h2 hp9
  obtain ⟨⟨hT2, hG2⟩, z2, hr9, hz2⟩ := hp9
  rw [hr9]
  show TT K ly kc ks 554 [(4, vI i), (3, vR 107), (2, vR 73), (1, vR 0), (0, vR 2000)] [vI z2] h2
  refine TT_pop hK rfl dL_law_554 ?_
  show TT K ly kc ks 555 [(4, vI i), (3, vR 107), (2, vR 73), (1, vR 0), (0, vR 2000)] [] h2
  refine TT_goto hK (tgt := 596) dL_law_555 rfl ?_
  have fin7 : SIQ h2 := by
    unfold SIQ
    rw [show h2 5 = h 5 from ((hG2.1 5 (by decide)).trans (hF1 5 (by decide))), show h2 6 = h 6 from ((hG2.1 6 (by decide)).trans (hF1 6 (by decide))), show h2 100 = h 100 from ((hG2.1 100 (by decide)).trans (hF1 100 (by decide))), show h2 73 41 = h 73 41 from ((hG2.2 41 (by decide)).trans (congrFun (hF1 73 (by decide)) 41))]
    exact hSI
  have fin6 : TIQ h2 := by
    unfold TIQ
    rw [show h2 44 = h 44 from ((hG2.1 44 (by decide)).trans (hF1 44 (by decide))), show h2 61 = h 61 from ((hG2.1 61 (by decide)).trans (hF1 61 (by decide))), show h2 106 = h 106 from ((hG2.1 106 (by decide)).trans (hF1 106 (by decide))), show h2 73 55 = h 73 55 from ((hG2.2 55 (by decide)).trans (congrFun (hF1 73 (by decide)) 55))]
    exact hTI
  have hJ : INV h2 := ⟨(by unfold NIQ; rw [show h2 8 = h 8 from ((hG2.1 8 (by decide)).trans (hF1 8 (by decide))), show h2 9 = h 9 from ((hG2.1 9 (by decide)).trans (hF1 9 (by decide))), show h2 10 = h 10 from ((hG2.1 10 (by decide)).trans (hF1 10 (by decide))), show h2 11 = h 11 from ((hG2.1 11 (by decide)).trans (hF1 11 (by decide))), show h2 12 = h 12 from ((hG2.1 12 (by decide)).trans (hF1 12 (by decide))), show h2 13 = h 13 from ((hG2.1 13 (by decide)).trans (hF1 13 (by decide))), show h2 80 = h 80 from ((hG2.1 80 (by decide)).trans (hF1 80 (by decide))), show h2 81 = h 81 from ((hG2.1 81 (by decide)).trans (hF1 81 (by decide))), show h2 84 = h 84 from ((hG2.1 84 (by decide)).trans (hF1 84 (by decide))), show h2 85 = h 85 from ((hG2.1 85 (by decide)).trans (hF1 85 (by decide))), show h2 73 18 = h 73 18 from ((hG2.2 18 (by decide)).trans (congrFun (hF1 73 (by decide)) 18))]; exact hNI), (by unfold KIQ; rw [show h2 19 = h 19 from ((hG2.1 19 (by decide)).trans (hF1 19 (by decide))), show h2 92 = h 92 from ((hG2.1 92 (by decide)).trans (hF1 92 (by decide))), show h2 16 = h 16 from ((hG2.1 16 (by decide)).trans (hF1 16 (by decide))), show h2 83 = h 83 from ((hG2.1 83 (by decide)).trans (hF1 83 (by decide))), show h2 17 = h 17 from ((hG2.1 17 (by decide)).trans (hF1 17 (by decide))), show h2 18 = h 18 from ((hG2.1 18 (by decide)).trans (hF1 18 (by decide))), show h2 22 = h 22 from ((hG2.1 22 (by decide)).trans (hF1 22 (by decide))), show h2 23 = h 23 from ((hG2.1 23 (by decide)).trans (hF1 23 (by decide))), show h2 89 = h 89 from ((hG2.1 89 (by decide)).trans (hF1 89 (by decide))), show h2 90 = h 90 from ((hG2.1 90 (by decide)).trans (hF1 90 (by decide))), show h2 91 = h 91 from ((hG2.1 91 (by decide)).trans (hF1 91 (by decide))), show h2 73 18 = h 73 18 from ((hG2.2 18 (by decide)).trans (congrFun (hF1 73 (by decide)) 18))]; exact hKI), fin7, fin6, hT2, by rw [show h2 10 = h 10 from ((hG2.1 10 (by decide)).trans (hF1 10 (by decide))), show h2 12 = h 12 from ((hG2.1 12 (by decide)).trans (hF1 12 (by decide))), show h2 11 = h 11 from ((hG2.1 11 (by decide)).trans (hF1 11 (by decide))), show h2 13 = h 13 from ((hG2.1 13 (by decide)).trans (hF1 13 (by decide)))]; exact hB8, by rw [show h2 47 = h 47 from ((hG2.1 47 (by decide)).trans (hF1 47 (by decide))), show h2 49 = h 49 from ((hG2.1 49 (by decide)).trans (hF1 49 (by decide))), show h2 48 = h 48 from ((hG2.1 48 (by decide)).trans (hF1 48 (by decide))), show h2 50 = h 50 from ((hG2.1 50 (by decide)).trans (hF1 50 (by decide)))]; exact hB45, by rw [show h2 90 = h 90 from ((hG2.1 90 (by decide)).trans (hF1 90 (by decide))), show h2 91 = h 91 from ((hG2.1 91 (by decide)).trans (hF1 91 (by decide)))]; exact hMI, by rw [show h2 74 = h 74 from ((hG2.1 74 (by decide)).trans (hF1 74 (by decide))), show h2 75 = h 75 from ((hG2.1 75 (by decide)).trans (hF1 75 (by decide)))]; exact hTB, ⟨by rw [(show h2 1 = h 1 from ((hG2.1 1 (by decide)).trans (hF1 1 (by decide)))), show h2 73 3 = h 73 3 from ((hG2.2 3 (by decide)).trans (congrFun (hF1 73 (by decide)) 3))]; exact hWH.1, by rw [(show h2 1 = h 1 from ((hG2.1 1 (by decide)).trans (hF1 1 (by decide)))), show h2 73 4 = h 73 4 from ((hG2.2 4 (by decide)).trans (congrFun (hF1 73 (by decide)) 4))]; exact hWH.2⟩, fun j h0 h1 => by rw [(show h2 2 = h 2 from ((hG2.1 2 (by decide)).trans (hF1 2 (by decide)))), (show h2 76 = h 76 from ((hG2.1 76 (by decide)).trans (hF1 76 (by decide))))]; exact hPX j h0 h1⟩
  refine TT_sub [0, 4, 3, 2, 1] rfl ?_
  exact J _ _ _ hJ (by omega) (by omega)
theorem law_c12 {K : TC_} {b L kc ks : Nat} {xs : Nat → Int32} {hh0 : List (Nat × Nat × Nat × Nat)} {i : Int} {h : Hp_} (hK : TOk K RL code 7 ret room_1 0) (hX : TLX K b L xs) (hT : TH K hh0) (hL : L ≤ 256) (hi : 0 ≤ i ∧ i + 4 ≤ L) (hkc : kc + 1 ≤ 241) (hks : ks + 6 ≤ 30874) (hI : INV h) (J : ∀ kc' ks' h', INV h' → kc' ≤ kc + 1 → ks' ≤ ks + 6 → TT K ly kc' ks' 596 [(4, vI i), (0, vR 2000), (1, vR 0), (2, vR 73), (3, vR 107)] [] h') : TT K ly kc ks 558 [(4, vI i), (3, vR 107), (2, vR 73), (1, vR 0), (0, vR 2000)] [] h := by
  obtain ⟨hNI, hKI, hSI, hTI, hTY, hB8, hB45, hMI, hTB, hWH, hPX⟩ := id hI
  obtain ⟨a1, e1, r1⟩ : ∃ a : Int, (xs (i + 1).toNat).toInt = a ∧ (-2147483648 ≤ a ∧ a ≤ 2147483647) := ⟨_, rfl, by have := ir_of (xs (i + 1).toNat); exact ⟨this.1, by have := this.2; omega⟩⟩
  obtain ⟨a2, e2, r2⟩ : ∃ a : Int, (xs (i + 2).toNat).toInt = a ∧ (-2147483648 ≤ a ∧ a ≤ 2147483647) := ⟨_, rfl, by have := ir_of (xs (i + 2).toNat); exact ⟨this.1, by have := this.2; omega⟩⟩
  obtain ⟨a3, e3, r3⟩ : ∃ a : Int, (xs (i + 3).toNat).toInt = a ∧ (-2147483648 ≤ a ∧ a ≤ 2147483647) := ⟨_, rfl, by have := ir_of (xs (i + 3).toNat); exact ⟨this.1, by have := this.2; omega⟩⟩
  refine TT_aload_n hK rfl 3 rfl dL_law_558 ?_
  refine TT_aload_n hK rfl 4 rfl dL_law_559 ?_
  refine TT_iload hK 0 rfl dL_law_560 ?_
  refine TT_iconst hK dL_law_562 ?_
  refine TT_iadd hK dL_law_563 ?_
  refine TT_sld hK hX (by omega) (by omega) (by omega) dL_law_564 ?_
  rw [e1]
  refine iv_L_83 hK (s_ctaken_e a1 h hTY r1) (by decide) rfl ⟨by decide, by decide⟩ (Nat.zero_le _) rfl rfl (Nat.le_of_ble_eq_true rfl) ⟨by show kc ≤ 241; omega, by show ks ≤ 30874; omega⟩ dL_law_565 ?_
  intro r9 h1 hp9
  obtain ⟨⟨hT1, hF1⟩, z1, hr9, hz1, q1_1⟩ := hp9
  rw [hr9]
  show TT K ly kc ks 568 [(4, vI i), (3, vR 107), (2, vR 73), (1, vR 0), (0, vR 2000)] [vI z1] h1
  refine TT_aload_n hK rfl 2 rfl dL_law_568 ?_
  refine TT_aload_n hK rfl 4 rfl dL_law_569 ?_
  refine TT_iload hK 0 rfl dL_law_570 ?_
  refine TT_iconst hK dL_law_572 ?_
  refine TT_iadd hK dL_law_573 ?_
  refine TT_sld hK hX (by omega) (by omega) (by omega) dL_law_574 ?_
  rw [e1]
  refine iv_L_86 hK (s_taken_e a1 h1 hT1 r1) (by decide) rfl ⟨by decide, by decide⟩ (Nat.zero_le _) rfl rfl (Nat.le_of_ble_eq_true rfl) ⟨by show kc ≤ 241; omega, by show ks ≤ 30874; omega⟩ dL_law_575 ?_
  intro r9 h2 hp9
  obtain ⟨⟨hT2, hG2⟩, z2, hr9, hz2, q2_1⟩ := hp9
  rw [hr9]
  rw [hF1 106 (by decide), show h1 73 55 = h 73 55 from congrFun (hF1 73 (by decide)) 55] at q2_1
  show TT K ly kc ks 578 [(4, vI i), (3, vR 107), (2, vR 73), (1, vR 0), (0, vR 2000)] [vI z2, vI z1] h2
  have eq9 : z1 = z2 := by
    by_cases c : 0 ≤ a1 ∧ a1 < h 73 55
    · rw [q2_1.1 c, q1_1.1 (by rw [hTI.1]; exact c)]
      exact hTI.2 a1 c.1 c.2
    · rw [q2_1.2 c, q1_1.2 (by rw [hTI.1]; exact c)]
  refine TT_icmp_eq hK (tgt := 596) (irm (by omega) (by omega)) (irm (by omega) (by omega)) dL_law_578 rfl (fun _ => ?_) (fun q => absurd eq9 q)
  have fin7 : SIQ h2 := by
    unfold SIQ
    rw [show h2 5 = h 5 from ((hG2.1 5 (by decide)).trans (hF1 5 (by decide))), show h2 6 = h 6 from ((hG2.1 6 (by decide)).trans (hF1 6 (by decide))), show h2 100 = h 100 from ((hG2.1 100 (by decide)).trans (hF1 100 (by decide))), show h2 73 41 = h 73 41 from ((hG2.2 41 (by decide)).trans (congrFun (hF1 73 (by decide)) 41))]
    exact hSI
  have fin6 : TIQ h2 := by
    unfold TIQ
    rw [show h2 44 = h 44 from ((hG2.1 44 (by decide)).trans (hF1 44 (by decide))), show h2 61 = h 61 from ((hG2.1 61 (by decide)).trans (hF1 61 (by decide))), show h2 106 = h 106 from ((hG2.1 106 (by decide)).trans (hF1 106 (by decide))), show h2 73 55 = h 73 55 from ((hG2.2 55 (by decide)).trans (congrFun (hF1 73 (by decide)) 55))]
    exact hTI
  have hJ : INV h2 := ⟨(by unfold NIQ; rw [show h2 8 = h 8 from ((hG2.1 8 (by decide)).trans (hF1 8 (by decide))), show h2 9 = h 9 from ((hG2.1 9 (by decide)).trans (hF1 9 (by decide))), show h2 10 = h 10 from ((hG2.1 10 (by decide)).trans (hF1 10 (by decide))), show h2 11 = h 11 from ((hG2.1 11 (by decide)).trans (hF1 11 (by decide))), show h2 12 = h 12 from ((hG2.1 12 (by decide)).trans (hF1 12 (by decide))), show h2 13 = h 13 from ((hG2.1 13 (by decide)).trans (hF1 13 (by decide))), show h2 80 = h 80 from ((hG2.1 80 (by decide)).trans (hF1 80 (by decide))), show h2 81 = h 81 from ((hG2.1 81 (by decide)).trans (hF1 81 (by decide))), show h2 84 = h 84 from ((hG2.1 84 (by decide)).trans (hF1 84 (by decide))), show h2 85 = h 85 from ((hG2.1 85 (by decide)).trans (hF1 85 (by decide))), show h2 73 18 = h 73 18 from ((hG2.2 18 (by decide)).trans (congrFun (hF1 73 (by decide)) 18))]; exact hNI), (by unfold KIQ; rw [show h2 19 = h 19 from ((hG2.1 19 (by decide)).trans (hF1 19 (by decide))), show h2 92 = h 92 from ((hG2.1 92 (by decide)).trans (hF1 92 (by decide))), show h2 16 = h 16 from ((hG2.1 16 (by decide)).trans (hF1 16 (by decide))), show h2 83 = h 83 from ((hG2.1 83 (by decide)).trans (hF1 83 (by decide))), show h2 17 = h 17 from ((hG2.1 17 (by decide)).trans (hF1 17 (by decide))), show h2 18 = h 18 from ((hG2.1 18 (by decide)).trans (hF1 18 (by decide))), show h2 22 = h 22 from ((hG2.1 22 (by decide)).trans (hF1 22 (by decide))), show h2 23 = h 23 from ((hG2.1 23 (by decide)).trans (hF1 23 (by decide))), show h2 89 = h 89 from ((hG2.1 89 (by decide)).trans (hF1 89 (by decide))), show h2 90 = h 90 from ((hG2.1 90 (by decide)).trans (hF1 90 (by decide))), show h2 91 = h 91 from ((hG2.1 91 (by decide)).trans (hF1 91 (by decide))), show h2 73 18 = h 73 18 from ((hG2.2 18 (by decide)).trans (congrFun (hF1 73 (by decide)) 18))]; exact hKI), fin7, fin6, hT2, by rw [show h2 10 = h 10 from ((hG2.1 10 (by decide)).trans (hF1 10 (by decide))), show h2 12 = h 12 from ((hG2.1 12 (by decide)).trans (hF1 12 (by decide))), show h2 11 = h 11 from ((hG2.1 11 (by decide)).trans (hF1 11 (by decide))), show h2 13 = h 13 from ((hG2.1 13 (by decide)).trans (hF1 13 (by decide)))]; exact hB8, by rw [show h2 47 = h 47 from ((hG2.1 47 (by decide)).trans (hF1 47 (by decide))), show h2 49 = h 49 from ((hG2.1 49 (by decide)).trans (hF1 49 (by decide))), show h2 48 = h 48 from ((hG2.1 48 (by decide)).trans (hF1 48 (by decide))), show h2 50 = h 50 from ((hG2.1 50 (by decide)).trans (hF1 50 (by decide)))]; exact hB45, by rw [show h2 90 = h 90 from ((hG2.1 90 (by decide)).trans (hF1 90 (by decide))), show h2 91 = h 91 from ((hG2.1 91 (by decide)).trans (hF1 91 (by decide)))]; exact hMI, by rw [show h2 74 = h 74 from ((hG2.1 74 (by decide)).trans (hF1 74 (by decide))), show h2 75 = h 75 from ((hG2.1 75 (by decide)).trans (hF1 75 (by decide)))]; exact hTB, ⟨by rw [(show h2 1 = h 1 from ((hG2.1 1 (by decide)).trans (hF1 1 (by decide)))), show h2 73 3 = h 73 3 from ((hG2.2 3 (by decide)).trans (congrFun (hF1 73 (by decide)) 3))]; exact hWH.1, by rw [(show h2 1 = h 1 from ((hG2.1 1 (by decide)).trans (hF1 1 (by decide)))), show h2 73 4 = h 73 4 from ((hG2.2 4 (by decide)).trans (congrFun (hF1 73 (by decide)) 4))]; exact hWH.2⟩, fun j h0 h1 => by rw [(show h2 2 = h 2 from ((hG2.1 2 (by decide)).trans (hF1 2 (by decide)))), (show h2 76 = h 76 from ((hG2.1 76 (by decide)).trans (hF1 76 (by decide))))]; exact hPX j h0 h1⟩
  refine TT_sub [0, 4, 3, 2, 1] rfl ?_
  exact J _ _ _ hJ (by omega) (by omega)
theorem law_c13 {K : TC_} {b L kc ks : Nat} {xs : Nat → Int32} {hh0 : List (Nat × Nat × Nat × Nat)} {i : Int} {h : Hp_} (hK : TOk K RL code 7 ret room_1 0) (hX : TLX K b L xs) (hT : TH K hh0) (hL : L ≤ 256) (hi : 0 ≤ i ∧ i + 4 ≤ L) (hkc : kc + 1 ≤ 241) (hks : ks + 6 ≤ 30874) (hI : INV h) (J : ∀ kc' ks' h', INV h' → kc' ≤ kc + 1 → ks' ≤ ks + 6 → TT K ly kc' ks' 596 [(4, vI i), (0, vR 2000), (1, vR 0), (2, vR 73), (3, vR 107)] [] h') : TT K ly kc ks 583 [(4, vI i), (3, vR 107), (2, vR 73), (1, vR 0), (0, vR 2000)] [] h := by
  obtain ⟨hNI, hKI, hSI, hTI, hTY, hB8, hB45, hMI, hTB, hWH, hPX⟩ := id hI
  obtain ⟨a1, e1, r1⟩ : ∃ a : Int, (xs (i + 1).toNat).toInt = a ∧ (-2147483648 ≤ a ∧ a ≤ 2147483647) := ⟨_, rfl, by have := ir_of (xs (i + 1).toNat); exact ⟨this.1, by have := this.2; omega⟩⟩
  obtain ⟨a2, e2, r2⟩ : ∃ a : Int, (xs (i + 2).toNat).toInt = a ∧ (-2147483648 ≤ a ∧ a ≤ 2147483647) := ⟨_, rfl, by have := ir_of (xs (i + 2).toNat); exact ⟨this.1, by have := this.2; omega⟩⟩
  obtain ⟨a3, e3, r3⟩ : ∃ a : Int, (xs (i + 3).toNat).toInt = a ∧ (-2147483648 ≤ a ∧ a ≤ 2147483647) := ⟨_, rfl, by have := ir_of (xs (i + 3).toNat); exact ⟨this.1, by have := this.2; omega⟩⟩
  refine TT_aload_n hK rfl 3 rfl dL_law_583 ?_
  refine iv_L_87 hK (s_X11_difference_0  h hTY) (by decide) rfl ⟨by decide, by decide⟩ (Nat.zero_le _) rfl rfl (Nat.le_of_ble_eq_true rfl) ⟨by show kc ≤ 241; omega, by show ks ≤ 30874; omega⟩ dL_law_584 ?_
  intro r9 h1 hp9
  obtain ⟨⟨hT1, hF1⟩, z1, hr9, hz1⟩ := hp9
  rw [hr9]
  show TT K ly kc ks 587 [(4, vI i), (3, vR 107), (2, vR 73), (1, vR 0), (0, vR 2000)] [vI z1] h1
  refine TT_pop hK rfl dL_law_587 ?_
  show TT K ly kc ks 588 [(4, vI i), (3, vR 107), (2, vR 73), (1, vR 0), (0, vR 2000)] [] h1
  refine TT_aload_n hK rfl 2 rfl dL_law_588 ?_
  refine iv_L_91 hK (s_X12_difference_73  h1 hT1) (by decide) rfl ⟨by decide, by decide⟩ (Nat.zero_le _) rfl rfl (Nat.le_of_ble_eq_true rfl) ⟨by show kc ≤ 241; omega, by show ks ≤ 30874; omega⟩ dL_law_589 ?_
  intro r9 h2 hp9
  obtain ⟨⟨hT2, hG2⟩, z2, hr9, hz2⟩ := hp9
  rw [hr9]
  show TT K ly kc ks 592 [(4, vI i), (3, vR 107), (2, vR 73), (1, vR 0), (0, vR 2000)] [vI z2] h2
  refine TT_pop hK rfl dL_law_592 ?_
  show TT K ly kc ks 593 [(4, vI i), (3, vR 107), (2, vR 73), (1, vR 0), (0, vR 2000)] [] h2
  refine TT_goto hK (tgt := 596) dL_law_593 rfl ?_
  have fin7 : SIQ h2 := by
    unfold SIQ
    rw [show h2 5 = h 5 from ((hG2.1 5 (by decide)).trans (hF1 5 (by decide))), show h2 6 = h 6 from ((hG2.1 6 (by decide)).trans (hF1 6 (by decide))), show h2 100 = h 100 from ((hG2.1 100 (by decide)).trans (hF1 100 (by decide))), show h2 73 41 = h 73 41 from ((hG2.2 41 (by decide)).trans (congrFun (hF1 73 (by decide)) 41))]
    exact hSI
  have fin6 : TIQ h2 := by
    unfold TIQ
    rw [show h2 44 = h 44 from ((hG2.1 44 (by decide)).trans (hF1 44 (by decide))), show h2 61 = h 61 from ((hG2.1 61 (by decide)).trans (hF1 61 (by decide))), show h2 106 = h 106 from ((hG2.1 106 (by decide)).trans (hF1 106 (by decide))), show h2 73 55 = h 73 55 from ((hG2.2 55 (by decide)).trans (congrFun (hF1 73 (by decide)) 55))]
    exact hTI
  have hJ : INV h2 := ⟨(by unfold NIQ; rw [show h2 8 = h 8 from ((hG2.1 8 (by decide)).trans (hF1 8 (by decide))), show h2 9 = h 9 from ((hG2.1 9 (by decide)).trans (hF1 9 (by decide))), show h2 10 = h 10 from ((hG2.1 10 (by decide)).trans (hF1 10 (by decide))), show h2 11 = h 11 from ((hG2.1 11 (by decide)).trans (hF1 11 (by decide))), show h2 12 = h 12 from ((hG2.1 12 (by decide)).trans (hF1 12 (by decide))), show h2 13 = h 13 from ((hG2.1 13 (by decide)).trans (hF1 13 (by decide))), show h2 80 = h 80 from ((hG2.1 80 (by decide)).trans (hF1 80 (by decide))), show h2 81 = h 81 from ((hG2.1 81 (by decide)).trans (hF1 81 (by decide))), show h2 84 = h 84 from ((hG2.1 84 (by decide)).trans (hF1 84 (by decide))), show h2 85 = h 85 from ((hG2.1 85 (by decide)).trans (hF1 85 (by decide))), show h2 73 18 = h 73 18 from ((hG2.2 18 (by decide)).trans (congrFun (hF1 73 (by decide)) 18))]; exact hNI), (by unfold KIQ; rw [show h2 19 = h 19 from ((hG2.1 19 (by decide)).trans (hF1 19 (by decide))), show h2 92 = h 92 from ((hG2.1 92 (by decide)).trans (hF1 92 (by decide))), show h2 16 = h 16 from ((hG2.1 16 (by decide)).trans (hF1 16 (by decide))), show h2 83 = h 83 from ((hG2.1 83 (by decide)).trans (hF1 83 (by decide))), show h2 17 = h 17 from ((hG2.1 17 (by decide)).trans (hF1 17 (by decide))), show h2 18 = h 18 from ((hG2.1 18 (by decide)).trans (hF1 18 (by decide))), show h2 22 = h 22 from ((hG2.1 22 (by decide)).trans (hF1 22 (by decide))), show h2 23 = h 23 from ((hG2.1 23 (by decide)).trans (hF1 23 (by decide))), show h2 89 = h 89 from ((hG2.1 89 (by decide)).trans (hF1 89 (by decide))), show h2 90 = h 90 from ((hG2.1 90 (by decide)).trans (hF1 90 (by decide))), show h2 91 = h 91 from ((hG2.1 91 (by decide)).trans (hF1 91 (by decide))), show h2 73 18 = h 73 18 from ((hG2.2 18 (by decide)).trans (congrFun (hF1 73 (by decide)) 18))]; exact hKI), fin7, fin6, hT2, by rw [show h2 10 = h 10 from ((hG2.1 10 (by decide)).trans (hF1 10 (by decide))), show h2 12 = h 12 from ((hG2.1 12 (by decide)).trans (hF1 12 (by decide))), show h2 11 = h 11 from ((hG2.1 11 (by decide)).trans (hF1 11 (by decide))), show h2 13 = h 13 from ((hG2.1 13 (by decide)).trans (hF1 13 (by decide)))]; exact hB8, by rw [show h2 47 = h 47 from ((hG2.1 47 (by decide)).trans (hF1 47 (by decide))), show h2 49 = h 49 from ((hG2.1 49 (by decide)).trans (hF1 49 (by decide))), show h2 48 = h 48 from ((hG2.1 48 (by decide)).trans (hF1 48 (by decide))), show h2 50 = h 50 from ((hG2.1 50 (by decide)).trans (hF1 50 (by decide)))]; exact hB45, by rw [show h2 90 = h 90 from ((hG2.1 90 (by decide)).trans (hF1 90 (by decide))), show h2 91 = h 91 from ((hG2.1 91 (by decide)).trans (hF1 91 (by decide)))]; exact hMI, by rw [show h2 74 = h 74 from ((hG2.1 74 (by decide)).trans (hF1 74 (by decide))), show h2 75 = h 75 from ((hG2.1 75 (by decide)).trans (hF1 75 (by decide)))]; exact hTB, ⟨by rw [(show h2 1 = h 1 from ((hG2.1 1 (by decide)).trans (hF1 1 (by decide)))), show h2 73 3 = h 73 3 from ((hG2.2 3 (by decide)).trans (congrFun (hF1 73 (by decide)) 3))]; exact hWH.1, by rw [(show h2 1 = h 1 from ((hG2.1 1 (by decide)).trans (hF1 1 (by decide)))), show h2 73 4 = h 73 4 from ((hG2.2 4 (by decide)).trans (congrFun (hF1 73 (by decide)) 4))]; exact hWH.2⟩, fun j h0 h1 => by rw [(show h2 2 = h 2 from ((hG2.1 2 (by decide)).trans (hF1 2 (by decide)))), (show h2 76 = h 76 from ((hG2.1 76 (by decide)).trans (hF1 76 (by decide))))]; exact hPX j h0 h1⟩
  refine TT_sub [0, 4, 3, 2, 1] rfl ?_
  exact J _ _ _ hJ (by omega) (by omega)
theorem law_loop {K : TC_} {b L : Nat} {xs : Nat → Int32} {hh0 : List (Nat × Nat × Nat × Nat)} (hL : L ≤ 256) (hK : TOk K RL code 7 ret room_1 0) (hX : TLX K b L xs) (hT : TH K hh0) : ∀ (m n kc ks : Nat) (h : Hp_), m + n = 65 → INV h → kc ≤ 108 + n → ks ≤ 29820 + 6 * n → TT K ly kc ks 23 [(4, vI ((4 * n : Nat) : Int)), (0, vR 2000), (1, vR 0), (2, vR 73), (3, vR 107)] [] h := by
  intro m
  induction m with
  | zero => 
    intro n kc ks h hm hI h1 h2
    refine TT_iload hK 0 rfl dL_law_23 ?_
    refine TT_aload_n hK rfl 1 rfl dL_law_25 ?_
    refine TT_slen hK hX dL_law_26 ?_
    refine TT_iconst hK dL_law_27 ?_
    refine TT_isub hK dL_law_28 ?_
    refine TT_icmp_gt hK (tgt := 602) (irm (by omega) (by omega)) (irm (by omega) (by omega)) dL_law_29 rfl (fun _ => ?_) (fun hq => by exfalso; omega)
    refine TT_iconst hK dL_law_602 ?_
    exact TT_lend hK hX (by omega) (by omega) dL_law_603
  | succ m ih =>
    intro n kc ks h hm hI h1 h2
    refine TT_iload hK 0 rfl dL_law_23 ?_
    refine TT_aload_n hK rfl 1 rfl dL_law_25 ?_
    refine TT_slen hK hX dL_law_26 ?_
    refine TT_iconst hK dL_law_27 ?_
    refine TT_isub hK dL_law_28 ?_
    refine TT_icmp_gt hK (tgt := 602) (irm (by omega) (by omega)) (irm (by omega) (by omega)) dL_law_29 rfl (fun _ => ?_) (fun hq => ?_)
    · refine TT_iconst hK dL_law_602 ?_
      exact TT_lend hK hX (by omega) (by omega) dL_law_603
    have J : ∀ kc' ks' h', INV h' → kc' ≤ kc + 1 → ks' ≤ ks + 6 → TT K ly kc' ks' 596 [(4, vI ((4 * n : Nat) : Int)), (0, vR 2000), (1, vR 0), (2, vR 73), (3, vR 107)] [] h' := by
      intro kc' ks' h' hI' h3 h4
      refine TT_iinc hK 0 rfl (v := ((4 * (n + 1) : Nat) : Int)) (by omega) (by decide) rfl dL_law_596 ?_
      refine TT_goto hK (tgt := 23) dL_law_599 rfl ?_
      exact ih (n + 1) kc' ks' h' (by omega) hI' (by omega) (by omega)
    refine TT_aload_n hK rfl 1 rfl dL_law_32 ?_
    refine TT_iload hK 0 rfl dL_law_33 ?_
    refine TT_sld hK hX (by omega) (by omega) (by omega) dL_law_35 ?_
    refine TT_bipush hK (by decide) dL_law_36 ?_
    refine TT_iand hK dL_law_38 ?_
    generalize hz : iand_ (xs ((4 * n : Nat) : Int).toNat).toInt 15 = z
    have hz2 : ir_ z := by rw [← hz]; exact ir_and _ _
    refine TT_table hK hz2 dL_law_39 (fun _ => ⟨596, rfl, J _ _ _ hI (by omega) (by omega)⟩) (fun h0 h1 => ?_)
    have hq9 : z = 0 ∨ z = 1 ∨ z = 2 ∨ z = 3 ∨ z = 4 ∨ z = 5 ∨ z = 6 ∨ z = 7 ∨ z = 8 ∨ z = 9 ∨ z = 10 ∨ z = 11 ∨ z = 12 ∨ z = 13 := by omega
    have T : ∀ pc, TT K ly kc ks pc [(4, vI ((4 * n : Nat) : Int)), (3, vR 107), (2, vR 73), (1, vR 0), (0, vR 2000)] [] h → TT K ly kc ks pc [(4, vI ((4 * n : Nat) : Int)), (0, vR 2000), (1, vR 0), (2, vR 73), (3, vR 107)] [] h := fun pc k => TT_sub [0, 4, 3, 2, 1] rfl k
    rcases hq9 with q | q | q | q | q | q | q | q | q | q | q | q | q | q
    · rw [q]; exact ⟨69, 108, rfl, rfl, T _ (law_c0 hK hX hT hL ⟨by omega, by omega⟩ (by omega) (by omega) hI J)⟩
    · rw [q]; exact ⟨106, 145, rfl, rfl, T _ (law_c1 hK hX hT hL ⟨by omega, by omega⟩ (by omega) (by omega) hI J)⟩
    · rw [q]; exact ⟨155, 194, rfl, rfl, T _ (law_c2 hK hX hT hL ⟨by omega, by omega⟩ (by omega) (by omega) hI J)⟩
    · rw [q]; exact ⟨192, 231, rfl, rfl, T _ (law_c3 hK hX hT hL ⟨by omega, by omega⟩ (by omega) (by omega) hI J)⟩
    · rw [q]; exact ⟨232, 271, rfl, rfl, T _ (law_c4 hK hX hT hL ⟨by omega, by omega⟩ (by omega) (by omega) hI J)⟩
    · rw [q]; exact ⟨257, 296, rfl, rfl, T _ (law_c5 hK hX hT hL ⟨by omega, by omega⟩ (by omega) (by omega) hI J)⟩
    · rw [q]; exact ⟨294, 333, rfl, rfl, T _ (law_c6 hK hX hT hL ⟨by omega, by omega⟩ (by omega) (by omega) hI J)⟩
    · rw [q]; exact ⟨331, 370, rfl, rfl, T _ (law_c7 hK hX hT hL ⟨by omega, by omega⟩ (by omega) (by omega) hI J)⟩
    · rw [q]; exact ⟨380, 419, rfl, rfl, T _ (law_c8 hK hX hT hL ⟨by omega, by omega⟩ (by omega) (by omega) hI J)⟩
    · rw [q]; exact ⟨417, 456, rfl, rfl, T _ (law_c9 hK hX hT hL ⟨by omega, by omega⟩ (by omega) (by omega) hI J)⟩
    · rw [q]; exact ⟨454, 493, rfl, rfl, T _ (law_c10 hK hX hT hL ⟨by omega, by omega⟩ (by omega) (by omega) hI J)⟩
    · rw [q]; exact ⟨482, 521, rfl, rfl, T _ (law_c11 hK hX hT hL ⟨by omega, by omega⟩ (by omega) (by omega) hI J)⟩
    · rw [q]; exact ⟨519, 558, rfl, rfl, T _ (law_c12 hK hX hT hL ⟨by omega, by omega⟩ (by omega) (by omega) hI J)⟩
    · rw [q]; exact ⟨544, 583, rfl, rfl, T _ (law_c13 hK hX hT hL ⟨by omega, by omega⟩ (by omega) (by omega) hI J)⟩

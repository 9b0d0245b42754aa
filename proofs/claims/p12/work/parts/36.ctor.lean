/-! the reference's constructor -/
noncomputable def Nm_1 : Nat := hput Nm_0 74 0 (encZ (22017))
noncomputable def Nm_2 : Nat := hput Nm_1 74 1 (encZ (13313))
noncomputable def Nm_3 : Nat := hput Nm_2 74 2 (encZ (6145))
noncomputable def Nm_4 : Nat := hput Nm_3 74 3 (encZ (2753))
noncomputable def Nm_5 : Nat := hput Nm_4 74 4 (encZ (1313))
noncomputable def Nm_6 : Nat := hput Nm_5 74 5 (encZ (545))
noncomputable def Nm_7 : Nat := hput Nm_6 74 6 (encZ (22017))
noncomputable def Nm_8 : Nat := hput Nm_7 74 7 (encZ (21505))
noncomputable def Nm_9 : Nat := hput Nm_8 74 8 (encZ (18433))
noncomputable def Nm_10 : Nat := hput Nm_9 74 9 (encZ (14337))
noncomputable def Nm_11 : Nat := hput Nm_10 74 10 (encZ (12289))
noncomputable def Nm_12 : Nat := hput Nm_11 74 11 (encZ (9217))
noncomputable def Nm_13 : Nat := hput Nm_12 74 12 (encZ (7169))
noncomputable def Nm_14 : Nat := hput Nm_13 74 13 (encZ (5633))
noncomputable def Nm_15 : Nat := hput Nm_14 74 14 (encZ (22017))
noncomputable def Nm_16 : Nat := hput Nm_15 74 15 (encZ (21505))
noncomputable def Nm_17 : Nat := hput Nm_16 74 16 (encZ (20737))
noncomputable def Nm_18 : Nat := hput Nm_17 74 17 (encZ (18433))
noncomputable def Nm_19 : Nat := hput Nm_18 74 18 (encZ (14337))
noncomputable def Nm_20 : Nat := hput Nm_19 74 19 (encZ (13313))
noncomputable def Nm_21 : Nat := hput Nm_20 74 20 (encZ (12289))
noncomputable def Nm_22 : Nat := hput Nm_21 74 21 (encZ (10241))
noncomputable def Nm_23 : Nat := hput Nm_22 74 22 (encZ (9217))
noncomputable def Nm_24 : Nat := hput Nm_23 74 23 (encZ (8705))
noncomputable def Nm_25 : Nat := hput Nm_24 74 24 (encZ (7169))
noncomputable def Nm_26 : Nat := hput Nm_25 74 25 (encZ (6145))
noncomputable def Nm_27 : Nat := hput Nm_26 74 26 (encZ (5633))
noncomputable def Nm_28 : Nat := hput Nm_27 74 27 (encZ (5121))
noncomputable def Nm_29 : Nat := hput Nm_28 74 28 (encZ (4609))
noncomputable def Nm_30 : Nat := hput Nm_29 74 29 (encZ (4353))
noncomputable def Nm_31 : Nat := hput Nm_30 74 30 (encZ (2753))
noncomputable def Nm_32 : Nat := hput Nm_31 74 31 (encZ (2497))
noncomputable def Nm_33 : Nat := hput Nm_32 74 32 (encZ (2209))
noncomputable def Nm_34 : Nat := hput Nm_33 74 33 (encZ (1313))
noncomputable def Nm_35 : Nat := hput Nm_34 74 34 (encZ (1089))
noncomputable def Nm_36 : Nat := hput Nm_35 74 35 (encZ (673))
noncomputable def Nm_37 : Nat := hput Nm_36 74 36 (encZ (545))
noncomputable def Nm_38 : Nat := hput Nm_37 74 37 (encZ (321))
noncomputable def Nm_39 : Nat := hput Nm_38 74 38 (encZ (273))
noncomputable def Nm_40 : Nat := hput Nm_39 74 39 (encZ (133))
noncomputable def Nm_41 : Nat := hput Nm_40 74 40 (encZ (73))
noncomputable def Nm_42 : Nat := hput Nm_41 74 41 (encZ (37))
noncomputable def Nm_43 : Nat := hput Nm_42 74 42 (encZ (21))
noncomputable def Nm_44 : Nat := hput Nm_43 74 43 (encZ (9))
noncomputable def Nm_45 : Nat := hput Nm_44 74 44 (encZ (5))
noncomputable def Nm_46 : Nat := hput Nm_45 74 45 (encZ (1))
noncomputable def Nm_47 : Nat := hput Nm_46 74 46 (encZ (22017))
def lz_75 : List (Nat × Nat) := (73, 0) :: lz_74
noncomputable def Nm_48 : Nat := hput Nm_47 75 0 (encZ (101))
noncomputable def Nm_49 : Nat := hput Nm_48 75 1 (encZ (206))
noncomputable def Nm_50 : Nat := hput Nm_49 75 2 (encZ (309))
noncomputable def Nm_51 : Nat := hput Nm_50 75 3 (encZ (412))
noncomputable def Nm_52 : Nat := hput Nm_51 75 4 (encZ (529))
noncomputable def Nm_53 : Nat := hput Nm_52 75 5 (encZ (3833))
noncomputable def Nm_54 : Nat := hput Nm_53 75 6 (encZ (706))
noncomputable def Nm_55 : Nat := hput Nm_54 75 7 (encZ (814))
noncomputable def Nm_56 : Nat := hput Nm_55 75 8 (encZ (914))
noncomputable def Nm_57 : Nat := hput Nm_56 75 9 (encZ (1014))
noncomputable def Nm_58 : Nat := hput Nm_57 75 10 (encZ (1117))
noncomputable def Nm_59 : Nat := hput Nm_58 75 11 (encZ (1218))
noncomputable def Nm_60 : Nat := hput Nm_59 75 12 (encZ (1320))
noncomputable def Nm_61 : Nat := hput Nm_60 75 13 (encZ (2921))
noncomputable def Nm_62 : Nat := hput Nm_61 75 14 (encZ (1514))
noncomputable def Nm_63 : Nat := hput Nm_62 75 15 (encZ (1614))
noncomputable def Nm_64 : Nat := hput Nm_63 75 16 (encZ (1715))
noncomputable def Nm_65 : Nat := hput Nm_64 75 17 (encZ (1816))
noncomputable def Nm_66 : Nat := hput Nm_65 75 18 (encZ (1917))
noncomputable def Nm_67 : Nat := hput Nm_66 75 19 (encZ (2018))
noncomputable def Nm_68 : Nat := hput Nm_67 75 20 (encZ (2119))
noncomputable def Nm_69 : Nat := hput Nm_68 75 21 (encZ (2219))
noncomputable def Nm_70 : Nat := hput Nm_69 75 22 (encZ (2320))
noncomputable def Nm_71 : Nat := hput Nm_70 75 23 (encZ (2421))
noncomputable def Nm_72 : Nat := hput Nm_71 75 24 (encZ (2522))
noncomputable def Nm_73 : Nat := hput Nm_72 75 25 (encZ (2623))
noncomputable def Nm_74 : Nat := hput Nm_73 75 26 (encZ (2724))
noncomputable def Nm_75 : Nat := hput Nm_74 75 27 (encZ (2825))
noncomputable def Nm_76 : Nat := hput Nm_75 75 28 (encZ (2926))
noncomputable def Nm_77 : Nat := hput Nm_76 75 29 (encZ (3027))
noncomputable def Nm_78 : Nat := hput Nm_77 75 30 (encZ (3128))
noncomputable def Nm_79 : Nat := hput Nm_78 75 31 (encZ (3229))
noncomputable def Nm_80 : Nat := hput Nm_79 75 32 (encZ (3330))
noncomputable def Nm_81 : Nat := hput Nm_80 75 33 (encZ (3431))
noncomputable def Nm_82 : Nat := hput Nm_81 75 34 (encZ (3532))
noncomputable def Nm_83 : Nat := hput Nm_82 75 35 (encZ (3633))
noncomputable def Nm_84 : Nat := hput Nm_83 75 36 (encZ (3734))
noncomputable def Nm_85 : Nat := hput Nm_84 75 37 (encZ (3835))
noncomputable def Nm_86 : Nat := hput Nm_85 75 38 (encZ (3936))
noncomputable def Nm_87 : Nat := hput Nm_86 75 39 (encZ (4037))
noncomputable def Nm_88 : Nat := hput Nm_87 75 40 (encZ (4138))
noncomputable def Nm_89 : Nat := hput Nm_88 75 41 (encZ (4239))
noncomputable def Nm_90 : Nat := hput Nm_89 75 42 (encZ (4340))
noncomputable def Nm_91 : Nat := hput Nm_90 75 43 (encZ (4441))
noncomputable def Nm_92 : Nat := hput Nm_91 75 44 (encZ (4542))
noncomputable def Nm_93 : Nat := hput Nm_92 75 45 (encZ (4543))
noncomputable def Nm_94 : Nat := hput Nm_93 75 46 (encZ (4646))
def lz_76 : List (Nat × Nat) := (73, 1) :: lz_75
noncomputable def Nm_95 : Nat := hput Nm_94 73 3 (encZ (1))
noncomputable def Nm_96 : Nat := hput Nm_95 73 4 (encZ (1))
def lz_77 : List (Nat × Nat) := (73, 5) :: lz_76
def lz_78 : List (Nat × Nat) := (73, 6) :: lz_77
def lz_79 : List (Nat × Nat) := (73, 7) :: lz_78
def lz_80 : List (Nat × Nat) := (73, 8) :: lz_79
def lz_81 : List (Nat × Nat) := (73, 9) :: lz_80
def lz_82 : List (Nat × Nat) := (73, 10) :: lz_81
def lz_83 : List (Nat × Nat) := (73, 11) :: lz_82
def lz_84 : List (Nat × Nat) := (73, 12) :: lz_83
def lz_85 : List (Nat × Nat) := (73, 13) :: lz_84
def lz_86 : List (Nat × Nat) := (73, 14) :: lz_85
def lz_87 : List (Nat × Nat) := (73, 15) :: lz_86
def lz_88 : List (Nat × Nat) := (73, 16) :: lz_87
def lz_89 : List (Nat × Nat) := (73, 17) :: lz_88
def lz_90 : List (Nat × Nat) := (73, 19) :: lz_89
def lz_91 : List (Nat × Nat) := (73, 20) :: lz_90
def lz_92 : List (Nat × Nat) := (73, 21) :: lz_91
def lz_93 : List (Nat × Nat) := (73, 22) :: lz_92
def lz_94 : List (Nat × Nat) := (73, 23) :: lz_93
def lz_95 : List (Nat × Nat) := (73, 24) :: lz_94
def lz_96 : List (Nat × Nat) := (73, 25) :: lz_95
def lz_97 : List (Nat × Nat) := (73, 30) :: lz_96
def lz_98 : List (Nat × Nat) := (73, 31) :: lz_97
def lz_99 : List (Nat × Nat) := (73, 35) :: lz_98
def lz_100 : List (Nat × Nat) := (73, 37) :: lz_99
def lz_101 : List (Nat × Nat) := (73, 40) :: lz_100
def lz_102 : List (Nat × Nat) := (73, 46) :: lz_101
def lz_103 : List (Nat × Nat) := (73, 47) :: lz_102
def lz_104 : List (Nat × Nat) := (73, 48) :: lz_103
def lz_105 : List (Nat × Nat) := (73, 49) :: lz_104
def lz_106 : List (Nat × Nat) := (73, 53) :: lz_105
def lz_107 : List (Nat × Nat) := (73, 54) :: lz_106
def tzb_Nm_0 : Nat := 814
def tzb_Nm_47 : Nat := 861
def tzb_Nm_96 : Nat := 908
theorem tHz_Nm_0 {o : Nat} (ho : Nat.ble (tzb_Nm_0) (Nat.div (capT.get o) 8192) = true) (i : Int) : tH Nm_0 o i = 0 := tH_gz (b := tzb_Nm_0) (Nat.lt_of_lt_of_le (by decide +kernel : Nm_0 < 2 ^ (48 * tzb_Nm_0)) (Nat.le_refl _)) (adr_ge (Nat.le_of_ble_eq_true ho) (by decide)) i
theorem tHz_Nm_47 {o : Nat} (ho : Nat.ble (tzb_Nm_47) (Nat.div (capT.get o) 8192) = true) (i : Int) : tH Nm_47 o i = 0 := tH_gz (b := tzb_Nm_47) (Nat.lt_of_lt_of_le (by decide +kernel : Nm_47 < 2 ^ (48 * tzb_Nm_47)) (Nat.le_refl _)) (adr_ge (Nat.le_of_ble_eq_true ho) (by decide)) i
theorem tHz_Nm_96 {o : Nat} (ho : Nat.ble (tzb_Nm_96) (Nat.div (capT.get o) 8192) = true) (i : Int) : tH Nm_96 o i = 0 := tH_gz (b := tzb_Nm_96) (Nat.lt_of_lt_of_le (by decide +kernel : Nm_96 < 2 ^ (48 * tzb_Nm_96)) (Nat.le_refl _)) (adr_ge (Nat.le_of_ble_eq_true ho) (by decide)) i
set_option maxRecDepth 20000 in
theorem ci_73 : Ctr yX12_init cX12_init 1 none (rmk 1 33 20428) (74, rL lz_74) (107, rL lz_107) 33 20428 [vR 73] (tH Nm_0) (fun r h' => r = none ∧ h' = (tH Nm_96)) := by
  refine Ctr_of (by decide) (by decide) ⟨Nat.le_refl _, Nat.le_refl _⟩ (fun K hK hQ hN => ?_)
  show TT K (74, rL lz_74) 0 0 0 [(0, vR 73)] [] (tH Nm_0)
  refine TT_aload_n hK rfl 0 rfl dX12_init_0 ?_
  refine TT_objInit hK (gd_ (tb_5 52 rfl) rfl) (gd_ (tb_1 26 rfl) rfl) (gd_ (tb_1 27 rfl) rfl) (by decide) (by decide) dX12_init_1 ?_
  show TT K (74, rL lz_74) 0 0 4 [(0, vR 73)] [] (tH Nm_0)
  refine TT_aload_n hK rfl 0 rfl dX12_init_4 ?_
  refine TT_bipush hK (by decide) dX12_init_5 ?_
  refine TT_newa hK (t := 12) (N := 47) (ty := .int) rfl (gd_ (tb_1 46 rfl) rfl) (by decide) rfl (fun _ => tHz_Nm_0 (by decide +kernel) _) (by decide +kernel) (by decide) (by decide) (by decide) (by decide) (by decide) rfl rfl (by decide) (Nat.le_of_ble_eq_true rfl) dX12_init_7 ?_
  show TT K (75, rL lz_74) 1 47 9 [(0, vR 73)] [vR 74, vR 73] (tH Nm_0)
  refine TT_dup hK rfl dX12_init_9 ?_
  refine TT_iconst hK dX12_init_10 ?_
  refine TT_sipush hK (by decide) dX12_init_11 ?_
  refine TT_iast hK (o := 74) (n := 47) (by decide) rfl (by decide) (by decide) dX12_init_14 ?_
  refine TT_hp (h' := tH Nm_1) (tH_put (o := 74) (i := 0) (v := (22017)) (by decide) (by decide)) ?_
  show TT K (75, rL lz_74) 1 47 15 [(0, vR 73)] [vR 74, vR 73] (tH Nm_1)
  refine TT_dup hK rfl dX12_init_15 ?_
  refine TT_iconst hK dX12_init_16 ?_
  refine TT_sipush hK (by decide) dX12_init_17 ?_
  refine TT_iast hK (o := 74) (n := 47) (by decide) rfl (by decide) (by decide) dX12_init_20 ?_
  refine TT_hp (h' := tH Nm_2) (tH_put (o := 74) (i := 1) (v := (13313)) (by decide) (by decide)) ?_
  show TT K (75, rL lz_74) 1 47 21 [(0, vR 73)] [vR 74, vR 73] (tH Nm_2)
  refine TT_dup hK rfl dX12_init_21 ?_
  refine TT_iconst hK dX12_init_22 ?_
  refine TT_sipush hK (by decide) dX12_init_23 ?_
  refine TT_iast hK (o := 74) (n := 47) (by decide) rfl (by decide) (by decide) dX12_init_26 ?_
  refine TT_hp (h' := tH Nm_3) (tH_put (o := 74) (i := 2) (v := (6145)) (by decide) (by decide)) ?_
  show TT K (75, rL lz_74) 1 47 27 [(0, vR 73)] [vR 74, vR 73] (tH Nm_3)
  refine TT_dup hK rfl dX12_init_27 ?_
  refine TT_iconst hK dX12_init_28 ?_
  refine TT_sipush hK (by decide) dX12_init_29 ?_
  refine TT_iast hK (o := 74) (n := 47) (by decide) rfl (by decide) (by decide) dX12_init_32 ?_
  refine TT_hp (h' := tH Nm_4) (tH_put (o := 74) (i := 3) (v := (2753)) (by decide) (by decide)) ?_
  show TT K (75, rL lz_74) 1 47 33 [(0, vR 73)] [vR 74, vR 73] (tH Nm_4)
  refine TT_dup hK rfl dX12_init_33 ?_
  refine TT_iconst hK dX12_init_34 ?_
  refine TT_sipush hK (by decide) dX12_init_35 ?_
  refine TT_iast hK (o := 74) (n := 47) (by decide) rfl (by decide) (by decide) dX12_init_38 ?_
  refine TT_hp (h' := tH Nm_5) (tH_put (o := 74) (i := 4) (v := (1313)) (by decide) (by decide)) ?_
  show TT K (75, rL lz_74) 1 47 39 [(0, vR 73)] [vR 74, vR 73] (tH Nm_5)
  refine TT_dup hK rfl dX12_init_39 ?_
  refine TT_iconst hK dX12_init_40 ?_
  refine TT_sipush hK (by decide) dX12_init_41 ?_
  refine TT_iast hK (o := 74) (n := 47) (by decide) rfl (by decide) (by decide) dX12_init_44 ?_
  refine TT_hp (h' := tH Nm_6) (tH_put (o := 74) (i := 5) (v := (545)) (by decide) (by decide)) ?_
  show TT K (75, rL lz_74) 1 47 45 [(0, vR 73)] [vR 74, vR 73] (tH Nm_6)
  refine TT_dup hK rfl dX12_init_45 ?_
  refine TT_bipush hK (by decide) dX12_init_46 ?_
  refine TT_sipush hK (by decide) dX12_init_48 ?_
  refine TT_iast hK (o := 74) (n := 47) (by decide) rfl (by decide) (by decide) dX12_init_51 ?_
  refine TT_hp (h' := tH Nm_7) (tH_put (o := 74) (i := 6) (v := (22017)) (by decide) (by decide)) ?_
  show TT K (75, rL lz_74) 1 47 52 [(0, vR 73)] [vR 74, vR 73] (tH Nm_7)
  refine TT_dup hK rfl dX12_init_52 ?_
  refine TT_bipush hK (by decide) dX12_init_53 ?_
  refine TT_sipush hK (by decide) dX12_init_55 ?_
  refine TT_iast hK (o := 74) (n := 47) (by decide) rfl (by decide) (by decide) dX12_init_58 ?_
  refine TT_hp (h' := tH Nm_8) (tH_put (o := 74) (i := 7) (v := (21505)) (by decide) (by decide)) ?_
  show TT K (75, rL lz_74) 1 47 59 [(0, vR 73)] [vR 74, vR 73] (tH Nm_8)
  refine TT_dup hK rfl dX12_init_59 ?_
  refine TT_bipush hK (by decide) dX12_init_60 ?_
  refine TT_sipush hK (by decide) dX12_init_62 ?_
  refine TT_iast hK (o := 74) (n := 47) (by decide) rfl (by decide) (by decide) dX12_init_65 ?_
  refine TT_hp (h' := tH Nm_9) (tH_put (o := 74) (i := 8) (v := (18433)) (by decide) (by decide)) ?_
  show TT K (75, rL lz_74) 1 47 66 [(0, vR 73)] [vR 74, vR 73] (tH Nm_9)
  refine TT_dup hK rfl dX12_init_66 ?_
  refine TT_bipush hK (by decide) dX12_init_67 ?_
  refine TT_sipush hK (by decide) dX12_init_69 ?_
  refine TT_iast hK (o := 74) (n := 47) (by decide) rfl (by decide) (by decide) dX12_init_72 ?_
  refine TT_hp (h' := tH Nm_10) (tH_put (o := 74) (i := 9) (v := (14337)) (by decide) (by decide)) ?_
  show TT K (75, rL lz_74) 1 47 73 [(0, vR 73)] [vR 74, vR 73] (tH Nm_10)
  refine TT_dup hK rfl dX12_init_73 ?_
  refine TT_bipush hK (by decide) dX12_init_74 ?_
  refine TT_sipush hK (by decide) dX12_init_76 ?_
  refine TT_iast hK (o := 74) (n := 47) (by decide) rfl (by decide) (by decide) dX12_init_79 ?_
  refine TT_hp (h' := tH Nm_11) (tH_put (o := 74) (i := 10) (v := (12289)) (by decide) (by decide)) ?_
  show TT K (75, rL lz_74) 1 47 80 [(0, vR 73)] [vR 74, vR 73] (tH Nm_11)
  refine TT_dup hK rfl dX12_init_80 ?_
  refine TT_bipush hK (by decide) dX12_init_81 ?_
  refine TT_sipush hK (by decide) dX12_init_83 ?_
  refine TT_iast hK (o := 74) (n := 47) (by decide) rfl (by decide) (by decide) dX12_init_86 ?_
  refine TT_hp (h' := tH Nm_12) (tH_put (o := 74) (i := 11) (v := (9217)) (by decide) (by decide)) ?_
  show TT K (75, rL lz_74) 1 47 87 [(0, vR 73)] [vR 74, vR 73] (tH Nm_12)
  refine TT_dup hK rfl dX12_init_87 ?_
  refine TT_bipush hK (by decide) dX12_init_88 ?_
  refine TT_sipush hK (by decide) dX12_init_90 ?_
  refine TT_iast hK (o := 74) (n := 47) (by decide) rfl (by decide) (by decide) dX12_init_93 ?_
  refine TT_hp (h' := tH Nm_13) (tH_put (o := 74) (i := 12) (v := (7169)) (by decide) (by decide)) ?_
  show TT K (75, rL lz_74) 1 47 94 [(0, vR 73)] [vR 74, vR 73] (tH Nm_13)
  refine TT_dup hK rfl dX12_init_94 ?_
  refine TT_bipush hK (by decide) dX12_init_95 ?_
  refine TT_sipush hK (by decide) dX12_init_97 ?_
  refine TT_iast hK (o := 74) (n := 47) (by decide) rfl (by decide) (by decide) dX12_init_100 ?_
  refine TT_hp (h' := tH Nm_14) (tH_put (o := 74) (i := 13) (v := (5633)) (by decide) (by decide)) ?_
  show TT K (75, rL lz_74) 1 47 101 [(0, vR 73)] [vR 74, vR 73] (tH Nm_14)
  refine TT_dup hK rfl dX12_init_101 ?_
  refine TT_bipush hK (by decide) dX12_init_102 ?_
  refine TT_sipush hK (by decide) dX12_init_104 ?_
  refine TT_iast hK (o := 74) (n := 47) (by decide) rfl (by decide) (by decide) dX12_init_107 ?_
  refine TT_hp (h' := tH Nm_15) (tH_put (o := 74) (i := 14) (v := (22017)) (by decide) (by decide)) ?_
  show TT K (75, rL lz_74) 1 47 108 [(0, vR 73)] [vR 74, vR 73] (tH Nm_15)
  refine TT_dup hK rfl dX12_init_108 ?_
  refine TT_bipush hK (by decide) dX12_init_109 ?_
  refine TT_sipush hK (by decide) dX12_init_111 ?_
  refine TT_iast hK (o := 74) (n := 47) (by decide) rfl (by decide) (by decide) dX12_init_114 ?_
  refine TT_hp (h' := tH Nm_16) (tH_put (o := 74) (i := 15) (v := (21505)) (by decide) (by decide)) ?_
  show TT K (75, rL lz_74) 1 47 115 [(0, vR 73)] [vR 74, vR 73] (tH Nm_16)
  refine TT_dup hK rfl dX12_init_115 ?_
  refine TT_bipush hK (by decide) dX12_init_116 ?_
  refine TT_sipush hK (by decide) dX12_init_118 ?_
  refine TT_iast hK (o := 74) (n := 47) (by decide) rfl (by decide) (by decide) dX12_init_121 ?_
  refine TT_hp (h' := tH Nm_17) (tH_put (o := 74) (i := 16) (v := (20737)) (by decide) (by decide)) ?_
  show TT K (75, rL lz_74) 1 47 122 [(0, vR 73)] [vR 74, vR 73] (tH Nm_17)
  refine TT_dup hK rfl dX12_init_122 ?_
  refine TT_bipush hK (by decide) dX12_init_123 ?_
  refine TT_sipush hK (by decide) dX12_init_125 ?_
  refine TT_iast hK (o := 74) (n := 47) (by decide) rfl (by decide) (by decide) dX12_init_128 ?_
  refine TT_hp (h' := tH Nm_18) (tH_put (o := 74) (i := 17) (v := (18433)) (by decide) (by decide)) ?_
  show TT K (75, rL lz_74) 1 47 129 [(0, vR 73)] [vR 74, vR 73] (tH Nm_18)
  refine TT_dup hK rfl dX12_init_129 ?_
  refine TT_bipush hK (by decide) dX12_init_130 ?_
  refine TT_sipush hK (by decide) dX12_init_132 ?_
  refine TT_iast hK (o := 74) (n := 47) (by decide) rfl (by decide) (by decide) dX12_init_135 ?_
  refine TT_hp (h' := tH Nm_19) (tH_put (o := 74) (i := 18) (v := (14337)) (by decide) (by decide)) ?_
  show TT K (75, rL lz_74) 1 47 136 [(0, vR 73)] [vR 74, vR 73] (tH Nm_19)
  refine TT_dup hK rfl dX12_init_136 ?_
  refine TT_bipush hK (by decide) dX12_init_137 ?_
  refine TT_sipush hK (by decide) dX12_init_139 ?_
  refine TT_iast hK (o := 74) (n := 47) (by decide) rfl (by decide) (by decide) dX12_init_142 ?_
  refine TT_hp (h' := tH Nm_20) (tH_put (o := 74) (i := 19) (v := (13313)) (by decide) (by decide)) ?_
  show TT K (75, rL lz_74) 1 47 143 [(0, vR 73)] [vR 74, vR 73] (tH Nm_20)
  refine TT_dup hK rfl dX12_init_143 ?_
  refine TT_bipush hK (by decide) dX12_init_144 ?_
  refine TT_sipush hK (by decide) dX12_init_146 ?_
  refine TT_iast hK (o := 74) (n := 47) (by decide) rfl (by decide) (by decide) dX12_init_149 ?_
  refine TT_hp (h' := tH Nm_21) (tH_put (o := 74) (i := 20) (v := (12289)) (by decide) (by decide)) ?_
  show TT K (75, rL lz_74) 1 47 150 [(0, vR 73)] [vR 74, vR 73] (tH Nm_21)
  refine TT_dup hK rfl dX12_init_150 ?_
  refine TT_bipush hK (by decide) dX12_init_151 ?_
  refine TT_sipush hK (by decide) dX12_init_153 ?_
  refine TT_iast hK (o := 74) (n := 47) (by decide) rfl (by decide) (by decide) dX12_init_156 ?_
  refine TT_hp (h' := tH Nm_22) (tH_put (o := 74) (i := 21) (v := (10241)) (by decide) (by decide)) ?_
  show TT K (75, rL lz_74) 1 47 157 [(0, vR 73)] [vR 74, vR 73] (tH Nm_22)
  refine TT_dup hK rfl dX12_init_157 ?_
  refine TT_bipush hK (by decide) dX12_init_158 ?_
  refine TT_sipush hK (by decide) dX12_init_160 ?_
  refine TT_iast hK (o := 74) (n := 47) (by decide) rfl (by decide) (by decide) dX12_init_163 ?_
  refine TT_hp (h' := tH Nm_23) (tH_put (o := 74) (i := 22) (v := (9217)) (by decide) (by decide)) ?_
  show TT K (75, rL lz_74) 1 47 164 [(0, vR 73)] [vR 74, vR 73] (tH Nm_23)
  refine TT_dup hK rfl dX12_init_164 ?_
  refine TT_bipush hK (by decide) dX12_init_165 ?_
  refine TT_sipush hK (by decide) dX12_init_167 ?_
  refine TT_iast hK (o := 74) (n := 47) (by decide) rfl (by decide) (by decide) dX12_init_170 ?_
  refine TT_hp (h' := tH Nm_24) (tH_put (o := 74) (i := 23) (v := (8705)) (by decide) (by decide)) ?_
  show TT K (75, rL lz_74) 1 47 171 [(0, vR 73)] [vR 74, vR 73] (tH Nm_24)
  refine TT_dup hK rfl dX12_init_171 ?_
  refine TT_bipush hK (by decide) dX12_init_172 ?_
  refine TT_sipush hK (by decide) dX12_init_174 ?_
  refine TT_iast hK (o := 74) (n := 47) (by decide) rfl (by decide) (by decide) dX12_init_177 ?_
  refine TT_hp (h' := tH Nm_25) (tH_put (o := 74) (i := 24) (v := (7169)) (by decide) (by decide)) ?_
  show TT K (75, rL lz_74) 1 47 178 [(0, vR 73)] [vR 74, vR 73] (tH Nm_25)
  refine TT_dup hK rfl dX12_init_178 ?_
  refine TT_bipush hK (by decide) dX12_init_179 ?_
  refine TT_sipush hK (by decide) dX12_init_181 ?_
  refine TT_iast hK (o := 74) (n := 47) (by decide) rfl (by decide) (by decide) dX12_init_184 ?_
  refine TT_hp (h' := tH Nm_26) (tH_put (o := 74) (i := 25) (v := (6145)) (by decide) (by decide)) ?_
  show TT K (75, rL lz_74) 1 47 185 [(0, vR 73)] [vR 74, vR 73] (tH Nm_26)
  refine TT_dup hK rfl dX12_init_185 ?_
  refine TT_bipush hK (by decide) dX12_init_186 ?_
  refine TT_sipush hK (by decide) dX12_init_188 ?_
  refine TT_iast hK (o := 74) (n := 47) (by decide) rfl (by decide) (by decide) dX12_init_191 ?_
  refine TT_hp (h' := tH Nm_27) (tH_put (o := 74) (i := 26) (v := (5633)) (by decide) (by decide)) ?_
  show TT K (75, rL lz_74) 1 47 192 [(0, vR 73)] [vR 74, vR 73] (tH Nm_27)
  refine TT_dup hK rfl dX12_init_192 ?_
  refine TT_bipush hK (by decide) dX12_init_193 ?_
  refine TT_sipush hK (by decide) dX12_init_195 ?_
  refine TT_iast hK (o := 74) (n := 47) (by decide) rfl (by decide) (by decide) dX12_init_198 ?_
  refine TT_hp (h' := tH Nm_28) (tH_put (o := 74) (i := 27) (v := (5121)) (by decide) (by decide)) ?_
  show TT K (75, rL lz_74) 1 47 199 [(0, vR 73)] [vR 74, vR 73] (tH Nm_28)
  refine TT_dup hK rfl dX12_init_199 ?_
  refine TT_bipush hK (by decide) dX12_init_200 ?_
  refine TT_sipush hK (by decide) dX12_init_202 ?_
  refine TT_iast hK (o := 74) (n := 47) (by decide) rfl (by decide) (by decide) dX12_init_205 ?_
  refine TT_hp (h' := tH Nm_29) (tH_put (o := 74) (i := 28) (v := (4609)) (by decide) (by decide)) ?_
  show TT K (75, rL lz_74) 1 47 206 [(0, vR 73)] [vR 74, vR 73] (tH Nm_29)
  refine TT_dup hK rfl dX12_init_206 ?_
  refine TT_bipush hK (by decide) dX12_init_207 ?_
  refine TT_sipush hK (by decide) dX12_init_209 ?_
  refine TT_iast hK (o := 74) (n := 47) (by decide) rfl (by decide) (by decide) dX12_init_212 ?_
  refine TT_hp (h' := tH Nm_30) (tH_put (o := 74) (i := 29) (v := (4353)) (by decide) (by decide)) ?_
  show TT K (75, rL lz_74) 1 47 213 [(0, vR 73)] [vR 74, vR 73] (tH Nm_30)
  refine TT_dup hK rfl dX12_init_213 ?_
  refine TT_bipush hK (by decide) dX12_init_214 ?_
  refine TT_sipush hK (by decide) dX12_init_216 ?_
  refine TT_iast hK (o := 74) (n := 47) (by decide) rfl (by decide) (by decide) dX12_init_219 ?_
  refine TT_hp (h' := tH Nm_31) (tH_put (o := 74) (i := 30) (v := (2753)) (by decide) (by decide)) ?_
  show TT K (75, rL lz_74) 1 47 220 [(0, vR 73)] [vR 74, vR 73] (tH Nm_31)
  refine TT_dup hK rfl dX12_init_220 ?_
  refine TT_bipush hK (by decide) dX12_init_221 ?_
  refine TT_sipush hK (by decide) dX12_init_223 ?_
  refine TT_iast hK (o := 74) (n := 47) (by decide) rfl (by decide) (by decide) dX12_init_226 ?_
  refine TT_hp (h' := tH Nm_32) (tH_put (o := 74) (i := 31) (v := (2497)) (by decide) (by decide)) ?_
  show TT K (75, rL lz_74) 1 47 227 [(0, vR 73)] [vR 74, vR 73] (tH Nm_32)
  refine TT_dup hK rfl dX12_init_227 ?_
  refine TT_bipush hK (by decide) dX12_init_228 ?_
  refine TT_sipush hK (by decide) dX12_init_230 ?_
  refine TT_iast hK (o := 74) (n := 47) (by decide) rfl (by decide) (by decide) dX12_init_233 ?_
  refine TT_hp (h' := tH Nm_33) (tH_put (o := 74) (i := 32) (v := (2209)) (by decide) (by decide)) ?_
  show TT K (75, rL lz_74) 1 47 234 [(0, vR 73)] [vR 74, vR 73] (tH Nm_33)
  refine TT_dup hK rfl dX12_init_234 ?_
  refine TT_bipush hK (by decide) dX12_init_235 ?_
  refine TT_sipush hK (by decide) dX12_init_237 ?_
  refine TT_iast hK (o := 74) (n := 47) (by decide) rfl (by decide) (by decide) dX12_init_240 ?_
  refine TT_hp (h' := tH Nm_34) (tH_put (o := 74) (i := 33) (v := (1313)) (by decide) (by decide)) ?_
  show TT K (75, rL lz_74) 1 47 241 [(0, vR 73)] [vR 74, vR 73] (tH Nm_34)
  refine TT_dup hK rfl dX12_init_241 ?_
  refine TT_bipush hK (by decide) dX12_init_242 ?_
  refine TT_sipush hK (by decide) dX12_init_244 ?_
  refine TT_iast hK (o := 74) (n := 47) (by decide) rfl (by decide) (by decide) dX12_init_247 ?_
  refine TT_hp (h' := tH Nm_35) (tH_put (o := 74) (i := 34) (v := (1089)) (by decide) (by decide)) ?_
  show TT K (75, rL lz_74) 1 47 248 [(0, vR 73)] [vR 74, vR 73] (tH Nm_35)
  refine TT_dup hK rfl dX12_init_248 ?_
  refine TT_bipush hK (by decide) dX12_init_249 ?_
  refine TT_sipush hK (by decide) dX12_init_251 ?_
  refine TT_iast hK (o := 74) (n := 47) (by decide) rfl (by decide) (by decide) dX12_init_254 ?_
  refine TT_hp (h' := tH Nm_36) (tH_put (o := 74) (i := 35) (v := (673)) (by decide) (by decide)) ?_
  show TT K (75, rL lz_74) 1 47 255 [(0, vR 73)] [vR 74, vR 73] (tH Nm_36)
  refine TT_dup hK rfl dX12_init_255 ?_
  refine TT_bipush hK (by decide) dX12_init_256 ?_
  refine TT_sipush hK (by decide) dX12_init_258 ?_
  refine TT_iast hK (o := 74) (n := 47) (by decide) rfl (by decide) (by decide) dX12_init_261 ?_
  refine TT_hp (h' := tH Nm_37) (tH_put (o := 74) (i := 36) (v := (545)) (by decide) (by decide)) ?_
  show TT K (75, rL lz_74) 1 47 262 [(0, vR 73)] [vR 74, vR 73] (tH Nm_37)
  refine TT_dup hK rfl dX12_init_262 ?_
  refine TT_bipush hK (by decide) dX12_init_263 ?_
  refine TT_sipush hK (by decide) dX12_init_265 ?_
  refine TT_iast hK (o := 74) (n := 47) (by decide) rfl (by decide) (by decide) dX12_init_268 ?_
  refine TT_hp (h' := tH Nm_38) (tH_put (o := 74) (i := 37) (v := (321)) (by decide) (by decide)) ?_
  show TT K (75, rL lz_74) 1 47 269 [(0, vR 73)] [vR 74, vR 73] (tH Nm_38)
  refine TT_dup hK rfl dX12_init_269 ?_
  refine TT_bipush hK (by decide) dX12_init_270 ?_
  refine TT_sipush hK (by decide) dX12_init_272 ?_
  refine TT_iast hK (o := 74) (n := 47) (by decide) rfl (by decide) (by decide) dX12_init_275 ?_
  refine TT_hp (h' := tH Nm_39) (tH_put (o := 74) (i := 38) (v := (273)) (by decide) (by decide)) ?_
  show TT K (75, rL lz_74) 1 47 276 [(0, vR 73)] [vR 74, vR 73] (tH Nm_39)
  refine TT_dup hK rfl dX12_init_276 ?_
  refine TT_bipush hK (by decide) dX12_init_277 ?_
  refine TT_sipush hK (by decide) dX12_init_279 ?_
  refine TT_iast hK (o := 74) (n := 47) (by decide) rfl (by decide) (by decide) dX12_init_282 ?_
  refine TT_hp (h' := tH Nm_40) (tH_put (o := 74) (i := 39) (v := (133)) (by decide) (by decide)) ?_
  show TT K (75, rL lz_74) 1 47 283 [(0, vR 73)] [vR 74, vR 73] (tH Nm_40)
  refine TT_dup hK rfl dX12_init_283 ?_
  refine TT_bipush hK (by decide) dX12_init_284 ?_
  refine TT_bipush hK (by decide) dX12_init_286 ?_
  refine TT_iast hK (o := 74) (n := 47) (by decide) rfl (by decide) (by decide) dX12_init_288 ?_
  refine TT_hp (h' := tH Nm_41) (tH_put (o := 74) (i := 40) (v := (73)) (by decide) (by decide)) ?_
  show TT K (75, rL lz_74) 1 47 289 [(0, vR 73)] [vR 74, vR 73] (tH Nm_41)
  refine TT_dup hK rfl dX12_init_289 ?_
  refine TT_bipush hK (by decide) dX12_init_290 ?_
  refine TT_bipush hK (by decide) dX12_init_292 ?_
  refine TT_iast hK (o := 74) (n := 47) (by decide) rfl (by decide) (by decide) dX12_init_294 ?_
  refine TT_hp (h' := tH Nm_42) (tH_put (o := 74) (i := 41) (v := (37)) (by decide) (by decide)) ?_
  show TT K (75, rL lz_74) 1 47 295 [(0, vR 73)] [vR 74, vR 73] (tH Nm_42)
  refine TT_dup hK rfl dX12_init_295 ?_
  refine TT_bipush hK (by decide) dX12_init_296 ?_
  refine TT_bipush hK (by decide) dX12_init_298 ?_
  refine TT_iast hK (o := 74) (n := 47) (by decide) rfl (by decide) (by decide) dX12_init_300 ?_
  refine TT_hp (h' := tH Nm_43) (tH_put (o := 74) (i := 42) (v := (21)) (by decide) (by decide)) ?_
  show TT K (75, rL lz_74) 1 47 301 [(0, vR 73)] [vR 74, vR 73] (tH Nm_43)
  refine TT_dup hK rfl dX12_init_301 ?_
  refine TT_bipush hK (by decide) dX12_init_302 ?_
  refine TT_bipush hK (by decide) dX12_init_304 ?_
  refine TT_iast hK (o := 74) (n := 47) (by decide) rfl (by decide) (by decide) dX12_init_306 ?_
  refine TT_hp (h' := tH Nm_44) (tH_put (o := 74) (i := 43) (v := (9)) (by decide) (by decide)) ?_
  show TT K (75, rL lz_74) 1 47 307 [(0, vR 73)] [vR 74, vR 73] (tH Nm_44)
  refine TT_dup hK rfl dX12_init_307 ?_
  refine TT_bipush hK (by decide) dX12_init_308 ?_
  refine TT_iconst hK dX12_init_310 ?_
  refine TT_iast hK (o := 74) (n := 47) (by decide) rfl (by decide) (by decide) dX12_init_311 ?_
  refine TT_hp (h' := tH Nm_45) (tH_put (o := 74) (i := 44) (v := (5)) (by decide) (by decide)) ?_
  show TT K (75, rL lz_74) 1 47 312 [(0, vR 73)] [vR 74, vR 73] (tH Nm_45)
  refine TT_dup hK rfl dX12_init_312 ?_
  refine TT_bipush hK (by decide) dX12_init_313 ?_
  refine TT_iconst hK dX12_init_315 ?_
  refine TT_iast hK (o := 74) (n := 47) (by decide) rfl (by decide) (by decide) dX12_init_316 ?_
  refine TT_hp (h' := tH Nm_46) (tH_put (o := 74) (i := 45) (v := (1)) (by decide) (by decide)) ?_
  show TT K (75, rL lz_74) 1 47 317 [(0, vR 73)] [vR 74, vR 73] (tH Nm_46)
  refine TT_dup hK rfl dX12_init_317 ?_
  refine TT_bipush hK (by decide) dX12_init_318 ?_
  refine TT_sipush hK (by decide) dX12_init_320 ?_
  refine TT_iast hK (o := 74) (n := 47) (by decide) rfl (by decide) (by decide) dX12_init_323 ?_
  refine TT_hp (h' := tH Nm_47) (tH_put (o := 74) (i := 46) (v := (22017)) (by decide) (by decide)) ?_
  show TT K (75, rL lz_74) 1 47 324 [(0, vR 73)] [vR 74, vR 73] (tH Nm_47)
  refine TT_putR hK hN (ci := 11) (k := 0) (q := 74) (T := TX12) (N := 56) rfl uin_12 (by decide) rfl (gd_ (tb_5 53 rfl) rfl) (by decide) rfl (by decide) tyX12_ok nmX12 rfl rfl (fun _ => ⟨rfl, rfl⟩) (by decide) rfl rfl dX12_init_324 ?_
  show TT K (75, rL lz_75) 1 47 327 [(0, vR 73)] [] (tH Nm_47)
  refine TT_aload_n hK rfl 0 rfl dX12_init_327 ?_
  refine TT_bipush hK (by decide) dX12_init_328 ?_
  refine TT_newa hK (t := 12) (N := 47) (ty := .int) rfl (gd_ (tb_1 46 rfl) rfl) (by decide) rfl (fun _ => tHz_Nm_47 (by decide +kernel) _) (by decide +kernel) (by decide) (by decide) (by decide) (by decide) (by decide) rfl rfl (by decide) (Nat.le_of_ble_eq_true rfl) dX12_init_330 ?_
  show TT K (76, rL lz_75) 2 94 332 [(0, vR 73)] [vR 75, vR 73] (tH Nm_47)
  refine TT_dup hK rfl dX12_init_332 ?_
  refine TT_iconst hK dX12_init_333 ?_
  refine TT_bipush hK (by decide) dX12_init_334 ?_
  refine TT_iast hK (o := 75) (n := 47) (by decide) rfl (by decide) (by decide) dX12_init_336 ?_
  refine TT_hp (h' := tH Nm_48) (tH_put (o := 75) (i := 0) (v := (101)) (by decide) (by decide)) ?_
  show TT K (76, rL lz_75) 2 94 337 [(0, vR 73)] [vR 75, vR 73] (tH Nm_48)
  refine TT_dup hK rfl dX12_init_337 ?_
  refine TT_iconst hK dX12_init_338 ?_
  refine TT_sipush hK (by decide) dX12_init_339 ?_
  refine TT_iast hK (o := 75) (n := 47) (by decide) rfl (by decide) (by decide) dX12_init_342 ?_
  refine TT_hp (h' := tH Nm_49) (tH_put (o := 75) (i := 1) (v := (206)) (by decide) (by decide)) ?_
  show TT K (76, rL lz_75) 2 94 343 [(0, vR 73)] [vR 75, vR 73] (tH Nm_49)
  refine TT_dup hK rfl dX12_init_343 ?_
  refine TT_iconst hK dX12_init_344 ?_
  refine TT_sipush hK (by decide) dX12_init_345 ?_
  refine TT_iast hK (o := 75) (n := 47) (by decide) rfl (by decide) (by decide) dX12_init_348 ?_
  refine TT_hp (h' := tH Nm_50) (tH_put (o := 75) (i := 2) (v := (309)) (by decide) (by decide)) ?_
  show TT K (76, rL lz_75) 2 94 349 [(0, vR 73)] [vR 75, vR 73] (tH Nm_50)
  refine TT_dup hK rfl dX12_init_349 ?_
  refine TT_iconst hK dX12_init_350 ?_
  refine TT_sipush hK (by decide) dX12_init_351 ?_
  refine TT_iast hK (o := 75) (n := 47) (by decide) rfl (by decide) (by decide) dX12_init_354 ?_
  refine TT_hp (h' := tH Nm_51) (tH_put (o := 75) (i := 3) (v := (412)) (by decide) (by decide)) ?_
  show TT K (76, rL lz_75) 2 94 355 [(0, vR 73)] [vR 75, vR 73] (tH Nm_51)
  refine TT_dup hK rfl dX12_init_355 ?_
  refine TT_iconst hK dX12_init_356 ?_
  refine TT_sipush hK (by decide) dX12_init_357 ?_
  refine TT_iast hK (o := 75) (n := 47) (by decide) rfl (by decide) (by decide) dX12_init_360 ?_
  refine TT_hp (h' := tH Nm_52) (tH_put (o := 75) (i := 4) (v := (529)) (by decide) (by decide)) ?_
  show TT K (76, rL lz_75) 2 94 361 [(0, vR 73)] [vR 75, vR 73] (tH Nm_52)
  refine TT_dup hK rfl dX12_init_361 ?_
  refine TT_iconst hK dX12_init_362 ?_
  refine TT_sipush hK (by decide) dX12_init_363 ?_
  refine TT_iast hK (o := 75) (n := 47) (by decide) rfl (by decide) (by decide) dX12_init_366 ?_
  refine TT_hp (h' := tH Nm_53) (tH_put (o := 75) (i := 5) (v := (3833)) (by decide) (by decide)) ?_
  show TT K (76, rL lz_75) 2 94 367 [(0, vR 73)] [vR 75, vR 73] (tH Nm_53)
  refine TT_dup hK rfl dX12_init_367 ?_
  refine TT_bipush hK (by decide) dX12_init_368 ?_
  refine TT_sipush hK (by decide) dX12_init_370 ?_
  refine TT_iast hK (o := 75) (n := 47) (by decide) rfl (by decide) (by decide) dX12_init_373 ?_
  refine TT_hp (h' := tH Nm_54) (tH_put (o := 75) (i := 6) (v := (706)) (by decide) (by decide)) ?_
  show TT K (76, rL lz_75) 2 94 374 [(0, vR 73)] [vR 75, vR 73] (tH Nm_54)
  refine TT_dup hK rfl dX12_init_374 ?_
  refine TT_bipush hK (by decide) dX12_init_375 ?_
  refine TT_sipush hK (by decide) dX12_init_377 ?_
  refine TT_iast hK (o := 75) (n := 47) (by decide) rfl (by decide) (by decide) dX12_init_380 ?_
  refine TT_hp (h' := tH Nm_55) (tH_put (o := 75) (i := 7) (v := (814)) (by decide) (by decide)) ?_
  show TT K (76, rL lz_75) 2 94 381 [(0, vR 73)] [vR 75, vR 73] (tH Nm_55)
  refine TT_dup hK rfl dX12_init_381 ?_
  refine TT_bipush hK (by decide) dX12_init_382 ?_
  refine TT_sipush hK (by decide) dX12_init_384 ?_
  refine TT_iast hK (o := 75) (n := 47) (by decide) rfl (by decide) (by decide) dX12_init_387 ?_
  refine TT_hp (h' := tH Nm_56) (tH_put (o := 75) (i := 8) (v := (914)) (by decide) (by decide)) ?_
  show TT K (76, rL lz_75) 2 94 388 [(0, vR 73)] [vR 75, vR 73] (tH Nm_56)
  refine TT_dup hK rfl dX12_init_388 ?_
  refine TT_bipush hK (by decide) dX12_init_389 ?_
  refine TT_sipush hK (by decide) dX12_init_391 ?_
  refine TT_iast hK (o := 75) (n := 47) (by decide) rfl (by decide) (by decide) dX12_init_394 ?_
  refine TT_hp (h' := tH Nm_57) (tH_put (o := 75) (i := 9) (v := (1014)) (by decide) (by decide)) ?_
  show TT K (76, rL lz_75) 2 94 395 [(0, vR 73)] [vR 75, vR 73] (tH Nm_57)
  refine TT_dup hK rfl dX12_init_395 ?_
  refine TT_bipush hK (by decide) dX12_init_396 ?_
  refine TT_sipush hK (by decide) dX12_init_398 ?_
  refine TT_iast hK (o := 75) (n := 47) (by decide) rfl (by decide) (by decide) dX12_init_401 ?_
  refine TT_hp (h' := tH Nm_58) (tH_put (o := 75) (i := 10) (v := (1117)) (by decide) (by decide)) ?_
  show TT K (76, rL lz_75) 2 94 402 [(0, vR 73)] [vR 75, vR 73] (tH Nm_58)
  refine TT_dup hK rfl dX12_init_402 ?_
  refine TT_bipush hK (by decide) dX12_init_403 ?_
  refine TT_sipush hK (by decide) dX12_init_405 ?_
  refine TT_iast hK (o := 75) (n := 47) (by decide) rfl (by decide) (by decide) dX12_init_408 ?_
  refine TT_hp (h' := tH Nm_59) (tH_put (o := 75) (i := 11) (v := (1218)) (by decide) (by decide)) ?_
  show TT K (76, rL lz_75) 2 94 409 [(0, vR 73)] [vR 75, vR 73] (tH Nm_59)
  refine TT_dup hK rfl dX12_init_409 ?_
  refine TT_bipush hK (by decide) dX12_init_410 ?_
  refine TT_sipush hK (by decide) dX12_init_412 ?_
  refine TT_iast hK (o := 75) (n := 47) (by decide) rfl (by decide) (by decide) dX12_init_415 ?_
  refine TT_hp (h' := tH Nm_60) (tH_put (o := 75) (i := 12) (v := (1320)) (by decide) (by decide)) ?_
  show TT K (76, rL lz_75) 2 94 416 [(0, vR 73)] [vR 75, vR 73] (tH Nm_60)
  refine TT_dup hK rfl dX12_init_416 ?_
  refine TT_bipush hK (by decide) dX12_init_417 ?_
  refine TT_sipush hK (by decide) dX12_init_419 ?_
  refine TT_iast hK (o := 75) (n := 47) (by decide) rfl (by decide) (by decide) dX12_init_422 ?_
  refine TT_hp (h' := tH Nm_61) (tH_put (o := 75) (i := 13) (v := (2921)) (by decide) (by decide)) ?_
  show TT K (76, rL lz_75) 2 94 423 [(0, vR 73)] [vR 75, vR 73] (tH Nm_61)
  refine TT_dup hK rfl dX12_init_423 ?_
  refine TT_bipush hK (by decide) dX12_init_424 ?_
  refine TT_sipush hK (by decide) dX12_init_426 ?_
  refine TT_iast hK (o := 75) (n := 47) (by decide) rfl (by decide) (by decide) dX12_init_429 ?_
  refine TT_hp (h' := tH Nm_62) (tH_put (o := 75) (i := 14) (v := (1514)) (by decide) (by decide)) ?_
  show TT K (76, rL lz_75) 2 94 430 [(0, vR 73)] [vR 75, vR 73] (tH Nm_62)
  refine TT_dup hK rfl dX12_init_430 ?_
  refine TT_bipush hK (by decide) dX12_init_431 ?_
  refine TT_sipush hK (by decide) dX12_init_433 ?_
  refine TT_iast hK (o := 75) (n := 47) (by decide) rfl (by decide) (by decide) dX12_init_436 ?_
  refine TT_hp (h' := tH Nm_63) (tH_put (o := 75) (i := 15) (v := (1614)) (by decide) (by decide)) ?_
  show TT K (76, rL lz_75) 2 94 437 [(0, vR 73)] [vR 75, vR 73] (tH Nm_63)
  refine TT_dup hK rfl dX12_init_437 ?_
  refine TT_bipush hK (by decide) dX12_init_438 ?_
  refine TT_sipush hK (by decide) dX12_init_440 ?_
  refine TT_iast hK (o := 75) (n := 47) (by decide) rfl (by decide) (by decide) dX12_init_443 ?_
  refine TT_hp (h' := tH Nm_64) (tH_put (o := 75) (i := 16) (v := (1715)) (by decide) (by decide)) ?_
  show TT K (76, rL lz_75) 2 94 444 [(0, vR 73)] [vR 75, vR 73] (tH Nm_64)
  refine TT_dup hK rfl dX12_init_444 ?_
  refine TT_bipush hK (by decide) dX12_init_445 ?_
  refine TT_sipush hK (by decide) dX12_init_447 ?_
  refine TT_iast hK (o := 75) (n := 47) (by decide) rfl (by decide) (by decide) dX12_init_450 ?_
  refine TT_hp (h' := tH Nm_65) (tH_put (o := 75) (i := 17) (v := (1816)) (by decide) (by decide)) ?_
  show TT K (76, rL lz_75) 2 94 451 [(0, vR 73)] [vR 75, vR 73] (tH Nm_65)
  refine TT_dup hK rfl dX12_init_451 ?_
  refine TT_bipush hK (by decide) dX12_init_452 ?_
  refine TT_sipush hK (by decide) dX12_init_454 ?_
  refine TT_iast hK (o := 75) (n := 47) (by decide) rfl (by decide) (by decide) dX12_init_457 ?_
  refine TT_hp (h' := tH Nm_66) (tH_put (o := 75) (i := 18) (v := (1917)) (by decide) (by decide)) ?_
  show TT K (76, rL lz_75) 2 94 458 [(0, vR 73)] [vR 75, vR 73] (tH Nm_66)
  refine TT_dup hK rfl dX12_init_458 ?_
  refine TT_bipush hK (by decide) dX12_init_459 ?_
  refine TT_sipush hK (by decide) dX12_init_461 ?_
  refine TT_iast hK (o := 75) (n := 47) (by decide) rfl (by decide) (by decide) dX12_init_464 ?_
  refine TT_hp (h' := tH Nm_67) (tH_put (o := 75) (i := 19) (v := (2018)) (by decide) (by decide)) ?_
  show TT K (76, rL lz_75) 2 94 465 [(0, vR 73)] [vR 75, vR 73] (tH Nm_67)
  refine TT_dup hK rfl dX12_init_465 ?_
  refine TT_bipush hK (by decide) dX12_init_466 ?_
  refine TT_sipush hK (by decide) dX12_init_468 ?_
  refine TT_iast hK (o := 75) (n := 47) (by decide) rfl (by decide) (by decide) dX12_init_471 ?_
  refine TT_hp (h' := tH Nm_68) (tH_put (o := 75) (i := 20) (v := (2119)) (by decide) (by decide)) ?_
  show TT K (76, rL lz_75) 2 94 472 [(0, vR 73)] [vR 75, vR 73] (tH Nm_68)
  refine TT_dup hK rfl dX12_init_472 ?_
  refine TT_bipush hK (by decide) dX12_init_473 ?_
  refine TT_sipush hK (by decide) dX12_init_475 ?_
  refine TT_iast hK (o := 75) (n := 47) (by decide) rfl (by decide) (by decide) dX12_init_478 ?_
  refine TT_hp (h' := tH Nm_69) (tH_put (o := 75) (i := 21) (v := (2219)) (by decide) (by decide)) ?_
  show TT K (76, rL lz_75) 2 94 479 [(0, vR 73)] [vR 75, vR 73] (tH Nm_69)
  refine TT_dup hK rfl dX12_init_479 ?_
  refine TT_bipush hK (by decide) dX12_init_480 ?_
  refine TT_sipush hK (by decide) dX12_init_482 ?_
  refine TT_iast hK (o := 75) (n := 47) (by decide) rfl (by decide) (by decide) dX12_init_485 ?_
  refine TT_hp (h' := tH Nm_70) (tH_put (o := 75) (i := 22) (v := (2320)) (by decide) (by decide)) ?_
  show TT K (76, rL lz_75) 2 94 486 [(0, vR 73)] [vR 75, vR 73] (tH Nm_70)
  refine TT_dup hK rfl dX12_init_486 ?_
  refine TT_bipush hK (by decide) dX12_init_487 ?_
  refine TT_sipush hK (by decide) dX12_init_489 ?_
  refine TT_iast hK (o := 75) (n := 47) (by decide) rfl (by decide) (by decide) dX12_init_492 ?_
  refine TT_hp (h' := tH Nm_71) (tH_put (o := 75) (i := 23) (v := (2421)) (by decide) (by decide)) ?_
  show TT K (76, rL lz_75) 2 94 493 [(0, vR 73)] [vR 75, vR 73] (tH Nm_71)
  refine TT_dup hK rfl dX12_init_493 ?_
  refine TT_bipush hK (by decide) dX12_init_494 ?_
  refine TT_sipush hK (by decide) dX12_init_496 ?_
  refine TT_iast hK (o := 75) (n := 47) (by decide) rfl (by decide) (by decide) dX12_init_499 ?_
  refine TT_hp (h' := tH Nm_72) (tH_put (o := 75) (i := 24) (v := (2522)) (by decide) (by decide)) ?_
  show TT K (76, rL lz_75) 2 94 500 [(0, vR 73)] [vR 75, vR 73] (tH Nm_72)
  refine TT_dup hK rfl dX12_init_500 ?_
  refine TT_bipush hK (by decide) dX12_init_501 ?_
  refine TT_sipush hK (by decide) dX12_init_503 ?_
  refine TT_iast hK (o := 75) (n := 47) (by decide) rfl (by decide) (by decide) dX12_init_506 ?_
  refine TT_hp (h' := tH Nm_73) (tH_put (o := 75) (i := 25) (v := (2623)) (by decide) (by decide)) ?_
  show TT K (76, rL lz_75) 2 94 507 [(0, vR 73)] [vR 75, vR 73] (tH Nm_73)
  refine TT_dup hK rfl dX12_init_507 ?_
  refine TT_bipush hK (by decide) dX12_init_508 ?_
  refine TT_sipush hK (by decide) dX12_init_510 ?_
  refine TT_iast hK (o := 75) (n := 47) (by decide) rfl (by decide) (by decide) dX12_init_513 ?_
  refine TT_hp (h' := tH Nm_74) (tH_put (o := 75) (i := 26) (v := (2724)) (by decide) (by decide)) ?_
  show TT K (76, rL lz_75) 2 94 514 [(0, vR 73)] [vR 75, vR 73] (tH Nm_74)
  refine TT_dup hK rfl dX12_init_514 ?_
  refine TT_bipush hK (by decide) dX12_init_515 ?_
  refine TT_sipush hK (by decide) dX12_init_517 ?_
  refine TT_iast hK (o := 75) (n := 47) (by decide) rfl (by decide) (by decide) dX12_init_520 ?_
  refine TT_hp (h' := tH Nm_75) (tH_put (o := 75) (i := 27) (v := (2825)) (by decide) (by decide)) ?_
  show TT K (76, rL lz_75) 2 94 521 [(0, vR 73)] [vR 75, vR 73] (tH Nm_75)
  refine TT_dup hK rfl dX12_init_521 ?_
  refine TT_bipush hK (by decide) dX12_init_522 ?_
  refine TT_sipush hK (by decide) dX12_init_524 ?_
  refine TT_iast hK (o := 75) (n := 47) (by decide) rfl (by decide) (by decide) dX12_init_527 ?_
  refine TT_hp (h' := tH Nm_76) (tH_put (o := 75) (i := 28) (v := (2926)) (by decide) (by decide)) ?_
  show TT K (76, rL lz_75) 2 94 528 [(0, vR 73)] [vR 75, vR 73] (tH Nm_76)
  refine TT_dup hK rfl dX12_init_528 ?_
  refine TT_bipush hK (by decide) dX12_init_529 ?_
  refine TT_sipush hK (by decide) dX12_init_531 ?_
  refine TT_iast hK (o := 75) (n := 47) (by decide) rfl (by decide) (by decide) dX12_init_534 ?_
  refine TT_hp (h' := tH Nm_77) (tH_put (o := 75) (i := 29) (v := (3027)) (by decide) (by decide)) ?_
  show TT K (76, rL lz_75) 2 94 535 [(0, vR 73)] [vR 75, vR 73] (tH Nm_77)
  refine TT_dup hK rfl dX12_init_535 ?_
  refine TT_bipush hK (by decide) dX12_init_536 ?_
  refine TT_sipush hK (by decide) dX12_init_538 ?_
  refine TT_iast hK (o := 75) (n := 47) (by decide) rfl (by decide) (by decide) dX12_init_541 ?_
  refine TT_hp (h' := tH Nm_78) (tH_put (o := 75) (i := 30) (v := (3128)) (by decide) (by decide)) ?_
  show TT K (76, rL lz_75) 2 94 542 [(0, vR 73)] [vR 75, vR 73] (tH Nm_78)
  refine TT_dup hK rfl dX12_init_542 ?_
  refine TT_bipush hK (by decide) dX12_init_543 ?_
  refine TT_sipush hK (by decide) dX12_init_545 ?_
  refine TT_iast hK (o := 75) (n := 47) (by decide) rfl (by decide) (by decide) dX12_init_548 ?_
  refine TT_hp (h' := tH Nm_79) (tH_put (o := 75) (i := 31) (v := (3229)) (by decide) (by decide)) ?_
  show TT K (76, rL lz_75) 2 94 549 [(0, vR 73)] [vR 75, vR 73] (tH Nm_79)
  refine TT_dup hK rfl dX12_init_549 ?_
  refine TT_bipush hK (by decide) dX12_init_550 ?_
  refine TT_sipush hK (by decide) dX12_init_552 ?_
  refine TT_iast hK (o := 75) (n := 47) (by decide) rfl (by decide) (by decide) dX12_init_555 ?_
  refine TT_hp (h' := tH Nm_80) (tH_put (o := 75) (i := 32) (v := (3330)) (by decide) (by decide)) ?_
  show TT K (76, rL lz_75) 2 94 556 [(0, vR 73)] [vR 75, vR 73] (tH Nm_80)
  refine TT_dup hK rfl dX12_init_556 ?_
  refine TT_bipush hK (by decide) dX12_init_557 ?_
  refine TT_sipush hK (by decide) dX12_init_559 ?_
  refine TT_iast hK (o := 75) (n := 47) (by decide) rfl (by decide) (by decide) dX12_init_562 ?_
  refine TT_hp (h' := tH Nm_81) (tH_put (o := 75) (i := 33) (v := (3431)) (by decide) (by decide)) ?_
  show TT K (76, rL lz_75) 2 94 563 [(0, vR 73)] [vR 75, vR 73] (tH Nm_81)
  refine TT_dup hK rfl dX12_init_563 ?_
  refine TT_bipush hK (by decide) dX12_init_564 ?_
  refine TT_sipush hK (by decide) dX12_init_566 ?_
  refine TT_iast hK (o := 75) (n := 47) (by decide) rfl (by decide) (by decide) dX12_init_569 ?_
  refine TT_hp (h' := tH Nm_82) (tH_put (o := 75) (i := 34) (v := (3532)) (by decide) (by decide)) ?_
  show TT K (76, rL lz_75) 2 94 570 [(0, vR 73)] [vR 75, vR 73] (tH Nm_82)
  refine TT_dup hK rfl dX12_init_570 ?_
  refine TT_bipush hK (by decide) dX12_init_571 ?_
  refine TT_sipush hK (by decide) dX12_init_573 ?_
  refine TT_iast hK (o := 75) (n := 47) (by decide) rfl (by decide) (by decide) dX12_init_576 ?_
  refine TT_hp (h' := tH Nm_83) (tH_put (o := 75) (i := 35) (v := (3633)) (by decide) (by decide)) ?_
  show TT K (76, rL lz_75) 2 94 577 [(0, vR 73)] [vR 75, vR 73] (tH Nm_83)
  refine TT_dup hK rfl dX12_init_577 ?_
  refine TT_bipush hK (by decide) dX12_init_578 ?_
  refine TT_sipush hK (by decide) dX12_init_580 ?_
  refine TT_iast hK (o := 75) (n := 47) (by decide) rfl (by decide) (by decide) dX12_init_583 ?_
  refine TT_hp (h' := tH Nm_84) (tH_put (o := 75) (i := 36) (v := (3734)) (by decide) (by decide)) ?_
  show TT K (76, rL lz_75) 2 94 584 [(0, vR 73)] [vR 75, vR 73] (tH Nm_84)
  refine TT_dup hK rfl dX12_init_584 ?_
  refine TT_bipush hK (by decide) dX12_init_585 ?_
  refine TT_sipush hK (by decide) dX12_init_587 ?_
  refine TT_iast hK (o := 75) (n := 47) (by decide) rfl (by decide) (by decide) dX12_init_590 ?_
  refine TT_hp (h' := tH Nm_85) (tH_put (o := 75) (i := 37) (v := (3835)) (by decide) (by decide)) ?_
  show TT K (76, rL lz_75) 2 94 591 [(0, vR 73)] [vR 75, vR 73] (tH Nm_85)
  refine TT_dup hK rfl dX12_init_591 ?_
  refine TT_bipush hK (by decide) dX12_init_592 ?_
  refine TT_sipush hK (by decide) dX12_init_594 ?_
  refine TT_iast hK (o := 75) (n := 47) (by decide) rfl (by decide) (by decide) dX12_init_597 ?_
  refine TT_hp (h' := tH Nm_86) (tH_put (o := 75) (i := 38) (v := (3936)) (by decide) (by decide)) ?_
  show TT K (76, rL lz_75) 2 94 598 [(0, vR 73)] [vR 75, vR 73] (tH Nm_86)
  refine TT_dup hK rfl dX12_init_598 ?_
  refine TT_bipush hK (by decide) dX12_init_599 ?_
  refine TT_sipush hK (by decide) dX12_init_601 ?_
  refine TT_iast hK (o := 75) (n := 47) (by decide) rfl (by decide) (by decide) dX12_init_604 ?_
  refine TT_hp (h' := tH Nm_87) (tH_put (o := 75) (i := 39) (v := (4037)) (by decide) (by decide)) ?_
  show TT K (76, rL lz_75) 2 94 605 [(0, vR 73)] [vR 75, vR 73] (tH Nm_87)
  refine TT_dup hK rfl dX12_init_605 ?_
  refine TT_bipush hK (by decide) dX12_init_606 ?_
  refine TT_sipush hK (by decide) dX12_init_608 ?_
  refine TT_iast hK (o := 75) (n := 47) (by decide) rfl (by decide) (by decide) dX12_init_611 ?_
  refine TT_hp (h' := tH Nm_88) (tH_put (o := 75) (i := 40) (v := (4138)) (by decide) (by decide)) ?_
  show TT K (76, rL lz_75) 2 94 612 [(0, vR 73)] [vR 75, vR 73] (tH Nm_88)
  refine TT_dup hK rfl dX12_init_612 ?_
  refine TT_bipush hK (by decide) dX12_init_613 ?_
  refine TT_sipush hK (by decide) dX12_init_615 ?_
  refine TT_iast hK (o := 75) (n := 47) (by decide) rfl (by decide) (by decide) dX12_init_618 ?_
  refine TT_hp (h' := tH Nm_89) (tH_put (o := 75) (i := 41) (v := (4239)) (by decide) (by decide)) ?_
  show TT K (76, rL lz_75) 2 94 619 [(0, vR 73)] [vR 75, vR 73] (tH Nm_89)
  refine TT_dup hK rfl dX12_init_619 ?_
  refine TT_bipush hK (by decide) dX12_init_620 ?_
  refine TT_sipush hK (by decide) dX12_init_622 ?_
  refine TT_iast hK (o := 75) (n := 47) (by decide) rfl (by decide) (by decide) dX12_init_625 ?_
  refine TT_hp (h' := tH Nm_90) (tH_put (o := 75) (i := 42) (v := (4340)) (by decide) (by decide)) ?_
  show TT K (76, rL lz_75) 2 94 626 [(0, vR 73)] [vR 75, vR 73] (tH Nm_90)
  refine TT_dup hK rfl dX12_init_626 ?_
  refine TT_bipush hK (by decide) dX12_init_627 ?_
  refine TT_sipush hK (by decide) dX12_init_629 ?_
  refine TT_iast hK (o := 75) (n := 47) (by decide) rfl (by decide) (by decide) dX12_init_632 ?_
  refine TT_hp (h' := tH Nm_91) (tH_put (o := 75) (i := 43) (v := (4441)) (by decide) (by decide)) ?_
  show TT K (76, rL lz_75) 2 94 633 [(0, vR 73)] [vR 75, vR 73] (tH Nm_91)
  refine TT_dup hK rfl dX12_init_633 ?_
  refine TT_bipush hK (by decide) dX12_init_634 ?_
  refine TT_sipush hK (by decide) dX12_init_636 ?_
  refine TT_iast hK (o := 75) (n := 47) (by decide) rfl (by decide) (by decide) dX12_init_639 ?_
  refine TT_hp (h' := tH Nm_92) (tH_put (o := 75) (i := 44) (v := (4542)) (by decide) (by decide)) ?_
  show TT K (76, rL lz_75) 2 94 640 [(0, vR 73)] [vR 75, vR 73] (tH Nm_92)
  refine TT_dup hK rfl dX12_init_640 ?_
  refine TT_bipush hK (by decide) dX12_init_641 ?_
  refine TT_sipush hK (by decide) dX12_init_643 ?_
  refine TT_iast hK (o := 75) (n := 47) (by decide) rfl (by decide) (by decide) dX12_init_646 ?_
  refine TT_hp (h' := tH Nm_93) (tH_put (o := 75) (i := 45) (v := (4543)) (by decide) (by decide)) ?_
  show TT K (76, rL lz_75) 2 94 647 [(0, vR 73)] [vR 75, vR 73] (tH Nm_93)
  refine TT_dup hK rfl dX12_init_647 ?_
  refine TT_bipush hK (by decide) dX12_init_648 ?_
  refine TT_sipush hK (by decide) dX12_init_650 ?_
  refine TT_iast hK (o := 75) (n := 47) (by decide) rfl (by decide) (by decide) dX12_init_653 ?_
  refine TT_hp (h' := tH Nm_94) (tH_put (o := 75) (i := 46) (v := (4646)) (by decide) (by decide)) ?_
  show TT K (76, rL lz_75) 2 94 654 [(0, vR 73)] [vR 75, vR 73] (tH Nm_94)
  refine TT_putR hK hN (ci := 11) (k := 1) (q := 75) (T := TX12) (N := 56) rfl uin_12 (by decide) rfl (gd_ (tb_5 54 rfl) rfl) (by decide) rfl (by decide) tyX12_ok nmX12 rfl rfl (fun _ => ⟨rfl, rfl⟩) (by decide) rfl rfl dX12_init_654 ?_
  show TT K (76, rL lz_76) 2 94 657 [(0, vR 73)] [] (tH Nm_94)
  refine TT_aload_n hK rfl 0 rfl dX12_init_657 ?_
  refine TT_iconst hK dX12_init_658 ?_
  refine pf_X12_16 hK (by decide) rfl dX12_init_659 ?_
  refine TT_hp (h' := tH Nm_95) (tH_put (o := 73) (i := 3) (v := (1)) (by decide) (by decide)) ?_
  show TT K (76, rL lz_76) 2 94 662 [(0, vR 73)] [] (tH Nm_95)
  refine TT_aload_n hK rfl 0 rfl dX12_init_662 ?_
  refine TT_iconst hK dX12_init_663 ?_
  refine pf_X12_20 hK (by decide) rfl dX12_init_664 ?_
  refine TT_hp (h' := tH Nm_96) (tH_put (o := 73) (i := 4) (v := (1)) (by decide) (by decide)) ?_
  show TT K (76, rL lz_76) 2 94 667 [(0, vR 73)] [] (tH Nm_96)
  refine TT_aload_n hK rfl 0 rfl dX12_init_667 ?_
  refine TT_bipush hK (by decide) dX12_init_668 ?_
  refine TT_newa hK (t := 12) (N := 64) (ty := .int) rfl (gd_ (tb_1 46 rfl) rfl) (by decide) rfl (fun _ => tHz_Nm_96 (by decide +kernel) _) (by decide +kernel) (by decide) (by decide) (by decide) (by decide) (by decide) rfl rfl (by decide) (Nat.le_of_ble_eq_true rfl) dX12_init_670 ?_
  show TT K (77, rL lz_76) 3 158 672 [(0, vR 73)] [vR 76, vR 73] (tH Nm_96)
  refine TT_putR hK hN (ci := 11) (k := 5) (q := 76) (T := TX12) (N := 56) rfl uin_12 (by decide) rfl (gd_ (tb_5 58 rfl) rfl) (by decide) rfl (by decide) tyX12_ok nmX12 rfl rfl (fun _ => ⟨rfl, rfl⟩) (by decide) rfl rfl dX12_init_672 ?_
  show TT K (77, rL lz_77) 3 158 675 [(0, vR 73)] [] (tH Nm_96)
  refine TT_aload_n hK rfl 0 rfl dX12_init_675 ?_
  refine TT_bipush hK (by decide) dX12_init_676 ?_
  refine TT_newa hK (t := 12) (N := 64) (ty := .int) rfl (gd_ (tb_1 46 rfl) rfl) (by decide) rfl (fun _ => tHz_Nm_96 (by decide +kernel) _) (by decide +kernel) (by decide) (by decide) (by decide) (by decide) (by decide) rfl rfl (by decide) (Nat.le_of_ble_eq_true rfl) dX12_init_678 ?_
  show TT K (78, rL lz_77) 4 222 680 [(0, vR 73)] [vR 77, vR 73] (tH Nm_96)
  refine TT_putR hK hN (ci := 11) (k := 6) (q := 77) (T := TX12) (N := 56) rfl uin_12 (by decide) rfl (gd_ (tb_5 59 rfl) rfl) (by decide) rfl (by decide) tyX12_ok nmX12 rfl rfl (fun _ => ⟨rfl, rfl⟩) (by decide) rfl rfl dX12_init_680 ?_
  show TT K (78, rL lz_78) 4 222 683 [(0, vR 73)] [] (tH Nm_96)
  refine TT_aload_n hK rfl 0 rfl dX12_init_683 ?_
  refine TT_bipush hK (by decide) dX12_init_684 ?_
  refine TT_newa hK (t := 12) (N := 8) (ty := .int) rfl (gd_ (tb_1 46 rfl) rfl) (by decide) rfl (fun _ => tHz_Nm_96 (by decide +kernel) _) (by decide +kernel) (by decide) (by decide) (by decide) (by decide) (by decide) rfl rfl (by decide) (Nat.le_of_ble_eq_true rfl) dX12_init_686 ?_
  show TT K (79, rL lz_78) 5 230 688 [(0, vR 73)] [vR 78, vR 73] (tH Nm_96)
  refine TT_putR hK hN (ci := 11) (k := 7) (q := 78) (T := TX12) (N := 56) rfl uin_12 (by decide) rfl (gd_ (tb_5 60 rfl) rfl) (by decide) rfl (by decide) tyX12_ok nmX12 rfl rfl (fun _ => ⟨rfl, rfl⟩) (by decide) rfl rfl dX12_init_688 ?_
  show TT K (79, rL lz_79) 5 230 691 [(0, vR 73)] [] (tH Nm_96)
  refine TT_aload_n hK rfl 0 rfl dX12_init_691 ?_
  refine TT_bipush hK (by decide) dX12_init_692 ?_
  refine TT_newa hK (t := 12) (N := 8) (ty := .int) rfl (gd_ (tb_1 46 rfl) rfl) (by decide) rfl (fun _ => tHz_Nm_96 (by decide +kernel) _) (by decide +kernel) (by decide) (by decide) (by decide) (by decide) (by decide) rfl rfl (by decide) (Nat.le_of_ble_eq_true rfl) dX12_init_694 ?_
  show TT K (80, rL lz_79) 6 238 696 [(0, vR 73)] [vR 79, vR 73] (tH Nm_96)
  refine TT_putR hK hN (ci := 11) (k := 8) (q := 79) (T := TX12) (N := 56) rfl uin_12 (by decide) rfl (gd_ (tb_5 61 rfl) rfl) (by decide) rfl (by decide) tyX12_ok nmX12 rfl rfl (fun _ => ⟨rfl, rfl⟩) (by decide) rfl rfl dX12_init_696 ?_
  show TT K (80, rL lz_80) 6 238 699 [(0, vR 73)] [] (tH Nm_96)
  refine TT_aload_n hK rfl 0 rfl dX12_init_699 ?_
  refine TT_bipush hK (by decide) dX12_init_700 ?_
  refine TT_newa hK (t := 12) (N := 20) (ty := .int) rfl (gd_ (tb_1 46 rfl) rfl) (by decide) rfl (fun _ => tHz_Nm_96 (by decide +kernel) _) (by decide +kernel) (by decide) (by decide) (by decide) (by decide) (by decide) rfl rfl (by decide) (Nat.le_of_ble_eq_true rfl) dX12_init_702 ?_
  show TT K (81, rL lz_80) 7 258 704 [(0, vR 73)] [vR 80, vR 73] (tH Nm_96)
  refine TT_putR hK hN (ci := 11) (k := 9) (q := 80) (T := TX12) (N := 56) rfl uin_12 (by decide) rfl (gd_ (tb_5 62 rfl) rfl) (by decide) rfl (by decide) tyX12_ok nmX12 rfl rfl (fun _ => ⟨rfl, rfl⟩) (by decide) rfl rfl dX12_init_704 ?_
  show TT K (81, rL lz_81) 7 258 707 [(0, vR 73)] [] (tH Nm_96)
  refine TT_aload_n hK rfl 0 rfl dX12_init_707 ?_
  refine TT_bipush hK (by decide) dX12_init_708 ?_
  refine TT_newa hK (t := 12) (N := 20) (ty := .int) rfl (gd_ (tb_1 46 rfl) rfl) (by decide) rfl (fun _ => tHz_Nm_96 (by decide +kernel) _) (by decide +kernel) (by decide) (by decide) (by decide) (by decide) (by decide) rfl rfl (by decide) (Nat.le_of_ble_eq_true rfl) dX12_init_710 ?_
  show TT K (82, rL lz_81) 8 278 712 [(0, vR 73)] [vR 81, vR 73] (tH Nm_96)
  refine TT_putR hK hN (ci := 11) (k := 10) (q := 81) (T := TX12) (N := 56) rfl uin_12 (by decide) rfl (gd_ (tb_5 63 rfl) rfl) (by decide) rfl (by decide) tyX12_ok nmX12 rfl rfl (fun _ => ⟨rfl, rfl⟩) (by decide) rfl rfl dX12_init_712 ?_
  show TT K (82, rL lz_82) 8 278 715 [(0, vR 73)] [] (tH Nm_96)
  refine TT_aload_n hK rfl 0 rfl dX12_init_715 ?_
  refine TT_bipush hK (by decide) dX12_init_716 ?_
  refine TT_newa hK (t := 12) (N := 20) (ty := .int) rfl (gd_ (tb_1 46 rfl) rfl) (by decide) rfl (fun _ => tHz_Nm_96 (by decide +kernel) _) (by decide +kernel) (by decide) (by decide) (by decide) (by decide) (by decide) rfl rfl (by decide) (Nat.le_of_ble_eq_true rfl) dX12_init_718 ?_
  show TT K (83, rL lz_82) 9 298 720 [(0, vR 73)] [vR 82, vR 73] (tH Nm_96)
  refine TT_putR hK hN (ci := 11) (k := 11) (q := 82) (T := TX12) (N := 56) rfl uin_12 (by decide) rfl (gd_ (tb_5 64 rfl) rfl) (by decide) rfl (by decide) tyX12_ok nmX12 rfl rfl (fun _ => ⟨rfl, rfl⟩) (by decide) rfl rfl dX12_init_720 ?_
  show TT K (83, rL lz_83) 9 298 723 [(0, vR 73)] [] (tH Nm_96)
  refine TT_aload_n hK rfl 0 rfl dX12_init_723 ?_
  refine TT_bipush hK (by decide) dX12_init_724 ?_
  refine TT_newa hK (t := 12) (N := 20) (ty := .int) rfl (gd_ (tb_1 46 rfl) rfl) (by decide) rfl (fun _ => tHz_Nm_96 (by decide +kernel) _) (by decide +kernel) (by decide) (by decide) (by decide) (by decide) (by decide) rfl rfl (by decide) (Nat.le_of_ble_eq_true rfl) dX12_init_726 ?_
  show TT K (84, rL lz_83) 10 318 728 [(0, vR 73)] [vR 83, vR 73] (tH Nm_96)
  refine TT_putR hK hN (ci := 11) (k := 12) (q := 83) (T := TX12) (N := 56) rfl uin_12 (by decide) rfl (gd_ (tb_5 65 rfl) rfl) (by decide) rfl (by decide) tyX12_ok nmX12 rfl rfl (fun _ => ⟨rfl, rfl⟩) (by decide) rfl rfl dX12_init_728 ?_
  show TT K (84, rL lz_84) 10 318 731 [(0, vR 73)] [] (tH Nm_96)
  refine TT_aload_n hK rfl 0 rfl dX12_init_731 ?_
  refine TT_sipush hK (by decide) dX12_init_732 ?_
  refine TT_newa hK (t := 12) (N := 1280) (ty := .int) rfl (gd_ (tb_1 46 rfl) rfl) (by decide) rfl (fun _ => tHz_Nm_96 (by decide +kernel) _) (by decide +kernel) (by decide) (by decide) (by decide) (by decide) (by decide) rfl rfl (by decide) (Nat.le_of_ble_eq_true rfl) dX12_init_735 ?_
  show TT K (85, rL lz_84) 11 1598 737 [(0, vR 73)] [vR 84, vR 73] (tH Nm_96)
  refine TT_putR hK hN (ci := 11) (k := 13) (q := 84) (T := TX12) (N := 56) rfl uin_12 (by decide) rfl (gd_ (tb_5 66 rfl) rfl) (by decide) rfl (by decide) tyX12_ok nmX12 rfl rfl (fun _ => ⟨rfl, rfl⟩) (by decide) rfl rfl dX12_init_737 ?_
  show TT K (85, rL lz_85) 11 1598 740 [(0, vR 73)] [] (tH Nm_96)
  refine TT_aload_n hK rfl 0 rfl dX12_init_740 ?_
  refine TT_sipush hK (by decide) dX12_init_741 ?_
  refine TT_newa hK (t := 13) (N := 1280) (ty := .boolean) rfl (gd_ (tb_1 182 rfl) rfl) (by decide) rfl (fun _ => tHz_Nm_96 (by decide +kernel) _) (by decide +kernel) (by decide) (by decide) (by decide) (by decide) (by decide) rfl rfl (by decide) (Nat.le_of_ble_eq_true rfl) dX12_init_744 ?_
  show TT K (86, rL lz_85) 12 2878 746 [(0, vR 73)] [vR 85, vR 73] (tH Nm_96)
  refine TT_putR hK hN (ci := 11) (k := 14) (q := 85) (T := TX12) (N := 56) rfl uin_12 (by decide) rfl (gd_ (tb_5 67 rfl) rfl) (by decide) rfl (by decide) tyX12_ok nmX12 rfl rfl (fun _ => ⟨rfl, rfl⟩) (by decide) rfl rfl dX12_init_746 ?_
  show TT K (86, rL lz_86) 12 2878 749 [(0, vR 73)] [] (tH Nm_96)
  refine TT_aload_n hK rfl 0 rfl dX12_init_749 ?_
  refine TT_bipush hK (by decide) dX12_init_750 ?_
  refine TT_newa hK (t := 12) (N := 20) (ty := .int) rfl (gd_ (tb_1 46 rfl) rfl) (by decide) rfl (fun _ => tHz_Nm_96 (by decide +kernel) _) (by decide +kernel) (by decide) (by decide) (by decide) (by decide) (by decide) rfl rfl (by decide) (Nat.le_of_ble_eq_true rfl) dX12_init_752 ?_
  show TT K (87, rL lz_86) 13 2898 754 [(0, vR 73)] [vR 86, vR 73] (tH Nm_96)
  refine TT_putR hK hN (ci := 11) (k := 15) (q := 86) (T := TX12) (N := 56) rfl uin_12 (by decide) rfl (gd_ (tb_5 68 rfl) rfl) (by decide) rfl (by decide) tyX12_ok nmX12 rfl rfl (fun _ => ⟨rfl, rfl⟩) (by decide) rfl rfl dX12_init_754 ?_
  show TT K (87, rL lz_87) 13 2898 757 [(0, vR 73)] [] (tH Nm_96)
  refine TT_aload_n hK rfl 0 rfl dX12_init_757 ?_
  refine TT_bipush hK (by decide) dX12_init_758 ?_
  refine TT_newa hK (t := 12) (N := 20) (ty := .int) rfl (gd_ (tb_1 46 rfl) rfl) (by decide) rfl (fun _ => tHz_Nm_96 (by decide +kernel) _) (by decide +kernel) (by decide) (by decide) (by decide) (by decide) (by decide) rfl rfl (by decide) (Nat.le_of_ble_eq_true rfl) dX12_init_760 ?_
  show TT K (88, rL lz_87) 14 2918 762 [(0, vR 73)] [vR 87, vR 73] (tH Nm_96)
  refine TT_putR hK hN (ci := 11) (k := 16) (q := 87) (T := TX12) (N := 56) rfl uin_12 (by decide) rfl (gd_ (tb_5 69 rfl) rfl) (by decide) rfl (by decide) tyX12_ok nmX12 rfl rfl (fun _ => ⟨rfl, rfl⟩) (by decide) rfl rfl dX12_init_762 ?_
  show TT K (88, rL lz_88) 14 2918 765 [(0, vR 73)] [] (tH Nm_96)
  refine TT_aload_n hK rfl 0 rfl dX12_init_765 ?_
  refine TT_bipush hK (by decide) dX12_init_766 ?_
  refine TT_newa hK (t := 12) (N := 20) (ty := .int) rfl (gd_ (tb_1 46 rfl) rfl) (by decide) rfl (fun _ => tHz_Nm_96 (by decide +kernel) _) (by decide +kernel) (by decide) (by decide) (by decide) (by decide) (by decide) rfl rfl (by decide) (Nat.le_of_ble_eq_true rfl) dX12_init_768 ?_
  show TT K (89, rL lz_88) 15 2938 770 [(0, vR 73)] [vR 88, vR 73] (tH Nm_96)
  refine TT_putR hK hN (ci := 11) (k := 17) (q := 88) (T := TX12) (N := 56) rfl uin_12 (by decide) rfl (gd_ (tb_5 70 rfl) rfl) (by decide) rfl (by decide) tyX12_ok nmX12 rfl rfl (fun _ => ⟨rfl, rfl⟩) (by decide) rfl rfl dX12_init_770 ?_
  show TT K (89, rL lz_89) 15 2938 773 [(0, vR 73)] [] (tH Nm_96)
  refine TT_aload_n hK rfl 0 rfl dX12_init_773 ?_
  refine TT_sipush hK (by decide) dX12_init_774 ?_
  refine TT_newa hK (t := 12) (N := 4400) (ty := .int) rfl (gd_ (tb_1 46 rfl) rfl) (by decide) rfl (fun _ => tHz_Nm_96 (by decide +kernel) _) (by decide +kernel) (by decide) (by decide) (by decide) (by decide) (by decide) rfl rfl (by decide) (Nat.le_of_ble_eq_true rfl) dX12_init_777 ?_
  show TT K (90, rL lz_89) 16 7338 779 [(0, vR 73)] [vR 89, vR 73] (tH Nm_96)
  refine TT_putR hK hN (ci := 11) (k := 19) (q := 89) (T := TX12) (N := 56) rfl uin_12 (by decide) rfl (gd_ (tb_5 72 rfl) rfl) (by decide) rfl (by decide) tyX12_ok nmX12 rfl rfl (fun _ => ⟨rfl, rfl⟩) (by decide) rfl rfl dX12_init_779 ?_
  show TT K (90, rL lz_90) 16 7338 782 [(0, vR 73)] [] (tH Nm_96)
  refine TT_aload_n hK rfl 0 rfl dX12_init_782 ?_
  refine TT_bipush hK (by decide) dX12_init_783 ?_
  refine TT_newa hK (t := 12) (N := 10) (ty := .int) rfl (gd_ (tb_1 46 rfl) rfl) (by decide) rfl (fun _ => tHz_Nm_96 (by decide +kernel) _) (by decide +kernel) (by decide) (by decide) (by decide) (by decide) (by decide) rfl rfl (by decide) (Nat.le_of_ble_eq_true rfl) dX12_init_785 ?_
  show TT K (91, rL lz_90) 17 7348 787 [(0, vR 73)] [vR 90, vR 73] (tH Nm_96)
  refine TT_putR hK hN (ci := 11) (k := 20) (q := 90) (T := TX12) (N := 56) rfl uin_12 (by decide) rfl (gd_ (tb_5 73 rfl) rfl) (by decide) rfl (by decide) tyX12_ok nmX12 rfl rfl (fun _ => ⟨rfl, rfl⟩) (by decide) rfl rfl dX12_init_787 ?_
  show TT K (91, rL lz_91) 17 7348 790 [(0, vR 73)] [] (tH Nm_96)
  refine TT_aload_n hK rfl 0 rfl dX12_init_790 ?_
  refine TT_bipush hK (by decide) dX12_init_791 ?_
  refine TT_newa hK (t := 12) (N := 10) (ty := .int) rfl (gd_ (tb_1 46 rfl) rfl) (by decide) rfl (fun _ => tHz_Nm_96 (by decide +kernel) _) (by decide +kernel) (by decide) (by decide) (by decide) (by decide) (by decide) rfl rfl (by decide) (Nat.le_of_ble_eq_true rfl) dX12_init_793 ?_
  show TT K (92, rL lz_91) 18 7358 795 [(0, vR 73)] [vR 91, vR 73] (tH Nm_96)
  refine TT_putR hK hN (ci := 11) (k := 21) (q := 91) (T := TX12) (N := 56) rfl uin_12 (by decide) rfl (gd_ (tb_5 74 rfl) rfl) (by decide) rfl (by decide) tyX12_ok nmX12 rfl rfl (fun _ => ⟨rfl, rfl⟩) (by decide) rfl rfl dX12_init_795 ?_
  show TT K (92, rL lz_92) 18 7358 798 [(0, vR 73)] [] (tH Nm_96)
  refine TT_aload_n hK rfl 0 rfl dX12_init_798 ?_
  refine TT_sipush hK (by decide) dX12_init_799 ?_
  refine TT_newa hK (t := 12) (N := 350) (ty := .int) rfl (gd_ (tb_1 46 rfl) rfl) (by decide) rfl (fun _ => tHz_Nm_96 (by decide +kernel) _) (by decide +kernel) (by decide) (by decide) (by decide) (by decide) (by decide) rfl rfl (by decide) (Nat.le_of_ble_eq_true rfl) dX12_init_802 ?_
  show TT K (93, rL lz_92) 19 7708 804 [(0, vR 73)] [vR 92, vR 73] (tH Nm_96)
  refine TT_putR hK hN (ci := 11) (k := 22) (q := 92) (T := TX12) (N := 56) rfl uin_12 (by decide) rfl (gd_ (tb_5 75 rfl) rfl) (by decide) rfl (by decide) tyX12_ok nmX12 rfl rfl (fun _ => ⟨rfl, rfl⟩) (by decide) rfl rfl dX12_init_804 ?_
  show TT K (93, rL lz_93) 19 7708 807 [(0, vR 73)] [] (tH Nm_96)
  refine TT_aload_n hK rfl 0 rfl dX12_init_807 ?_
  refine TT_bipush hK (by decide) dX12_init_808 ?_
  refine TT_newa hK (t := 12) (N := 100) (ty := .int) rfl (gd_ (tb_1 46 rfl) rfl) (by decide) rfl (fun _ => tHz_Nm_96 (by decide +kernel) _) (by decide +kernel) (by decide) (by decide) (by decide) (by decide) (by decide) rfl rfl (by decide) (Nat.le_of_ble_eq_true rfl) dX12_init_810 ?_
  show TT K (94, rL lz_93) 20 7808 812 [(0, vR 73)] [vR 93, vR 73] (tH Nm_96)
  refine TT_putR hK hN (ci := 11) (k := 23) (q := 93) (T := TX12) (N := 56) rfl uin_12 (by decide) rfl (gd_ (tb_5 76 rfl) rfl) (by decide) rfl (by decide) tyX12_ok nmX12 rfl rfl (fun _ => ⟨rfl, rfl⟩) (by decide) rfl rfl dX12_init_812 ?_
  show TT K (94, rL lz_94) 20 7808 815 [(0, vR 73)] [] (tH Nm_96)
  refine TT_aload_n hK rfl 0 rfl dX12_init_815 ?_
  refine TT_bipush hK (by decide) dX12_init_816 ?_
  refine TT_newa hK (t := 13) (N := 64) (ty := .boolean) rfl (gd_ (tb_1 182 rfl) rfl) (by decide) rfl (fun _ => tHz_Nm_96 (by decide +kernel) _) (by decide +kernel) (by decide) (by decide) (by decide) (by decide) (by decide) rfl rfl (by decide) (Nat.le_of_ble_eq_true rfl) dX12_init_818 ?_
  show TT K (95, rL lz_94) 21 7872 820 [(0, vR 73)] [vR 94, vR 73] (tH Nm_96)
  refine TT_putR hK hN (ci := 11) (k := 24) (q := 94) (T := TX12) (N := 56) rfl uin_12 (by decide) rfl (gd_ (tb_5 77 rfl) rfl) (by decide) rfl (by decide) tyX12_ok nmX12 rfl rfl (fun _ => ⟨rfl, rfl⟩) (by decide) rfl rfl dX12_init_820 ?_
  show TT K (95, rL lz_95) 21 7872 823 [(0, vR 73)] [] (tH Nm_96)
  refine TT_aload_n hK rfl 0 rfl dX12_init_823 ?_
  refine TT_bipush hK (by decide) dX12_init_824 ?_
  refine TT_newa hK (t := 13) (N := 64) (ty := .boolean) rfl (gd_ (tb_1 182 rfl) rfl) (by decide) rfl (fun _ => tHz_Nm_96 (by decide +kernel) _) (by decide +kernel) (by decide) (by decide) (by decide) (by decide) (by decide) rfl rfl (by decide) (Nat.le_of_ble_eq_true rfl) dX12_init_826 ?_
  show TT K (96, rL lz_95) 22 7936 828 [(0, vR 73)] [vR 95, vR 73] (tH Nm_96)
  refine TT_putR hK hN (ci := 11) (k := 25) (q := 95) (T := TX12) (N := 56) rfl uin_12 (by decide) rfl (gd_ (tb_5 78 rfl) rfl) (by decide) rfl (by decide) tyX12_ok nmX12 rfl rfl (fun _ => ⟨rfl, rfl⟩) (by decide) rfl rfl dX12_init_828 ?_
  show TT K (96, rL lz_96) 22 7936 831 [(0, vR 73)] [] (tH Nm_96)
  refine TT_aload_n hK rfl 0 rfl dX12_init_831 ?_
  refine TT_bipush hK (by decide) dX12_init_832 ?_
  refine TT_newa hK (t := 12) (N := 19) (ty := .int) rfl (gd_ (tb_1 46 rfl) rfl) (by decide) rfl (fun _ => tHz_Nm_96 (by decide +kernel) _) (by decide +kernel) (by decide) (by decide) (by decide) (by decide) (by decide) rfl rfl (by decide) (Nat.le_of_ble_eq_true rfl) dX12_init_834 ?_
  show TT K (97, rL lz_96) 23 7955 836 [(0, vR 73)] [vR 96, vR 73] (tH Nm_96)
  refine TT_putR hK hN (ci := 11) (k := 30) (q := 96) (T := TX12) (N := 56) rfl uin_12 (by decide) rfl (gd_ (tb_5 83 rfl) rfl) (by decide) rfl (by decide) tyX12_ok nmX12 rfl rfl (fun _ => ⟨rfl, rfl⟩) (by decide) rfl rfl dX12_init_836 ?_
  show TT K (97, rL lz_97) 23 7955 839 [(0, vR 73)] [] (tH Nm_96)
  refine TT_aload_n hK rfl 0 rfl dX12_init_839 ?_
  refine TT_bipush hK (by decide) dX12_init_840 ?_
  refine TT_newa hK (t := 12) (N := 19) (ty := .int) rfl (gd_ (tb_1 46 rfl) rfl) (by decide) rfl (fun _ => tHz_Nm_96 (by decide +kernel) _) (by decide +kernel) (by decide) (by decide) (by decide) (by decide) (by decide) rfl rfl (by decide) (Nat.le_of_ble_eq_true rfl) dX12_init_842 ?_
  show TT K (98, rL lz_97) 24 7974 844 [(0, vR 73)] [vR 97, vR 73] (tH Nm_96)
  refine TT_putR hK hN (ci := 11) (k := 31) (q := 97) (T := TX12) (N := 56) rfl uin_12 (by decide) rfl (gd_ (tb_5 84 rfl) rfl) (by decide) rfl (by decide) tyX12_ok nmX12 rfl rfl (fun _ => ⟨rfl, rfl⟩) (by decide) rfl rfl dX12_init_844 ?_
  show TT K (98, rL lz_98) 24 7974 847 [(0, vR 73)] [] (tH Nm_96)
  refine TT_aload_n hK rfl 0 rfl dX12_init_847 ?_
  refine TT_sipush hK (by decide) dX12_init_848 ?_
  refine TT_newa hK (t := 12) (N := 3200) (ty := .int) rfl (gd_ (tb_1 46 rfl) rfl) (by decide) rfl (fun _ => tHz_Nm_96 (by decide +kernel) _) (by decide +kernel) (by decide) (by decide) (by decide) (by decide) (by decide) rfl rfl (by decide) (Nat.le_of_ble_eq_true rfl) dX12_init_851 ?_
  show TT K (99, rL lz_98) 25 11174 853 [(0, vR 73)] [vR 98, vR 73] (tH Nm_96)
  refine TT_putR hK hN (ci := 11) (k := 35) (q := 98) (T := TX12) (N := 56) rfl uin_12 (by decide) rfl (gd_ (tb_5 88 rfl) rfl) (by decide) rfl (by decide) tyX12_ok nmX12 rfl rfl (fun _ => ⟨rfl, rfl⟩) (by decide) rfl rfl dX12_init_853 ?_
  show TT K (99, rL lz_99) 25 11174 856 [(0, vR 73)] [] (tH Nm_96)
  refine TT_aload_n hK rfl 0 rfl dX12_init_856 ?_
  refine TT_sipush hK (by decide) dX12_init_857 ?_
  refine TT_newa hK (t := 12) (N := 4400) (ty := .int) rfl (gd_ (tb_1 46 rfl) rfl) (by decide) rfl (fun _ => tHz_Nm_96 (by decide +kernel) _) (by decide +kernel) (by decide) (by decide) (by decide) (by decide) (by decide) rfl rfl (by decide) (Nat.le_of_ble_eq_true rfl) dX12_init_860 ?_
  show TT K (100, rL lz_99) 26 15574 862 [(0, vR 73)] [vR 99, vR 73] (tH Nm_96)
  refine TT_putR hK hN (ci := 11) (k := 37) (q := 99) (T := TX12) (N := 56) rfl uin_12 (by decide) rfl (gd_ (tb_5 90 rfl) rfl) (by decide) rfl (by decide) tyX12_ok nmX12 rfl rfl (fun _ => ⟨rfl, rfl⟩) (by decide) rfl rfl dX12_init_862 ?_
  show TT K (100, rL lz_100) 26 15574 865 [(0, vR 73)] [] (tH Nm_96)
  refine TT_aload_n hK rfl 0 rfl dX12_init_865 ?_
  refine TT_sipush hK (by decide) dX12_init_866 ?_
  refine TT_newa hK (t := 12) (N := 4700) (ty := .int) rfl (gd_ (tb_1 46 rfl) rfl) (by decide) rfl (fun _ => tHz_Nm_96 (by decide +kernel) _) (by decide +kernel) (by decide) (by decide) (by decide) (by decide) (by decide) rfl rfl (by decide) (Nat.le_of_ble_eq_true rfl) dX12_init_869 ?_
  show TT K (101, rL lz_100) 27 20274 871 [(0, vR 73)] [vR 100, vR 73] (tH Nm_96)
  refine TT_putR hK hN (ci := 11) (k := 40) (q := 100) (T := TX12) (N := 56) rfl uin_12 (by decide) rfl (gd_ (tb_5 93 rfl) rfl) (by decide) rfl (by decide) tyX12_ok nmX12 rfl rfl (fun _ => ⟨rfl, rfl⟩) (by decide) rfl rfl dX12_init_871 ?_
  show TT K (101, rL lz_101) 27 20274 874 [(0, vR 73)] [] (tH Nm_96)
  refine TT_aload_n hK rfl 0 rfl dX12_init_874 ?_
  refine TT_bipush hK (by decide) dX12_init_875 ?_
  refine TT_newa hK (t := 12) (N := 30) (ty := .int) rfl (gd_ (tb_1 46 rfl) rfl) (by decide) rfl (fun _ => tHz_Nm_96 (by decide +kernel) _) (by decide +kernel) (by decide) (by decide) (by decide) (by decide) (by decide) rfl rfl (by decide) (Nat.le_of_ble_eq_true rfl) dX12_init_877 ?_
  show TT K (102, rL lz_101) 28 20304 879 [(0, vR 73)] [vR 101, vR 73] (tH Nm_96)
  refine TT_putR hK hN (ci := 11) (k := 46) (q := 101) (T := TX12) (N := 56) rfl uin_12 (by decide) rfl (gd_ (tb_5 99 rfl) rfl) (by decide) rfl (by decide) tyX12_ok nmX12 rfl rfl (fun _ => ⟨rfl, rfl⟩) (by decide) rfl rfl dX12_init_879 ?_
  show TT K (102, rL lz_102) 28 20304 882 [(0, vR 73)] [] (tH Nm_96)
  refine TT_aload_n hK rfl 0 rfl dX12_init_882 ?_
  refine TT_bipush hK (by decide) dX12_init_883 ?_
  refine TT_newa hK (t := 12) (N := 30) (ty := .int) rfl (gd_ (tb_1 46 rfl) rfl) (by decide) rfl (fun _ => tHz_Nm_96 (by decide +kernel) _) (by decide +kernel) (by decide) (by decide) (by decide) (by decide) (by decide) rfl rfl (by decide) (Nat.le_of_ble_eq_true rfl) dX12_init_885 ?_
  show TT K (103, rL lz_102) 29 20334 887 [(0, vR 73)] [vR 102, vR 73] (tH Nm_96)
  refine TT_putR hK hN (ci := 11) (k := 47) (q := 102) (T := TX12) (N := 56) rfl uin_12 (by decide) rfl (gd_ (tb_5 100 rfl) rfl) (by decide) rfl (by decide) tyX12_ok nmX12 rfl rfl (fun _ => ⟨rfl, rfl⟩) (by decide) rfl rfl dX12_init_887 ?_
  show TT K (103, rL lz_103) 29 20334 890 [(0, vR 73)] [] (tH Nm_96)
  refine TT_aload_n hK rfl 0 rfl dX12_init_890 ?_
  refine TT_bipush hK (by decide) dX12_init_891 ?_
  refine TT_newa hK (t := 12) (N := 10) (ty := .int) rfl (gd_ (tb_1 46 rfl) rfl) (by decide) rfl (fun _ => tHz_Nm_96 (by decide +kernel) _) (by decide +kernel) (by decide) (by decide) (by decide) (by decide) (by decide) rfl rfl (by decide) (Nat.le_of_ble_eq_true rfl) dX12_init_893 ?_
  show TT K (104, rL lz_103) 30 20344 895 [(0, vR 73)] [vR 103, vR 73] (tH Nm_96)
  refine TT_putR hK hN (ci := 11) (k := 48) (q := 103) (T := TX12) (N := 56) rfl uin_12 (by decide) rfl (gd_ (tb_5 101 rfl) rfl) (by decide) rfl (by decide) tyX12_ok nmX12 rfl rfl (fun _ => ⟨rfl, rfl⟩) (by decide) rfl rfl dX12_init_895 ?_
  show TT K (104, rL lz_104) 30 20344 898 [(0, vR 73)] [] (tH Nm_96)
  refine TT_aload_n hK rfl 0 rfl dX12_init_898 ?_
  refine TT_bipush hK (by decide) dX12_init_899 ?_
  refine TT_newa hK (t := 12) (N := 10) (ty := .int) rfl (gd_ (tb_1 46 rfl) rfl) (by decide) rfl (fun _ => tHz_Nm_96 (by decide +kernel) _) (by decide +kernel) (by decide) (by decide) (by decide) (by decide) (by decide) rfl rfl (by decide) (Nat.le_of_ble_eq_true rfl) dX12_init_901 ?_
  show TT K (105, rL lz_104) 31 20354 903 [(0, vR 73)] [vR 104, vR 73] (tH Nm_96)
  refine TT_putR hK hN (ci := 11) (k := 49) (q := 104) (T := TX12) (N := 56) rfl uin_12 (by decide) rfl (gd_ (tb_5 102 rfl) rfl) (by decide) rfl (by decide) tyX12_ok nmX12 rfl rfl (fun _ => ⟨rfl, rfl⟩) (by decide) rfl rfl dX12_init_903 ?_
  show TT K (105, rL lz_105) 31 20354 906 [(0, vR 73)] [] (tH Nm_96)
  refine TT_aload_n hK rfl 0 rfl dX12_init_906 ?_
  refine TT_bipush hK (by decide) dX12_init_907 ?_
  refine TT_newa hK (t := 12) (N := 64) (ty := .int) rfl (gd_ (tb_1 46 rfl) rfl) (by decide) rfl (fun _ => tHz_Nm_96 (by decide +kernel) _) (by decide +kernel) (by decide) (by decide) (by decide) (by decide) (by decide) rfl rfl (by decide) (Nat.le_of_ble_eq_true rfl) dX12_init_909 ?_
  show TT K (106, rL lz_105) 32 20418 911 [(0, vR 73)] [vR 105, vR 73] (tH Nm_96)
  refine TT_putR hK hN (ci := 11) (k := 53) (q := 105) (T := TX12) (N := 56) rfl uin_12 (by decide) rfl (gd_ (tb_5 106 rfl) rfl) (by decide) rfl (by decide) tyX12_ok nmX12 rfl rfl (fun _ => ⟨rfl, rfl⟩) (by decide) rfl rfl dX12_init_911 ?_
  show TT K (106, rL lz_106) 32 20418 914 [(0, vR 73)] [] (tH Nm_96)
  refine TT_aload_n hK rfl 0 rfl dX12_init_914 ?_
  refine TT_bipush hK (by decide) dX12_init_915 ?_
  refine TT_newa hK (t := 12) (N := 10) (ty := .int) rfl (gd_ (tb_1 46 rfl) rfl) (by decide) rfl (fun _ => tHz_Nm_96 (by decide +kernel) _) (by decide +kernel) (by decide) (by decide) (by decide) (by decide) (by decide) rfl rfl (by decide) (Nat.le_of_ble_eq_true rfl) dX12_init_917 ?_
  show TT K (107, rL lz_106) 33 20428 919 [(0, vR 73)] [vR 106, vR 73] (tH Nm_96)
  refine TT_putR hK hN (ci := 11) (k := 54) (q := 106) (T := TX12) (N := 56) rfl uin_12 (by decide) rfl (gd_ (tb_5 107 rfl) rfl) (by decide) rfl (by decide) tyX12_ok nmX12 rfl rfl (fun _ => ⟨rfl, rfl⟩) (by decide) rfl rfl dX12_init_919 ?_
  show TT K (107, rL lz_107) 33 20428 922 [(0, vR 73)] [] (tH Nm_96)
  exact TT_vret hK hQ ⟨rfl, rfl⟩ dX12_init_922

theorem dX8_begin_8 : decode cX8_begin 8 = .ok (.getfield 18, 3) := by decide +kernel
theorem dX8_begin_11 : decode cX8_begin 11 = .ok (.iconst 0, 1) := by decide +kernel
theorem dX8_begin_12 : decode cX8_begin 12 = .ok (.iconst 0, 1) := by decide +kernel
theorem dX8_begin_13 : decode cX8_begin 13 = .ok (.iastore, 1) := by decide +kernel
theorem dX8_begin_14 : decode cX8_begin 14 = .ok (.aload_n 0, 1) := by decide +kernel
theorem dX8_begin_15 : decode cX8_begin 15 = .ok (.iconst 1, 1) := by decide +kernel
theorem dX8_begin_16 : decode cX8_begin 16 = .ok (.putfield 25, 3) := by decide +kernel
theorem dX8_begin_19 : decode cX8_begin 19 = .ok (.aload_n 0, 1) := by decide +kernel
theorem dX8_begin_20 : decode cX8_begin 20 = .ok (.ldc 29, 2) := by decide +kernel
theorem dX8_begin_22 : decode cX8_begin 22 = .ok (.putfield 30, 3) := by decide +kernel
theorem dX8_begin_25 : decode cX8_begin 25 = .ok (.aload_n 0, 1) := by decide +kernel
theorem dX8_begin_26 : decode cX8_begin 26 = .ok (.iconst 0, 1) := by decide +kernel
theorem dX8_begin_27 : decode cX8_begin 27 = .ok (.putfield 33, 3) := by decide +kernel
theorem dX8_begin_30 : decode cX8_begin 30 = .ok (.aload_n 0, 1) := by decide +kernel
theorem dX8_begin_31 : decode cX8_begin 31 = .ok (.bipush 12, 2) := by decide +kernel
theorem dX8_begin_33 : decode cX8_begin 33 = .ok (.putfield 36, 3) := by decide +kernel
theorem dX8_begin_36 : decode cX8_begin 36 = .ok (.return_, 1) := by decide +kernel
theorem dX8_tell_0 : decode cX8_tell 0 = .ok (.aload_n 0, 1) := by decide +kernel
theorem dX8_tell_1 : decode cX8_tell 1 = .ok (.getfield 12, 3) := by decide +kernel
theorem dX8_tell_4 : decode cX8_tell 4 = .ok (.iload_n 1, 1) := by decide +kernel
theorem dX8_tell_5 : decode cX8_tell 5 = .ok (.invokevirtual 39, 3) := by decide +kernel
theorem dX8_tell_8 : decode cX8_tell 8 = .ok (.istore_n 3, 1) := by decide +kernel
theorem dX8_tell_9 : decode cX8_tell 9 = .ok (.iload_n 2, 1) := by decide +kernel
theorem dX8_tell_10 : decode cX8_tell 10 = .ok (.aload_n 0, 1) := by decide +kernel
theorem dX8_tell_11 : decode cX8_tell 11 = .ok (.getfield 12, 3) := by decide +kernel
theorem dX8_tell_14 : decode cX8_tell 14 = .ok (.iload_n 1, 1) := by decide +kernel
theorem dX8_tell_15 : decode cX8_tell 15 = .ok (.invokevirtual 43, 3) := by decide +kernel
theorem dX8_tell_18 : decode cX8_tell 18 = .ok (.if_icmp .ne 7, 3) := by decide +kernel
theorem dX8_tell_21 : decode cX8_tell 21 = .ok (.iconst 1, 1) := by decide +kernel
theorem dX8_tell_22 : decode cX8_tell 22 = .ok (.goto 4, 3) := by decide +kernel
theorem dX8_tell_25 : decode cX8_tell 25 = .ok (.iconst 0, 1) := by decide +kernel
theorem dX8_tell_26 : decode cX8_tell 26 = .ok (.istore 4, 2) := by decide +kernel
theorem dX8_tell_28 : decode cX8_tell 28 = .ok (.aload_n 0, 1) := by decide +kernel
theorem dX8_tell_29 : decode cX8_tell 29 = .ok (.dup, 1) := by decide +kernel
theorem dX8_tell_30 : decode cX8_tell 30 = .ok (.getfield 30, 3) := by decide +kernel
theorem dX8_tell_33 : decode cX8_tell 33 = .ok (.iload_n 3, 1) := by decide +kernel
theorem dX8_tell_34 : decode cX8_tell 34 = .ok (.isub, 1) := by decide +kernel
theorem dX8_tell_35 : decode cX8_tell 35 = .ok (.putfield 30, 3) := by decide +kernel
theorem dX8_tell_38 : decode cX8_tell 38 = .ok (.iload 4, 2) := by decide +kernel
theorem dX8_tell_40 : decode cX8_tell 40 = .ok (.ifCond .eq 23, 3) := by decide +kernel
theorem dX8_tell_43 : decode cX8_tell 43 = .ok (.aload_n 0, 1) := by decide +kernel
theorem dX8_tell_44 : decode cX8_tell 44 = .ok (.getfield 30, 3) := by decide +kernel
theorem dX8_tell_47 : decode cX8_tell 47 = .ok (.ldc 29, 2) := by decide +kernel
theorem dX8_tell_49 : decode cX8_tell 49 = .ok (.if_icmp .lt 14, 3) := by decide +kernel
theorem dX8_tell_52 : decode cX8_tell 52 = .ok (.aload_n 0, 1) := by decide +kernel
theorem dX8_tell_53 : decode cX8_tell 53 = .ok (.dup, 1) := by decide +kernel
theorem dX8_tell_54 : decode cX8_tell 54 = .ok (.getfield 33, 3) := by decide +kernel
theorem dX8_tell_57 : decode cX8_tell 57 = .ok (.iload_n 3, 1) := by decide +kernel
theorem dX8_tell_58 : decode cX8_tell 58 = .ok (.iadd, 1) := by decide +kernel
theorem dX8_tell_59 : decode cX8_tell 59 = .ok (.putfield 33, 3) := by decide +kernel
theorem dX8_tell_62 : decode cX8_tell 62 = .ok (.return_, 1) := by decide +kernel
theorem dX8_tell_63 : decode cX8_tell 63 = .ok (.iload 4, 2) := by decide +kernel
theorem dX8_tell_65 : decode cX8_tell 65 = .ok (.aload_n 0, 1) := by decide +kernel
theorem dX8_tell_66 : decode cX8_tell 66 = .ok (.getfield 30, 3) := by decide +kernel
theorem dX8_tell_69 : decode cX8_tell 69 = .ok (.iload_n 3, 1) := by decide +kernel
theorem dX8_tell_70 : decode cX8_tell 70 = .ok (.if_icmp .ge 7, 3) := by decide +kernel
theorem dX8_tell_73 : decode cX8_tell 73 = .ok (.iconst 1, 1) := by decide +kernel
theorem dX8_tell_74 : decode cX8_tell 74 = .ok (.goto 4, 3) := by decide +kernel
theorem dX8_tell_77 : decode cX8_tell 77 = .ok (.iconst 0, 1) := by decide +kernel
theorem dX8_tell_78 : decode cX8_tell 78 = .ok (.if_icmp .ne 11, 3) := by decide +kernel
theorem dX8_tell_81 : decode cX8_tell 81 = .ok (.aload_n 0, 1) := by decide +kernel
theorem dX8_tell_82 : decode cX8_tell 82 = .ok (.iload_n 3, 1) := by decide +kernel
theorem dX8_tell_83 : decode cX8_tell 83 = .ok (.putfield 30, 3) := by decide +kernel
theorem dX8_tell_86 : decode cX8_tell 86 = .ok (.goto 13, 3) := by decide +kernel
theorem dX8_tell_89 : decode cX8_tell 89 = .ok (.aload_n 0, 1) := by decide +kernel
theorem dX8_tell_90 : decode cX8_tell 90 = .ok (.dup, 1) := by decide +kernel
theorem dX8_tell_91 : decode cX8_tell 91 = .ok (.getfield 33, 3) := by decide +kernel
theorem dX8_tell_94 : decode cX8_tell 94 = .ok (.iload_n 3, 1) := by decide +kernel
theorem dX8_tell_95 : decode cX8_tell 95 = .ok (.iadd, 1) := by decide +kernel
theorem dX8_tell_96 : decode cX8_tell 96 = .ok (.putfield 33, 3) := by decide +kernel
theorem dX8_tell_99 : decode cX8_tell 99 = .ok (.aload_n 0, 1) := by decide +kernel
theorem dX8_tell_100 : decode cX8_tell 100 = .ok (.getfield 12, 3) := by decide +kernel
theorem dX8_tell_103 : decode cX8_tell 103 = .ok (.iload_n 1, 1) := by decide +kernel
theorem dX8_tell_104 : decode cX8_tell 104 = .ok (.iload_n 2, 1) := by decide +kernel
theorem dX8_tell_105 : decode cX8_tell 105 = .ok (.invokevirtual 46, 3) := by decide +kernel
theorem dX8_tell_108 : decode cX8_tell 108 = .ok (.aload_n 0, 1) := by decide +kernel
theorem dX8_tell_109 : decode cX8_tell 109 = .ok (.invokevirtual 50, 3) := by decide +kernel
theorem dX8_tell_112 : decode cX8_tell 112 = .ok (.return_, 1) := by decide +kernel
theorem dX8_mend_0 : decode cX8_mend 0 = .ok (.iconst 0, 1) := by decide +kernel
theorem dX8_mend_1 : decode cX8_mend 1 = .ok (.istore_n 1, 1) := by decide +kernel
theorem dX8_mend_2 : decode cX8_mend 2 = .ok (.iload_n 1, 1) := by decide +kernel
theorem dX8_mend_3 : decode cX8_mend 3 = .ok (.bipush 15, 2) := by decide +kernel
theorem dX8_mend_5 : decode cX8_mend 5 = .ok (.if_icmp .ge 59, 3) := by decide +kernel
theorem dX8_mend_8 : decode cX8_mend 8 = .ok (.aload_n 0, 1) := by decide +kernel
theorem dX8_mend_9 : decode cX8_mend 9 = .ok (.getfield 30, 3) := by decide +kernel
theorem dX8_mend_12 : decode cX8_mend 12 = .ok (.ldc 29, 2) := by decide +kernel
theorem dX8_mend_14 : decode cX8_mend 14 = .ok (.if_icmp .ge 50, 3) := by decide +kernel
theorem dX8_mend_17 : decode cX8_mend 17 = .ok (.aload_n 0, 1) := by decide +kernel
theorem dX8_mend_18 : decode cX8_mend 18 = .ok (.dup, 1) := by decide +kernel
theorem dX8_mend_19 : decode cX8_mend 19 = .ok (.getfield 30, 3) := by decide +kernel
theorem dX8_mend_22 : decode cX8_mend 22 = .ok (.iconst 1, 1) := by decide +kernel
theorem dX8_mend_23 : decode cX8_mend 23 = .ok (.ishl, 1) := by decide +kernel
theorem dX8_mend_24 : decode cX8_mend 24 = .ok (.putfield 30, 3) := by decide +kernel
theorem dX8_mend_27 : decode cX8_mend 27 = .ok (.aload_n 0, 1) := by decide +kernel
theorem dX8_mend_28 : decode cX8_mend 28 = .ok (.dup, 1) := by decide +kernel
theorem dX8_mend_29 : decode cX8_mend 29 = .ok (.getfield 33, 3) := by decide +kernel
theorem dX8_mend_32 : decode cX8_mend 32 = .ok (.iconst 1, 1) := by decide +kernel
theorem dX8_mend_33 : decode cX8_mend 33 = .ok (.ishl, 1) := by decide +kernel
theorem dX8_mend_34 : decode cX8_mend 34 = .ok (.putfield 33, 3) := by decide +kernel
theorem dX8_mend_37 : decode cX8_mend 37 = .ok (.aload_n 0, 1) := by decide +kernel
theorem dX8_mend_38 : decode cX8_mend 38 = .ok (.dup, 1) := by decide +kernel
theorem dX8_mend_39 : decode cX8_mend 39 = .ok (.getfield 36, 3) := by decide +kernel
theorem dX8_mend_42 : decode cX8_mend 42 = .ok (.iconst 1, 1) := by decide +kernel
theorem dX8_mend_43 : decode cX8_mend 43 = .ok (.isub, 1) := by decide +kernel
theorem dX8_mend_44 : decode cX8_mend 44 = .ok (.putfield 36, 3) := by decide +kernel
theorem dX8_mend_47 : decode cX8_mend 47 = .ok (.aload_n 0, 1) := by decide +kernel
theorem dX8_mend_48 : decode cX8_mend 48 = .ok (.getfield 36, 3) := by decide +kernel
theorem dX8_mend_51 : decode cX8_mend 51 = .ok (.ifCond .ne 7, 3) := by decide +kernel
theorem dX8_mend_54 : decode cX8_mend 54 = .ok (.aload_n 0, 1) := by decide +kernel
theorem dX8_mend_55 : decode cX8_mend 55 = .ok (.invokevirtual 53, 3) := by decide +kernel
theorem dX8_mend_58 : decode cX8_mend 58 = .ok (.iinc 1 1, 3) := by decide +kernel
theorem dX8_mend_61 : decode cX8_mend 61 = .ok (.goto (-59), 3) := by decide +kernel
theorem dX8_mend_64 : decode cX8_mend 64 = .ok (.return_, 1) := by decide +kernel
theorem dX8_goOut_0 : decode cX8_goOut 0 = .ok (.aload_n 0, 1) := by decide +kernel
theorem dX8_goOut_1 : decode cX8_goOut 1 = .ok (.getfield 18, 3) := by decide +kernel
theorem dX8_goOut_4 : decode cX8_goOut 4 = .ok (.aload_n 0, 1) := by decide +kernel
theorem dX8_goOut_5 : decode cX8_goOut 5 = .ok (.getfield 25, 3) := by decide +kernel
theorem dX8_goOut_8 : decode cX8_goOut 8 = .ok (.iconst 1, 1) := by decide +kernel
theorem dX8_goOut_9 : decode cX8_goOut 9 = .ok (.isub, 1) := by decide +kernel
theorem dX8_goOut_10 : decode cX8_goOut 10 = .ok (.iaload, 1) := by decide +kernel
theorem dX8_goOut_11 : decode cX8_goOut 11 = .ok (.istore_n 1, 1) := by decide +kernel
theorem dX8_goOut_12 : decode cX8_goOut 12 = .ok (.iload_n 1, 1) := by decide +kernel
theorem dX8_goOut_13 : decode cX8_goOut 13 = .ok (.sipush 255, 3) := by decide +kernel
theorem dX8_goOut_16 : decode cX8_goOut 16 = .ok (.if_icmp .eq 45, 3) := by decide +kernel
theorem dX8_goOut_19 : decode cX8_goOut 19 = .ok (.aload_n 0, 1) := by decide +kernel
theorem dX8_goOut_20 : decode cX8_goOut 20 = .ok (.getfield 33, 3) := by decide +kernel
theorem dX8_goOut_23 : decode cX8_goOut 23 = .ok (.ldc 56, 2) := by decide +kernel
theorem dX8_goOut_25 : decode cX8_goOut 25 = .ok (.if_icmp .lt 36, 3) := by decide +kernel
theorem dX8_goOut_28 : decode cX8_goOut 28 = .ok (.iinc 1 1, 3) := by decide +kernel
theorem dX8_goOut_31 : decode cX8_goOut 31 = .ok (.aload_n 0, 1) := by decide +kernel
theorem dX8_goOut_32 : decode cX8_goOut 32 = .ok (.getfield 18, 3) := by decide +kernel
theorem dX8_goOut_35 : decode cX8_goOut 35 = .ok (.aload_n 0, 1) := by decide +kernel
theorem dX8_goOut_36 : decode cX8_goOut 36 = .ok (.getfield 25, 3) := by decide +kernel
theorem dX8_goOut_39 : decode cX8_goOut 39 = .ok (.iconst 1, 1) := by decide +kernel
theorem dX8_goOut_40 : decode cX8_goOut 40 = .ok (.isub, 1) := by decide +kernel
theorem dX8_goOut_41 : decode cX8_goOut 41 = .ok (.iload_n 1, 1) := by decide +kernel
theorem dX8_goOut_42 : decode cX8_goOut 42 = .ok (.iastore, 1) := by decide +kernel
theorem dX8_goOut_43 : decode cX8_goOut 43 = .ok (.iload_n 1, 1) := by decide +kernel
theorem dX8_goOut_44 : decode cX8_goOut 44 = .ok (.sipush 255, 3) := by decide +kernel
theorem dX8_goOut_47 : decode cX8_goOut 47 = .ok (.if_icmp .ne 14, 3) := by decide +kernel
theorem dX8_goOut_50 : decode cX8_goOut 50 = .ok (.aload_n 0, 1) := by decide +kernel
theorem dX8_goOut_51 : decode cX8_goOut 51 = .ok (.dup, 1) := by decide +kernel
theorem dX8_goOut_52 : decode cX8_goOut 52 = .ok (.getfield 33, 3) := by decide +kernel
theorem dX8_goOut_55 : decode cX8_goOut 55 = .ok (.ldc 57, 2) := by decide +kernel
theorem dX8_goOut_57 : decode cX8_goOut 57 = .ok (.iand, 1) := by decide +kernel
theorem dX8_goOut_58 : decode cX8_goOut 58 = .ok (.putfield 33, 3) := by decide +kernel
theorem dX8_goOut_61 : decode cX8_goOut 61 = .ok (.iload_n 1, 1) := by decide +kernel
theorem dX8_goOut_62 : decode cX8_goOut 62 = .ok (.sipush 255, 3) := by decide +kernel
theorem dX8_goOut_65 : decode cX8_goOut 65 = .ok (.if_icmp .ne 8, 3) := by decide +kernel
theorem dX8_goOut_68 : decode cX8_goOut 68 = .ok (.ldc 58, 2) := by decide +kernel
theorem dX8_goOut_70 : decode cX8_goOut 70 = .ok (.goto 5, 3) := by decide +kernel
theorem dX8_goOut_73 : decode cX8_goOut 73 = .ok (.ldc 59, 2) := by decide +kernel
theorem dX8_goOut_75 : decode cX8_goOut 75 = .ok (.istore_n 2, 1) := by decide +kernel
theorem dX8_goOut_76 : decode cX8_goOut 76 = .ok (.aload_n 0, 1) := by decide +kernel
theorem dX8_goOut_77 : decode cX8_goOut 77 = .ok (.getfield 25, 3) := by decide +kernel
theorem dX8_goOut_80 : decode cX8_goOut 80 = .ok (.sipush 1024, 3) := by decide +kernel
theorem dX8_goOut_83 : decode cX8_goOut 83 = .ok (.if_icmp .ge 32, 3) := by decide +kernel
theorem dX8_goOut_86 : decode cX8_goOut 86 = .ok (.aload_n 0, 1) := by decide +kernel
theorem dX8_goOut_87 : decode cX8_goOut 87 = .ok (.getfield 18, 3) := by decide +kernel
theorem dX8_goOut_90 : decode cX8_goOut 90 = .ok (.aload_n 0, 1) := by decide +kernel
theorem dX8_goOut_91 : decode cX8_goOut 91 = .ok (.getfield 25, 3) := by decide +kernel
theorem dX8_goOut_94 : decode cX8_goOut 94 = .ok (.aload_n 0, 1) := by decide +kernel
theorem dX8_goOut_95 : decode cX8_goOut 95 = .ok (.getfield 33, 3) := by decide +kernel
theorem dX8_goOut_98 : decode cX8_goOut 98 = .ok (.iload_n 2, 1) := by decide +kernel
theorem dX8_goOut_99 : decode cX8_goOut 99 = .ok (.idiv, 1) := by decide +kernel
theorem dX8_goOut_100 : decode cX8_goOut 100 = .ok (.sipush 255, 3) := by decide +kernel
theorem dX8_goOut_103 : decode cX8_goOut 103 = .ok (.iand, 1) := by decide +kernel
theorem dX8_goOut_104 : decode cX8_goOut 104 = .ok (.iastore, 1) := by decide +kernel
theorem dX8_goOut_105 : decode cX8_goOut 105 = .ok (.aload_n 0, 1) := by decide +kernel
theorem dX8_goOut_106 : decode cX8_goOut 106 = .ok (.dup, 1) := by decide +kernel
theorem dX8_goOut_107 : decode cX8_goOut 107 = .ok (.getfield 25, 3) := by decide +kernel
theorem dX8_goOut_110 : decode cX8_goOut 110 = .ok (.iconst 1, 1) := by decide +kernel
theorem dX8_goOut_111 : decode cX8_goOut 111 = .ok (.iadd, 1) := by decide +kernel
theorem dX8_goOut_112 : decode cX8_goOut 112 = .ok (.putfield 25, 3) := by decide +kernel
theorem dX8_goOut_115 : decode cX8_goOut 115 = .ok (.aload_n 0, 1) := by decide +kernel
theorem dX8_goOut_116 : decode cX8_goOut 116 = .ok (.dup, 1) := by decide +kernel
theorem dX8_goOut_117 : decode cX8_goOut 117 = .ok (.getfield 33, 3) := by decide +kernel
theorem dX8_goOut_120 : decode cX8_goOut 120 = .ok (.iload_n 2, 1) := by decide +kernel
theorem dX8_goOut_121 : decode cX8_goOut 121 = .ok (.irem, 1) := by decide +kernel
theorem dX8_goOut_122 : decode cX8_goOut 122 = .ok (.putfield 33, 3) := by decide +kernel
theorem dX8_goOut_125 : decode cX8_goOut 125 = .ok (.aload_n 0, 1) := by decide +kernel
theorem dX8_goOut_126 : decode cX8_goOut 126 = .ok (.iload_n 1, 1) := by decide +kernel
theorem dX8_goOut_127 : decode cX8_goOut 127 = .ok (.sipush 255, 3) := by decide +kernel
theorem dX8_goOut_130 : decode cX8_goOut 130 = .ok (.if_icmp .ne 8, 3) := by decide +kernel
theorem dX8_goOut_133 : decode cX8_goOut 133 = .ok (.bipush 7, 2) := by decide +kernel
theorem dX8_goOut_135 : decode cX8_goOut 135 = .ok (.goto 5, 3) := by decide +kernel
theorem dX8_goOut_138 : decode cX8_goOut 138 = .ok (.bipush 8, 2) := by decide +kernel
theorem dX8_goOut_140 : decode cX8_goOut 140 = .ok (.putfield 36, 3) := by decide +kernel
theorem dX8_goOut_143 : decode cX8_goOut 143 = .ok (.return_, 1) := by decide +kernel
theorem dX8_end_0 : decode cX8_end 0 = .ok (.aload_n 0, 1) := by decide +kernel
theorem dX8_end_1 : decode cX8_end 1 = .ok (.getfield 33, 3) := by decide +kernel
theorem dX8_end_4 : decode cX8_end 4 = .ok (.aload_n 0, 1) := by decide +kernel
theorem dX8_end_5 : decode cX8_end 5 = .ok (.getfield 30, 3) := by decide +kernel
theorem dX8_end_8 : decode cX8_end 8 = .ok (.iadd, 1) := by decide +kernel
theorem dX8_end_9 : decode cX8_end 9 = .ok (.istore_n 1, 1) := by decide +kernel
theorem dX8_end_10 : decode cX8_end 10 = .ok (.aload_n 0, 1) := by decide +kernel
theorem dX8_end_11 : decode cX8_end 11 = .ok (.dup, 1) := by decide +kernel
theorem dX8_end_12 : decode cX8_end 12 = .ok (.getfield 33, 3) := by decide +kernel
theorem dX8_end_15 : decode cX8_end 15 = .ok (.ldc 60, 2) := by decide +kernel
theorem dX8_end_17 : decode cX8_end 17 = .ok (.ior, 1) := by decide +kernel
theorem dX8_end_18 : decode cX8_end 18 = .ok (.putfield 33, 3) := by decide +kernel
theorem dX8_end_21 : decode cX8_end 21 = .ok (.aload_n 0, 1) := by decide +kernel
theorem dX8_end_22 : decode cX8_end 22 = .ok (.getfield 33, 3) := by decide +kernel
theorem dX8_end_25 : decode cX8_end 25 = .ok (.iload_n 1, 1) := by decide +kernel
theorem dX8_end_26 : decode cX8_end 26 = .ok (.if_icmp .lt 14, 3) := by decide +kernel
theorem dX8_end_29 : decode cX8_end 29 = .ok (.aload_n 0, 1) := by decide +kernel
theorem dX8_end_30 : decode cX8_end 30 = .ok (.dup, 1) := by decide +kernel
theorem dX8_end_31 : decode cX8_end 31 = .ok (.getfield 33, 3) := by decide +kernel
theorem dX8_end_34 : decode cX8_end 34 = .ok (.ldc 29, 2) := by decide +kernel
theorem dX8_end_36 : decode cX8_end 36 = .ok (.isub, 1) := by decide +kernel
theorem dX8_end_37 : decode cX8_end 37 = .ok (.putfield 33, 3) := by decide +kernel
theorem dX8_end_40 : decode cX8_end 40 = .ok (.aload_n 0, 1) := by decide +kernel
theorem dX8_end_41 : decode cX8_end 41 = .ok (.dup, 1) := by decide +kernel
theorem dX8_end_42 : decode cX8_end 42 = .ok (.getfield 33, 3) := by decide +kernel
theorem dX8_end_45 : decode cX8_end 45 = .ok (.aload_n 0, 1) := by decide +kernel
theorem dX8_end_46 : decode cX8_end 46 = .ok (.getfield 36, 3) := by decide +kernel
theorem dX8_end_49 : decode cX8_end 49 = .ok (.ishl, 1) := by decide +kernel
theorem dX8_end_50 : decode cX8_end 50 = .ok (.putfield 33, 3) := by decide +kernel
theorem dX8_end_53 : decode cX8_end 53 = .ok (.aload_n 0, 1) := by decide +kernel
theorem dX8_end_54 : decode cX8_end 54 = .ok (.invokevirtual 53, 3) := by decide +kernel
theorem dX8_end_57 : decode cX8_end 57 = .ok (.aload_n 0, 1) := by decide +kernel
theorem dX8_end_58 : decode cX8_end 58 = .ok (.dup, 1) := by decide +kernel
theorem dX8_end_59 : decode cX8_end 59 = .ok (.getfield 33, 3) := by decide +kernel
theorem dX8_end_62 : decode cX8_end 62 = .ok (.aload_n 0, 1) := by decide +kernel
theorem dX8_end_63 : decode cX8_end 63 = .ok (.getfield 36, 3) := by decide +kernel
theorem dX8_end_66 : decode cX8_end 66 = .ok (.ishl, 1) := by decide +kernel
theorem dX8_end_67 : decode cX8_end 67 = .ok (.putfield 33, 3) := by decide +kernel
theorem dX8_end_70 : decode cX8_end 70 = .ok (.aload_n 0, 1) := by decide +kernel
theorem dX8_end_71 : decode cX8_end 71 = .ok (.invokevirtual 53, 3) := by decide +kernel
theorem dX8_end_74 : decode cX8_end 74 = .ok (.return_, 1) := by decide +kernel
theorem dX8_addBytesTo_0 : decode cX8_addBytesTo 0 = .ok (.aload_n 0, 1) := by decide +kernel
theorem dX8_addBytesTo_1 : decode cX8_addBytesTo 1 = .ok (.getfield 18, 3) := by decide +kernel
theorem dX8_addBytesTo_4 : decode cX8_addBytesTo 4 = .ok (.aload_n 0, 1) := by decide +kernel
theorem dX8_addBytesTo_5 : decode cX8_addBytesTo 5 = .ok (.getfield 25, 3) := by decide +kernel
theorem dX8_addBytesTo_8 : decode cX8_addBytesTo 8 = .ok (.iconst 1, 1) := by decide +kernel
theorem dX8_addBytesTo_9 : decode cX8_addBytesTo 9 = .ok (.isub, 1) := by decide +kernel
theorem dX8_addBytesTo_10 : decode cX8_addBytesTo 10 = .ok (.iaload, 1) := by decide +kernel
theorem dX8_addBytesTo_11 : decode cX8_addBytesTo 11 = .ok (.sipush 255, 3) := by decide +kernel
theorem dX8_addBytesTo_14 : decode cX8_addBytesTo 14 = .ok (.if_icmp .ne 12, 3) := by decide +kernel
theorem dX8_addBytesTo_17 : decode cX8_addBytesTo 17 = .ok (.aload_n 0, 1) := by decide +kernel
theorem dX8_addBytesTo_18 : decode cX8_addBytesTo 18 = .ok (.getfield 25, 3) := by decide +kernel
theorem dX8_addBytesTo_21 : decode cX8_addBytesTo 21 = .ok (.iconst 1, 1) := by decide +kernel
theorem dX8_addBytesTo_22 : decode cX8_addBytesTo 22 = .ok (.isub, 1) := by decide +kernel
theorem dX8_addBytesTo_23 : decode cX8_addBytesTo 23 = .ok (.goto 7, 3) := by decide +kernel
theorem dX8_addBytesTo_26 : decode cX8_addBytesTo 26 = .ok (.aload_n 0, 1) := by decide +kernel
theorem dX8_addBytesTo_27 : decode cX8_addBytesTo 27 = .ok (.getfield 25, 3) := by decide +kernel
theorem dX8_addBytesTo_30 : decode cX8_addBytesTo 30 = .ok (.istore_n 2, 1) := by decide +kernel
theorem dX8_addBytesTo_31 : decode cX8_addBytesTo 31 = .ok (.iconst 1, 1) := by decide +kernel
theorem dX8_addBytesTo_32 : decode cX8_addBytesTo 32 = .ok (.istore_n 3, 1) := by decide +kernel
theorem dX8_addBytesTo_33 : decode cX8_addBytesTo 33 = .ok (.iload_n 3, 1) := by decide +kernel
theorem dX8_addBytesTo_34 : decode cX8_addBytesTo 34 = .ok (.iload_n 2, 1) := by decide +kernel
theorem dX8_addBytesTo_35 : decode cX8_addBytesTo 35 = .ok (.if_icmp .ge 19, 3) := by decide +kernel
theorem dX8_addBytesTo_38 : decode cX8_addBytesTo 38 = .ok (.aload_n 1, 1) := by decide +kernel
theorem dX8_addBytesTo_39 : decode cX8_addBytesTo 39 = .ok (.aload_n 0, 1) := by decide +kernel
theorem dX8_addBytesTo_40 : decode cX8_addBytesTo 40 = .ok (.getfield 18, 3) := by decide +kernel
theorem dX8_addBytesTo_43 : decode cX8_addBytesTo 43 = .ok (.iload_n 3, 1) := by decide +kernel
theorem dX8_addBytesTo_44 : decode cX8_addBytesTo 44 = .ok (.iaload, 1) := by decide +kernel
theorem dX8_addBytesTo_45 : decode cX8_addBytesTo 45 = .ok (.invokevirtual 61, 3) := by decide +kernel
theorem dX8_addBytesTo_48 : decode cX8_addBytesTo 48 = .ok (.iinc 3 1, 3) := by decide +kernel
theorem dX8_addBytesTo_51 : decode cX8_addBytesTo 51 = .ok (.goto (-18), 3) := by decide +kernel
theorem dX8_addBytesTo_54 : decode cX8_addBytesTo 54 = .ok (.iload_n 2, 1) := by decide +kernel
theorem dX8_addBytesTo_55 : decode cX8_addBytesTo 55 = .ok (.iconst 1, 1) := by decide +kernel
theorem dX8_addBytesTo_56 : decode cX8_addBytesTo 56 = .ok (.isub, 1) := by decide +kernel
theorem dX8_addBytesTo_57 : decode cX8_addBytesTo 57 = .ok (.ireturn, 1) := by decide +kernel
theorem dX10_init_0 : decode cX10_init 0 = .ok (.aload_n 0, 1) := by decide +kernel
theorem dX10_init_1 : decode cX10_init 1 = .ok (.invokespecial 3, 3) := by decide +kernel
theorem dX10_init_4 : decode cX10_init 4 = .ok (.aload_n 0, 1) := by decide +kernel
theorem dX10_init_5 : decode cX10_init 5 = .ok (.new 9, 3) := by decide +kernel
theorem dX10_init_8 : decode cX10_init 8 = .ok (.dup, 1) := by decide +kernel
theorem dX10_init_9 : decode cX10_init 9 = .ok (.invokespecial 11, 3) := by decide +kernel
theorem dX10_init_12 : decode cX10_init 12 = .ok (.putfield 12, 3) := by decide +kernel
theorem dX10_init_15 : decode cX10_init 15 = .ok (.aload_n 0, 1) := by decide +kernel
theorem dX10_init_16 : decode cX10_init 16 = .ok (.bipush 10, 2) := by decide +kernel
theorem dX10_init_18 : decode cX10_init 18 = .ok (.newarray .int, 2) := by decide +kernel
theorem dX10_init_20 : decode cX10_init 20 = .ok (.putfield 18, 3) := by decide +kernel
theorem dX10_init_23 : decode cX10_init 23 = .ok (.aload_n 0, 1) := by decide +kernel
theorem dX10_init_24 : decode cX10_init 24 = .ok (.bipush 10, 2) := by decide +kernel
theorem dX10_init_26 : decode cX10_init 26 = .ok (.newarray .int, 2) := by decide +kernel
theorem dX10_init_28 : decode cX10_init 28 = .ok (.putfield 22, 3) := by decide +kernel
theorem dX10_init_31 : decode cX10_init 31 = .ok (.aload_n 0, 1) := by decide +kernel
theorem dX10_init_32 : decode cX10_init 32 = .ok (.bipush 10, 2) := by decide +kernel
theorem dX10_init_34 : decode cX10_init 34 = .ok (.newarray .int, 2) := by decide +kernel
theorem dX10_init_36 : decode cX10_init 36 = .ok (.putfield 25, 3) := by decide +kernel
theorem dX10_init_39 : decode cX10_init 39 = .ok (.aload_n 0, 1) := by decide +kernel
theorem dX10_init_40 : decode cX10_init 40 = .ok (.bipush 10, 2) := by decide +kernel
theorem dX10_init_42 : decode cX10_init 42 = .ok (.newarray .int, 2) := by decide +kernel
theorem dX10_init_44 : decode cX10_init 44 = .ok (.putfield 28, 3) := by decide +kernel
theorem dX10_init_47 : decode cX10_init 47 = .ok (.aload_n 0, 1) := by decide +kernel
theorem dX10_init_48 : decode cX10_init 48 = .ok (.bipush 10, 2) := by decide +kernel
theorem dX10_init_50 : decode cX10_init 50 = .ok (.newarray .int, 2) := by decide +kernel
theorem dX10_init_52 : decode cX10_init 52 = .ok (.putfield 31, 3) := by decide +kernel
theorem dX10_init_55 : decode cX10_init 55 = .ok (.aload_n 0, 1) := by decide +kernel
theorem dX10_init_56 : decode cX10_init 56 = .ok (.bipush 10, 2) := by decide +kernel
theorem dX10_init_58 : decode cX10_init 58 = .ok (.newarray .int, 2) := by decide +kernel
theorem dX10_init_60 : decode cX10_init 60 = .ok (.putfield 34, 3) := by decide +kernel
theorem dX10_init_63 : decode cX10_init 63 = .ok (.aload_n 0, 1) := by decide +kernel
theorem dX10_init_64 : decode cX10_init 64 = .ok (.bipush 30, 2) := by decide +kernel
theorem dX10_init_66 : decode cX10_init 66 = .ok (.newarray .int, 2) := by decide +kernel
theorem dX10_init_68 : decode cX10_init 68 = .ok (.putfield 37, 3) := by decide +kernel
theorem dX10_init_71 : decode cX10_init 71 = .ok (.aload_n 0, 1) := by decide +kernel
theorem dX10_init_72 : decode cX10_init 72 = .ok (.bipush 30, 2) := by decide +kernel
theorem dX10_init_74 : decode cX10_init 74 = .ok (.newarray .int, 2) := by decide +kernel
theorem dX10_init_76 : decode cX10_init 76 = .ok (.putfield 40, 3) := by decide +kernel
theorem dX10_init_79 : decode cX10_init 79 = .ok (.aload_n 0, 1) := by decide +kernel
theorem dX10_init_80 : decode cX10_init 80 = .ok (.bipush 10, 2) := by decide +kernel
theorem dX10_init_82 : decode cX10_init 82 = .ok (.newarray .int, 2) := by decide +kernel
theorem dX10_init_84 : decode cX10_init 84 = .ok (.putfield 43, 3) := by decide +kernel
theorem dX10_init_87 : decode cX10_init 87 = .ok (.aload_n 0, 1) := by decide +kernel
theorem dX10_init_88 : decode cX10_init 88 = .ok (.new 46, 3) := by decide +kernel
theorem dX10_init_91 : decode cX10_init 91 = .ok (.dup, 1) := by decide +kernel
theorem dX10_init_92 : decode cX10_init 92 = .ok (.invokespecial 48, 3) := by decide +kernel
theorem dX10_init_95 : decode cX10_init 95 = .ok (.putfield 49, 3) := by decide +kernel
theorem dX10_init_98 : decode cX10_init 98 = .ok (.aload_n 0, 1) := by decide +kernel
theorem dX10_init_99 : decode cX10_init 99 = .ok (.new 53, 3) := by decide +kernel
theorem dX10_init_102 : decode cX10_init 102 = .ok (.dup, 1) := by decide +kernel
theorem dX10_init_103 : decode cX10_init 103 = .ok (.aload_n 0, 1) := by decide +kernel
theorem dX10_init_104 : decode cX10_init 104 = .ok (.getfield 49, 3) := by decide +kernel
theorem dX10_init_107 : decode cX10_init 107 = .ok (.invokespecial 55, 3) := by decide +kernel
theorem dX10_init_110 : decode cX10_init 110 = .ok (.putfield 58, 3) := by decide +kernel
theorem dX10_init_113 : decode cX10_init 113 = .ok (.return_, 1) := by decide +kernel
theorem dX10_passesTaken_0 : decode cX10_passesTaken 0 = .ok (.iload_n 1, 1) := by decide +kernel
theorem dX10_passesTaken_1 : decode cX10_passesTaken 1 = .ok (.ifCond .lt 20, 3) := by decide +kernel
theorem dX10_passesTaken_4 : decode cX10_passesTaken 4 = .ok (.iload_n 1, 1) := by decide +kernel
theorem dX10_passesTaken_5 : decode cX10_passesTaken 5 = .ok (.aload_n 0, 1) := by decide +kernel
theorem dX10_passesTaken_6 : decode cX10_passesTaken 6 = .ok (.getfield 62, 3) := by decide +kernel
theorem dX10_passesTaken_9 : decode cX10_passesTaken 9 = .ok (.if_icmp .ge 12, 3) := by decide +kernel
theorem dX10_passesTaken_12 : decode cX10_passesTaken 12 = .ok (.aload_n 0, 1) := by decide +kernel
theorem dX10_passesTaken_13 : decode cX10_passesTaken 13 = .ok (.getfield 43, 3) := by decide +kernel
theorem dX10_passesTaken_16 : decode cX10_passesTaken 16 = .ok (.iload_n 1, 1) := by decide +kernel
theorem dX10_passesTaken_17 : decode cX10_passesTaken 17 = .ok (.iaload, 1) := by decide +kernel
theorem dX10_passesTaken_18 : decode cX10_passesTaken 18 = .ok (.goto 5, 3) := by decide +kernel
theorem dX10_passesTaken_21 : decode cX10_passesTaken 21 = .ok (.ldc 66, 2) := by decide +kernel
theorem dX10_passesTaken_23 : decode cX10_passesTaken 23 = .ok (.ireturn, 1) := by decide +kernel
theorem dX10_takePackets_0 : decode cX10_takePackets 0 = .ok (.aload_n 1, 1) := by decide +kernel
theorem dX10_takePackets_1 : decode cX10_takePackets 1 = .ok (.iconst 2, 1) := by decide +kernel
theorem dX10_takePackets_2 : decode cX10_takePackets 2 = .ok (.invokevirtual 67, 3) := by decide +kernel
theorem dX10_takePackets_5 : decode cX10_takePackets 5 = .ok (.istore_n 3, 1) := by decide +kernel
theorem dX10_takePackets_6 : decode cX10_takePackets 6 = .ok (.aload_n 1, 1) := by decide +kernel
theorem dX10_takePackets_7 : decode cX10_takePackets 7 = .ok (.iconst 3, 1) := by decide +kernel
theorem dX10_takePackets_8 : decode cX10_takePackets 8 = .ok (.invokevirtual 67, 3) := by decide +kernel
theorem dX10_takePackets_11 : decode cX10_takePackets 11 = .ok (.istore 4, 2) := by decide +kernel
theorem dX10_takePackets_13 : decode cX10_takePackets 13 = .ok (.aload_n 1, 1) := by decide +kernel
theorem dX10_takePackets_14 : decode cX10_takePackets 14 = .ok (.iconst 0, 1) := by decide +kernel
theorem dX10_takePackets_15 : decode cX10_takePackets 15 = .ok (.invokevirtual 67, 3) := by decide +kernel
theorem dX10_takePackets_18 : decode cX10_takePackets 18 = .ok (.invokestatic 73, 3) := by decide +kernel
theorem dX10_takePackets_21 : decode cX10_takePackets 21 = .ok (.ifCond .eq 29, 3) := by decide +kernel
theorem dX10_takePackets_24 : decode cX10_takePackets 24 = .ok (.aload_n 1, 1) := by decide +kernel
theorem dX10_takePackets_25 : decode cX10_takePackets 25 = .ok (.iconst 1, 1) := by decide +kernel
theorem dX10_takePackets_26 : decode cX10_takePackets 26 = .ok (.invokevirtual 67, 3) := by decide +kernel
theorem dX10_takePackets_29 : decode cX10_takePackets 29 = .ok (.invokestatic 73, 3) := by decide +kernel
theorem dX10_takePackets_32 : decode cX10_takePackets 32 = .ok (.ifCond .eq 18, 3) := by decide +kernel
theorem dX10_takePackets_35 : decode cX10_takePackets 35 = .ok (.iload_n 3, 1) := by decide +kernel
theorem dX10_takePackets_36 : decode cX10_takePackets 36 = .ok (.invokestatic 77, 3) := by decide +kernel
theorem dX10_takePackets_39 : decode cX10_takePackets 39 = .ok (.ifCond .eq 11, 3) := by decide +kernel
theorem dX10_takePackets_42 : decode cX10_takePackets 42 = .ok (.iload 4, 2) := by decide +kernel
theorem dX10_takePackets_44 : decode cX10_takePackets 44 = .ok (.invokestatic 80, 3) := by decide +kernel
theorem dX10_takePackets_47 : decode cX10_takePackets 47 = .ok (.ifCond .ne 5, 3) := by decide +kernel
theorem dX10_takePackets_50 : decode cX10_takePackets 50 = .ok (.iconst (-1), 1) := by decide +kernel
theorem dX10_takePackets_51 : decode cX10_takePackets 51 = .ok (.ireturn, 1) := by decide +kernel
theorem dX10_takePackets_52 : decode cX10_takePackets 52 = .ok (.aload_n 0, 1) := by decide +kernel
theorem dX10_takePackets_53 : decode cX10_takePackets 53 = .ok (.getfield 12, 3) := by decide +kernel
theorem dX10_takePackets_56 : decode cX10_takePackets 56 = .ok (.aload_n 1, 1) := by decide +kernel
theorem dX10_takePackets_57 : decode cX10_takePackets 57 = .ok (.iconst 0, 1) := by decide +kernel
theorem dX10_takePackets_58 : decode cX10_takePackets 58 = .ok (.invokevirtual 67, 3) := by decide +kernel
theorem dX10_takePackets_61 : decode cX10_takePackets 61 = .ok (.aload_n 1, 1) := by decide +kernel
theorem dX10_takePackets_62 : decode cX10_takePackets 62 = .ok (.iconst 1, 1) := by decide +kernel
theorem dX10_takePackets_63 : decode cX10_takePackets 63 = .ok (.invokevirtual 67, 3) := by decide +kernel
theorem dX10_takePackets_66 : decode cX10_takePackets 66 = .ok (.iload_n 3, 1) := by decide +kernel
theorem dX10_takePackets_67 : decode cX10_takePackets 67 = .ok (.invokevirtual 83, 3) := by decide +kernel
theorem dX10_takePackets_70 : decode cX10_takePackets 70 = .ok (.aload_n 0, 1) := by decide +kernel
theorem dX10_takePackets_71 : decode cX10_takePackets 71 = .ok (.getfield 22, 3) := by decide +kernel
theorem dX10_takePackets_74 : decode cX10_takePackets 74 = .ok (.iconst 0, 1) := by decide +kernel
theorem dX10_takePackets_75 : decode cX10_takePackets 75 = .ok (.invokestatic 87, 3) := by decide +kernel
theorem dX10_takePackets_78 : decode cX10_takePackets 78 = .ok (.aload_n 0, 1) := by decide +kernel
theorem dX10_takePackets_79 : decode cX10_takePackets 79 = .ok (.getfield 25, 3) := by decide +kernel
theorem dX10_takePackets_82 : decode cX10_takePackets 82 = .ok (.iconst 3, 1) := by decide +kernel
theorem dX10_takePackets_83 : decode cX10_takePackets 83 = .ok (.invokestatic 87, 3) := by decide +kernel
theorem dX10_takePackets_86 : decode cX10_takePackets 86 = .ok (.aload_n 0, 1) := by decide +kernel
theorem dX10_takePackets_87 : decode cX10_takePackets 87 = .ok (.getfield 34, 3) := by decide +kernel
theorem dX10_takePackets_90 : decode cX10_takePackets 90 = .ok (.iconst 0, 1) := by decide +kernel
theorem dX10_takePackets_91 : decode cX10_takePackets 91 = .ok (.invokestatic 87, 3) := by decide +kernel
theorem dX10_takePackets_94 : decode cX10_takePackets 94 = .ok (.aload_n 1, 1) := by decide +kernel
theorem dX10_takePackets_95 : decode cX10_takePackets 95 = .ok (.iconst 4, 1) := by decide +kernel
theorem dX10_takePackets_96 : decode cX10_takePackets 96 = .ok (.iload_n 2, 1) := by decide +kernel
theorem dX10_takePackets_97 : decode cX10_takePackets 97 = .ok (.invokevirtual 93, 3) := by decide +kernel
theorem dX10_takePackets_100 : decode cX10_takePackets 100 = .ok (.iconst 0, 1) := by decide +kernel
theorem dX10_takePackets_101 : decode cX10_takePackets 101 = .ok (.istore 5, 2) := by decide +kernel
theorem dX10_takePackets_103 : decode cX10_takePackets 103 = .ok (.iload 5, 2) := by decide +kernel
theorem dX10_takePackets_105 : decode cX10_takePackets 105 = .ok (.iload 4, 2) := by decide +kernel
theorem dX10_takePackets_107 : decode cX10_takePackets 107 = .ok (.iload_n 3, 1) := by decide +kernel
theorem dX10_takePackets_108 : decode cX10_takePackets 108 = .ok (.iconst 1, 1) := by decide +kernel
theorem dX10_takePackets_109 : decode cX10_takePackets 109 = .ok (.iadd, 1) := by decide +kernel
theorem dX10_takePackets_110 : decode cX10_takePackets 110 = .ok (.imul, 1) := by decide +kernel
theorem dX10_takePackets_111 : decode cX10_takePackets 111 = .ok (.if_icmp .ge 41, 3) := by decide +kernel
theorem dX10_takePackets_114 : decode cX10_takePackets 114 = .ok (.aload_n 0, 1) := by decide +kernel
theorem dX10_takePackets_115 : decode cX10_takePackets 115 = .ok (.aload_n 1, 1) := by decide +kernel
theorem dX10_takePackets_116 : decode cX10_takePackets 116 = .ok (.iload_n 2, 1) := by decide +kernel
theorem dX10_takePackets_117 : decode cX10_takePackets 117 = .ok (.iload 5, 2) := by decide +kernel
theorem dX10_takePackets_119 : decode cX10_takePackets 119 = .ok (.iload_n 3, 1) := by decide +kernel
theorem dX10_takePackets_120 : decode cX10_takePackets 120 = .ok (.iconst 1, 1) := by decide +kernel
theorem dX10_takePackets_121 : decode cX10_takePackets 121 = .ok (.iadd, 1) := by decide +kernel
theorem dX10_takePackets_122 : decode cX10_takePackets 122 = .ok (.irem, 1) := by decide +kernel
theorem dX10_takePackets_123 : decode cX10_takePackets 123 = .ok (.invokevirtual 97, 3) := by decide +kernel
theorem dX10_takePackets_126 : decode cX10_takePackets 126 = .ok (.istore 6, 2) := by decide +kernel
theorem dX10_takePackets_128 : decode cX10_takePackets 128 = .ok (.iload 6, 2) := by decide +kernel
theorem dX10_takePackets_130 : decode cX10_takePackets 130 = .ok (.ifCond .eq 16, 3) := by decide +kernel
theorem dX10_takePackets_133 : decode cX10_takePackets 133 = .ok (.iload 6, 2) := by decide +kernel
theorem dX10_takePackets_135 : decode cX10_takePackets 135 = .ok (.iconst 1, 1) := by decide +kernel
theorem dX10_takePackets_136 : decode cX10_takePackets 136 = .ok (.if_icmp .ne 8, 3) := by decide +kernel
theorem dX10_takePackets_139 : decode cX10_takePackets 139 = .ok (.iload 5, 2) := by decide +kernel
theorem dX10_takePackets_141 : decode cX10_takePackets 141 = .ok (.goto 4, 3) := by decide +kernel
theorem dX10_takePackets_144 : decode cX10_takePackets 144 = .ok (.iconst (-1), 1) := by decide +kernel
theorem dX10_takePackets_145 : decode cX10_takePackets 145 = .ok (.ireturn, 1) := by decide +kernel
theorem dX10_takePackets_146 : decode cX10_takePackets 146 = .ok (.iinc 5 1, 3) := by decide +kernel
theorem dX10_takePackets_149 : decode cX10_takePackets 149 = .ok (.goto (-46), 3) := by decide +kernel
theorem dX10_takePackets_152 : decode cX10_takePackets 152 = .ok (.iload 4, 2) := by decide +kernel
theorem dX10_takePackets_154 : decode cX10_takePackets 154 = .ok (.iload_n 3, 1) := by decide +kernel
theorem dX10_takePackets_155 : decode cX10_takePackets 155 = .ok (.iconst 1, 1) := by decide +kernel
theorem dX10_takePackets_156 : decode cX10_takePackets 156 = .ok (.iadd, 1) := by decide +kernel
theorem dX10_takePackets_157 : decode cX10_takePackets 157 = .ok (.imul, 1) := by decide +kernel
theorem dX10_takePackets_158 : decode cX10_takePackets 158 = .ok (.ireturn, 1) := by decide +kernel
theorem dX10_takePacket_0 : decode cX10_takePacket 0 = .ok (.aload_n 0, 1) := by decide +kernel
theorem dX10_takePacket_1 : decode cX10_takePacket 1 = .ok (.aload_n 1, 1) := by decide +kernel
theorem dX10_takePacket_2 : decode cX10_takePacket 2 = .ok (.iload_n 3, 1) := by decide +kernel
theorem dX10_takePacket_3 : decode cX10_takePacket 3 = .ok (.invokevirtual 101, 3) := by decide +kernel
theorem dX10_takePacket_6 : decode cX10_takePacket 6 = .ok (.istore 4, 2) := by decide +kernel
theorem dX10_takePacket_8 : decode cX10_takePacket 8 = .ok (.iload 4, 2) := by decide +kernel
theorem dX10_takePacket_10 : decode cX10_takePacket 10 = .ok (.ifCond .eq 6, 3) := by decide +kernel
theorem dX10_takePacket_13 : decode cX10_takePacket 13 = .ok (.iload 4, 2) := by decide +kernel
theorem dX10_takePacket_15 : decode cX10_takePacket 15 = .ok (.ireturn, 1) := by decide +kernel
theorem dX10_takePacket_16 : decode cX10_takePacket 16 = .ok (.aload_n 1, 1) := by decide +kernel
theorem dX10_takePacket_17 : decode cX10_takePacket 17 = .ok (.invokevirtual 105, 3) := by decide +kernel
theorem dX10_takePacket_20 : decode cX10_takePacket 20 = .ok (.istore 5, 2) := by decide +kernel
theorem dX10_takePacket_22 : decode cX10_takePacket 22 = .ok (.iconst 0, 1) := by decide +kernel
theorem dX10_takePacket_23 : decode cX10_takePacket 23 = .ok (.istore 6, 2) := by decide +kernel
theorem dX10_takePacket_25 : decode cX10_takePacket 25 = .ok (.iload_n 3, 1) := by decide +kernel
theorem dX10_takePacket_26 : decode cX10_takePacket 26 = .ok (.invokestatic 109, 3) := by decide +kernel
theorem dX10_takePacket_29 : decode cX10_takePacket 29 = .ok (.istore 7, 2) := by decide +kernel
theorem dX10_takePacket_31 : decode cX10_takePacket 31 = .ok (.iload 7, 2) := by decide +kernel
theorem dX10_takePacket_33 : decode cX10_takePacket 33 = .ok (.iload_n 3, 1) := by decide +kernel
theorem dX10_takePacket_34 : decode cX10_takePacket 34 = .ok (.invokestatic 112, 3) := by decide +kernel
theorem dX10_takePacket_37 : decode cX10_takePacket 37 = .ok (.if_icmp .gt 21, 3) := by decide +kernel
theorem dX10_takePacket_40 : decode cX10_takePacket 40 = .ok (.iload 6, 2) := by decide +kernel
theorem dX10_takePacket_42 : decode cX10_takePacket 42 = .ok (.aload_n 0, 1) := by decide +kernel
theorem dX10_takePacket_43 : decode cX10_takePacket 43 = .ok (.getfield 31, 3) := by decide +kernel
theorem dX10_takePacket_46 : decode cX10_takePacket 46 = .ok (.iload 7, 2) := by decide +kernel
theorem dX10_takePacket_48 : decode cX10_takePacket 48 = .ok (.iaload, 1) := by decide +kernel
theorem dX10_takePacket_49 : decode cX10_takePacket 49 = .ok (.iadd, 1) := by decide +kernel
theorem dX10_takePacket_50 : decode cX10_takePacket 50 = .ok (.istore 6, 2) := by decide +kernel
theorem dX10_takePacket_52 : decode cX10_takePacket 52 = .ok (.iinc 7 1, 3) := by decide +kernel
theorem dX10_takePacket_55 : decode cX10_takePacket 55 = .ok (.goto (-24), 3) := by decide +kernel
theorem dX10_takePacket_58 : decode cX10_takePacket 58 = .ok (.iload 6, 2) := by decide +kernel
theorem dX10_takePacket_60 : decode cX10_takePacket 60 = .ok (.iload_n 2, 1) := by decide +kernel
theorem dX10_takePacket_61 : decode cX10_takePacket 61 = .ok (.iload 5, 2) := by decide +kernel
theorem dX10_takePacket_63 : decode cX10_takePacket 63 = .ok (.isub, 1) := by decide +kernel
theorem dX10_takePacket_64 : decode cX10_takePacket 64 = .ok (.if_icmp .le 5, 3) := by decide +kernel
theorem dX10_takePacket_67 : decode cX10_takePacket 67 = .ok (.iconst 1, 1) := by decide +kernel
theorem dX10_takePacket_68 : decode cX10_takePacket 68 = .ok (.ireturn, 1) := by decide +kernel
theorem dX10_takePacket_69 : decode cX10_takePacket 69 = .ok (.iload_n 3, 1) := by decide +kernel
theorem dX10_takePacket_70 : decode cX10_takePacket 70 = .ok (.invokestatic 109, 3) := by decide +kernel
theorem dX10_takePacket_73 : decode cX10_takePacket 73 = .ok (.istore 7, 2) := by decide +kernel
theorem dX10_takePacket_75 : decode cX10_takePacket 75 = .ok (.iload 7, 2) := by decide +kernel
theorem dX10_takePacket_77 : decode cX10_takePacket 77 = .ok (.iload_n 3, 1) := by decide +kernel
theorem dX10_takePacket_78 : decode cX10_takePacket 78 = .ok (.invokestatic 112, 3) := by decide +kernel
theorem dX10_takePacket_81 : decode cX10_takePacket 81 = .ok (.if_icmp .gt 53, 3) := by decide +kernel
theorem dX10_takePacket_84 : decode cX10_takePacket 84 = .ok (.aload_n 0, 1) := by decide +kernel
theorem dX10_takePacket_85 : decode cX10_takePacket 85 = .ok (.getfield 22, 3) := by decide +kernel
theorem dX10_takePacket_88 : decode cX10_takePacket 88 = .ok (.iload 7, 2) := by decide +kernel
theorem dX10_takePacket_90 : decode cX10_takePacket 90 = .ok (.dup2, 1) := by decide +kernel
theorem dX10_takePacket_91 : decode cX10_takePacket 91 = .ok (.iaload, 1) := by decide +kernel
theorem dX10_takePacket_92 : decode cX10_takePacket 92 = .ok (.aload_n 0, 1) := by decide +kernel
theorem dX10_takePacket_93 : decode cX10_takePacket 93 = .ok (.getfield 28, 3) := by decide +kernel
theorem dX10_takePacket_96 : decode cX10_takePacket 96 = .ok (.iload 7, 2) := by decide +kernel
theorem dX10_takePacket_98 : decode cX10_takePacket 98 = .ok (.iaload, 1) := by decide +kernel
theorem dX10_takePacket_99 : decode cX10_takePacket 99 = .ok (.iadd, 1) := by decide +kernel
theorem dX10_takePacket_100 : decode cX10_takePacket 100 = .ok (.iastore, 1) := by decide +kernel
theorem dX10_takePacket_101 : decode cX10_takePacket 101 = .ok (.aload_n 0, 1) := by decide +kernel
theorem dX10_takePacket_102 : decode cX10_takePacket 102 = .ok (.iload 7, 2) := by decide +kernel
theorem dX10_takePacket_104 : decode cX10_takePacket 104 = .ok (.iload 5, 2) := by decide +kernel
theorem dX10_takePacket_106 : decode cX10_takePacket 106 = .ok (.aload_n 0, 1) := by decide +kernel
theorem dX10_takePacket_107 : decode cX10_takePacket 107 = .ok (.getfield 31, 3) := by decide +kernel
theorem dX10_takePacket_110 : decode cX10_takePacket 110 = .ok (.iload 7, 2) := by decide +kernel
theorem dX10_takePacket_112 : decode cX10_takePacket 112 = .ok (.iaload, 1) := by decide +kernel
theorem dX10_takePacket_113 : decode cX10_takePacket 113 = .ok (.invokevirtual 115, 3) := by decide +kernel
theorem dX10_takePacket_116 : decode cX10_takePacket 116 = .ok (.iload 5, 2) := by decide +kernel
theorem dX10_takePacket_118 : decode cX10_takePacket 118 = .ok (.aload_n 0, 1) := by decide +kernel
theorem dX10_takePacket_119 : decode cX10_takePacket 119 = .ok (.getfield 31, 3) := by decide +kernel
theorem dX10_takePacket_122 : decode cX10_takePacket 122 = .ok (.iload 7, 2) := by decide +kernel
theorem dX10_takePacket_124 : decode cX10_takePacket 124 = .ok (.iaload, 1) := by decide +kernel
theorem dX10_takePacket_125 : decode cX10_takePacket 125 = .ok (.iadd, 1) := by decide +kernel
theorem dX10_takePacket_126 : decode cX10_takePacket 126 = .ok (.istore 5, 2) := by decide +kernel
theorem dX10_takePacket_128 : decode cX10_takePacket 128 = .ok (.iinc 7 1, 3) := by decide +kernel
theorem dX10_takePacket_131 : decode cX10_takePacket 131 = .ok (.goto (-56), 3) := by decide +kernel
theorem dX10_takePacket_134 : decode cX10_takePacket 134 = .ok (.aload_n 1, 1) := by decide +kernel
theorem dX10_takePacket_135 : decode cX10_takePacket 135 = .ok (.iload 5, 2) := by decide +kernel
theorem dX10_takePacket_137 : decode cX10_takePacket 137 = .ok (.iload_n 2, 1) := by decide +kernel
theorem dX10_takePacket_138 : decode cX10_takePacket 138 = .ok (.invokevirtual 93, 3) := by decide +kernel
theorem dX10_takePacket_141 : decode cX10_takePacket 141 = .ok (.iconst 0, 1) := by decide +kernel
theorem dX10_takePacket_142 : decode cX10_takePacket 142 = .ok (.ireturn, 1) := by decide +kernel
theorem dX10_addPart_0 : decode cX10_addPart 0 = .ok (.aload_n 0, 1) := by decide +kernel
theorem dX10_addPart_1 : decode cX10_addPart 1 = .ok (.getfield 34, 3) := by decide +kernel
theorem dX10_addPart_4 : decode cX10_addPart 4 = .ok (.iload_n 1, 1) := by decide +kernel
theorem dX10_addPart_5 : decode cX10_addPart 5 = .ok (.iaload, 1) := by decide +kernel
theorem dX10_addPart_6 : decode cX10_addPart 6 = .ok (.iconst 3, 1) := by decide +kernel
theorem dX10_addPart_7 : decode cX10_addPart 7 = .ok (.if_icmp .ge 45, 3) := by decide +kernel
theorem dX10_addPart_10 : decode cX10_addPart 10 = .ok (.aload_n 0, 1) := by decide +kernel
theorem dX10_addPart_11 : decode cX10_addPart 11 = .ok (.getfield 37, 3) := by decide +kernel
theorem dX10_addPart_14 : decode cX10_addPart 14 = .ok (.iload_n 1, 1) := by decide +kernel
theorem dX10_addPart_15 : decode cX10_addPart 15 = .ok (.iconst 3, 1) := by decide +kernel
theorem dX10_addPart_16 : decode cX10_addPart 16 = .ok (.imul, 1) := by decide +kernel
theorem dX10_addPart_17 : decode cX10_addPart 17 = .ok (.aload_n 0, 1) := by decide +kernel
theorem dX10_addPart_18 : decode cX10_addPart 18 = .ok (.getfield 34, 3) := by decide +kernel
theorem dX10_addPart_21 : decode cX10_addPart 21 = .ok (.iload_n 1, 1) := by decide +kernel
theorem dX10_addPart_22 : decode cX10_addPart 22 = .ok (.iaload, 1) := by decide +kernel
theorem dX10_addPart_23 : decode cX10_addPart 23 = .ok (.iadd, 1) := by decide +kernel
theorem dX10_addPart_24 : decode cX10_addPart 24 = .ok (.iload_n 2, 1) := by decide +kernel
theorem dX10_addPart_25 : decode cX10_addPart 25 = .ok (.iastore, 1) := by decide +kernel
theorem dX10_addPart_26 : decode cX10_addPart 26 = .ok (.aload_n 0, 1) := by decide +kernel
theorem dX10_addPart_27 : decode cX10_addPart 27 = .ok (.getfield 40, 3) := by decide +kernel
theorem dX10_addPart_30 : decode cX10_addPart 30 = .ok (.iload_n 1, 1) := by decide +kernel
theorem dX10_addPart_31 : decode cX10_addPart 31 = .ok (.iconst 3, 1) := by decide +kernel
theorem dX10_addPart_32 : decode cX10_addPart 32 = .ok (.imul, 1) := by decide +kernel
theorem dX10_addPart_33 : decode cX10_addPart 33 = .ok (.aload_n 0, 1) := by decide +kernel
theorem dX10_addPart_34 : decode cX10_addPart 34 = .ok (.getfield 34, 3) := by decide +kernel
theorem dX10_addPart_37 : decode cX10_addPart 37 = .ok (.iload_n 1, 1) := by decide +kernel
theorem dX10_addPart_38 : decode cX10_addPart 38 = .ok (.iaload, 1) := by decide +kernel
theorem dX10_addPart_39 : decode cX10_addPart 39 = .ok (.iadd, 1) := by decide +kernel
theorem dX10_addPart_40 : decode cX10_addPart 40 = .ok (.iload_n 3, 1) := by decide +kernel
theorem dX10_addPart_41 : decode cX10_addPart 41 = .ok (.iastore, 1) := by decide +kernel
theorem dX10_addPart_42 : decode cX10_addPart 42 = .ok (.aload_n 0, 1) := by decide +kernel
theorem dX10_addPart_43 : decode cX10_addPart 43 = .ok (.getfield 34, 3) := by decide +kernel
theorem dX10_addPart_46 : decode cX10_addPart 46 = .ok (.iload_n 1, 1) := by decide +kernel
theorem dX10_addPart_47 : decode cX10_addPart 47 = .ok (.dup2, 1) := by decide +kernel
theorem dX10_addPart_48 : decode cX10_addPart 48 = .ok (.iaload, 1) := by decide +kernel
theorem dX10_addPart_49 : decode cX10_addPart 49 = .ok (.iconst 1, 1) := by decide +kernel
theorem dX10_addPart_50 : decode cX10_addPart 50 = .ok (.iadd, 1) := by decide +kernel
theorem dX10_addPart_51 : decode cX10_addPart 51 = .ok (.iastore, 1) := by decide +kernel
theorem dX10_addPart_52 : decode cX10_addPart 52 = .ok (.return_, 1) := by decide +kernel
theorem dX10_readHead_0 : decode cX10_readHead 0 = .ok (.iload_n 2, 1) := by decide +kernel
theorem dX10_readHead_1 : decode cX10_readHead 1 = .ok (.invokestatic 109, 3) := by decide +kernel
theorem dX10_readHead_4 : decode cX10_readHead 4 = .ok (.istore_n 3, 1) := by decide +kernel
theorem dX10_readHead_5 : decode cX10_readHead 5 = .ok (.iload_n 3, 1) := by decide +kernel
theorem dX10_readHead_6 : decode cX10_readHead 6 = .ok (.iload_n 2, 1) := by decide +kernel
theorem dX10_readHead_7 : decode cX10_readHead 7 = .ok (.invokestatic 112, 3) := by decide +kernel
theorem dX10_readHead_10 : decode cX10_readHead 10 = .ok (.if_icmp .gt 23, 3) := by decide +kernel
theorem dX10_readHead_13 : decode cX10_readHead 13 = .ok (.aload_n 0, 1) := by decide +kernel
theorem dX10_readHead_14 : decode cX10_readHead 14 = .ok (.getfield 28, 3) := by decide +kernel
theorem dX10_readHead_17 : decode cX10_readHead 17 = .ok (.iload_n 3, 1) := by decide +kernel
theorem dX10_readHead_18 : decode cX10_readHead 18 = .ok (.iconst 0, 1) := by decide +kernel
theorem dX10_readHead_19 : decode cX10_readHead 19 = .ok (.iastore, 1) := by decide +kernel
theorem dX10_readHead_20 : decode cX10_readHead 20 = .ok (.aload_n 0, 1) := by decide +kernel
theorem dX10_readHead_21 : decode cX10_readHead 21 = .ok (.getfield 31, 3) := by decide +kernel
theorem dX10_readHead_24 : decode cX10_readHead 24 = .ok (.iload_n 3, 1) := by decide +kernel
theorem dX10_readHead_25 : decode cX10_readHead 25 = .ok (.iconst 0, 1) := by decide +kernel
theorem dX10_readHead_26 : decode cX10_readHead 26 = .ok (.iastore, 1) := by decide +kernel
theorem dX10_readHead_27 : decode cX10_readHead 27 = .ok (.iinc 3 1, 3) := by decide +kernel
theorem dX10_readHead_30 : decode cX10_readHead 30 = .ok (.goto (-25), 3) := by decide +kernel
theorem dX10_readHead_33 : decode cX10_readHead 33 = .ok (.aload_n 1, 1) := by decide +kernel
theorem dX10_readHead_34 : decode cX10_readHead 34 = .ok (.iconst 1, 1) := by decide +kernel
theorem dX10_readHead_35 : decode cX10_readHead 35 = .ok (.invokevirtual 118, 3) := by decide +kernel
theorem dX10_readHead_38 : decode cX10_readHead 38 = .ok (.istore_n 3, 1) := by decide +kernel
theorem dX10_readHead_39 : decode cX10_readHead 39 = .ok (.iload_n 3, 1) := by decide +kernel
theorem dX10_readHead_40 : decode cX10_readHead 40 = .ok (.iconst 1, 1) := by decide +kernel
theorem dX10_readHead_41 : decode cX10_readHead 41 = .ok (.if_icmp .eq 13, 3) := by decide +kernel
theorem dX10_readHead_44 : decode cX10_readHead 44 = .ok (.iload_n 3, 1) := by decide +kernel
theorem dX10_readHead_45 : decode cX10_readHead 45 = .ok (.ifCond .ne 7, 3) := by decide +kernel
theorem dX10_readHead_48 : decode cX10_readHead 48 = .ok (.iconst 0, 1) := by decide +kernel
theorem dX10_readHead_49 : decode cX10_readHead 49 = .ok (.goto 4, 3) := by decide +kernel
theorem dX10_readHead_52 : decode cX10_readHead 52 = .ok (.iconst 1, 1) := by decide +kernel
theorem dX10_readHead_53 : decode cX10_readHead 53 = .ok (.ireturn, 1) := by decide +kernel
theorem dX10_readHead_54 : decode cX10_readHead 54 = .ok (.iload_n 2, 1) := by decide +kernel
theorem dX10_readHead_55 : decode cX10_readHead 55 = .ok (.invokestatic 109, 3) := by decide +kernel
theorem dX10_readHead_58 : decode cX10_readHead 58 = .ok (.istore 4, 2) := by decide +kernel
theorem dX10_readHead_60 : decode cX10_readHead 60 = .ok (.iload 4, 2) := by decide +kernel
theorem dX10_readHead_62 : decode cX10_readHead 62 = .ok (.iload_n 2, 1) := by decide +kernel
theorem dX10_readHead_63 : decode cX10_readHead 63 = .ok (.invokestatic 112, 3) := by decide +kernel
theorem dX10_readHead_66 : decode cX10_readHead 66 = .ok (.if_icmp .gt 42, 3) := by decide +kernel
theorem dX10_readHead_69 : decode cX10_readHead 69 = .ok (.aload_n 0, 1) := by decide +kernel
theorem dX10_readHead_70 : decode cX10_readHead 70 = .ok (.getfield 12, 3) := by decide +kernel
theorem dX10_readHead_73 : decode cX10_readHead 73 = .ok (.iload 4, 2) := by decide +kernel
theorem dX10_readHead_75 : decode cX10_readHead 75 = .ok (.invokevirtual 121, 3) := by decide +kernel
theorem dX10_readHead_78 : decode cX10_readHead 78 = .ok (.ifCond .eq 7, 3) := by decide +kernel
theorem dX10_readHead_81 : decode cX10_readHead 81 = .ok (.iconst 0, 1) := by decide +kernel
theorem dX10_readHead_82 : decode cX10_readHead 82 = .ok (.goto 10, 3) := by decide +kernel
theorem dX10_readHead_85 : decode cX10_readHead 85 = .ok (.aload_n 0, 1) := by decide +kernel
theorem dX10_readHead_86 : decode cX10_readHead 86 = .ok (.aload_n 1, 1) := by decide +kernel
theorem dX10_readHead_87 : decode cX10_readHead 87 = .ok (.iload 4, 2) := by decide +kernel
theorem dX10_readHead_89 : decode cX10_readHead 89 = .ok (.invokevirtual 124, 3) := by decide +kernel
theorem dX10_readHead_92 : decode cX10_readHead 92 = .ok (.istore 5, 2) := by decide +kernel
theorem dX10_readHead_94 : decode cX10_readHead 94 = .ok (.iload 5, 2) := by decide +kernel
theorem dX10_readHead_96 : decode cX10_readHead 96 = .ok (.ifCond .eq 6, 3) := by decide +kernel
theorem dX10_readHead_99 : decode cX10_readHead 99 = .ok (.iload 5, 2) := by decide +kernel
theorem dX10_readHead_101 : decode cX10_readHead 101 = .ok (.ireturn, 1) := by decide +kernel
theorem dX10_readHead_102 : decode cX10_readHead 102 = .ok (.iinc 4 1, 3) := by decide +kernel
theorem dX10_readHead_105 : decode cX10_readHead 105 = .ok (.goto (-45), 3) := by decide +kernel
theorem dX10_readHead_108 : decode cX10_readHead 108 = .ok (.iconst 0, 1) := by decide +kernel
theorem dX10_readHead_109 : decode cX10_readHead 109 = .ok (.ireturn, 1) := by decide +kernel
theorem dX10_readBandHead_0 : decode cX10_readBandHead 0 = .ok (.aload_n 1, 1) := by decide +kernel
theorem dX10_readBandHead_1 : decode cX10_readBandHead 1 = .ok (.iconst 1, 1) := by decide +kernel
theorem dX10_readBandHead_2 : decode cX10_readBandHead 2 = .ok (.invokevirtual 118, 3) := by decide +kernel
theorem dX10_readBandHead_5 : decode cX10_readBandHead 5 = .ok (.istore_n 3, 1) := by decide +kernel
theorem dX10_readBandHead_6 : decode cX10_readBandHead 6 = .ok (.iload_n 3, 1) := by decide +kernel
theorem dX10_readBandHead_7 : decode cX10_readBandHead 7 = .ok (.iconst 1, 1) := by decide +kernel
theorem dX10_readBandHead_8 : decode cX10_readBandHead 8 = .ok (.if_icmp .eq 13, 3) := by decide +kernel
theorem dX10_readBandHead_11 : decode cX10_readBandHead 11 = .ok (.iload_n 3, 1) := by decide +kernel
theorem dX10_readBandHead_12 : decode cX10_readBandHead 12 = .ok (.ifCond .ne 7, 3) := by decide +kernel
theorem dX10_readBandHead_15 : decode cX10_readBandHead 15 = .ok (.iconst 0, 1) := by decide +kernel
theorem dX10_readBandHead_16 : decode cX10_readBandHead 16 = .ok (.goto 4, 3) := by decide +kernel
theorem dX10_readBandHead_19 : decode cX10_readBandHead 19 = .ok (.iconst 1, 1) := by decide +kernel
theorem dX10_readBandHead_20 : decode cX10_readBandHead 20 = .ok (.ireturn, 1) := by decide +kernel
theorem dX10_readBandHead_21 : decode cX10_readBandHead 21 = .ok (.aload_n 0, 1) := by decide +kernel
theorem dX10_readBandHead_22 : decode cX10_readBandHead 22 = .ok (.getfield 22, 3) := by decide +kernel
theorem dX10_readBandHead_25 : decode cX10_readBandHead 25 = .ok (.iload_n 2, 1) := by decide +kernel
theorem dX10_readBandHead_26 : decode cX10_readBandHead 26 = .ok (.iaload, 1) := by decide +kernel
theorem dX10_readBandHead_27 : decode cX10_readBandHead 27 = .ok (.ifCond .ne 39, 3) := by decide +kernel
theorem dX10_readBandHead_30 : decode cX10_readBandHead 30 = .ok (.aload_n 1, 1) := by decide +kernel
theorem dX10_readBandHead_31 : decode cX10_readBandHead 31 = .ok (.iconst 4, 1) := by decide +kernel
theorem dX10_readBandHead_32 : decode cX10_readBandHead 32 = .ok (.invokevirtual 118, 3) := by decide +kernel
theorem dX10_readBandHead_35 : decode cX10_readBandHead 35 = .ok (.istore 4, 2) := by decide +kernel
theorem dX10_readBandHead_37 : decode cX10_readBandHead 37 = .ok (.iload 4, 2) := by decide +kernel
theorem dX10_readBandHead_39 : decode cX10_readBandHead 39 = .ok (.ifCond .ge 5, 3) := by decide +kernel
theorem dX10_readBandHead_42 : decode cX10_readBandHead 42 = .ok (.iconst 1, 1) := by decide +kernel
theorem dX10_readBandHead_43 : decode cX10_readBandHead 43 = .ok (.ireturn, 1) := by decide +kernel
theorem dX10_readBandHead_44 : decode cX10_readBandHead 44 = .ok (.iload 4, 2) := by decide +kernel
theorem dX10_readBandHead_46 : decode cX10_readBandHead 46 = .ok (.ifCond .eq 10, 3) := by decide +kernel
theorem dX10_readBandHead_49 : decode cX10_readBandHead 49 = .ok (.iload 4, 2) := by decide +kernel
theorem dX10_readBandHead_51 : decode cX10_readBandHead 51 = .ok (.bipush 12, 2) := by decide +kernel
theorem dX10_readBandHead_53 : decode cX10_readBandHead 53 = .ok (.if_icmp .le 5, 3) := by decide +kernel
theorem dX10_readBandHead_56 : decode cX10_readBandHead 56 = .ok (.iconst (-1), 1) := by decide +kernel
theorem dX10_readBandHead_57 : decode cX10_readBandHead 57 = .ok (.ireturn, 1) := by decide +kernel
theorem dX10_readBandHead_58 : decode cX10_readBandHead 58 = .ok (.aload_n 0, 1) := by decide +kernel
theorem dX10_readBandHead_59 : decode cX10_readBandHead 59 = .ok (.getfield 18, 3) := by decide +kernel
theorem dX10_readBandHead_62 : decode cX10_readBandHead 62 = .ok (.iload_n 2, 1) := by decide +kernel
theorem dX10_readBandHead_63 : decode cX10_readBandHead 63 = .ok (.iload 4, 2) := by decide +kernel
theorem dX10_readBandHead_65 : decode cX10_readBandHead 65 = .ok (.iastore, 1) := by decide +kernel
theorem dX10_readBandHead_66 : decode cX10_readBandHead 66 = .ok (.aload_n 1, 1) := by decide +kernel
theorem dX10_readBandHead_67 : decode cX10_readBandHead 67 = .ok (.invokestatic 127, 3) := by decide +kernel
theorem dX10_readBandHead_70 : decode cX10_readBandHead 70 = .ok (.istore 4, 2) := by decide +kernel
theorem dX10_readBandHead_72 : decode cX10_readBandHead 72 = .ok (.iload 4, 2) := by decide +kernel
theorem dX10_readBandHead_74 : decode cX10_readBandHead 74 = .ok (.ifCond .ge 5, 3) := by decide +kernel
theorem dX10_readBandHead_77 : decode cX10_readBandHead 77 = .ok (.iconst 1, 1) := by decide +kernel
theorem dX10_readBandHead_78 : decode cX10_readBandHead 78 = .ok (.ireturn, 1) := by decide +kernel
theorem dX10_readBandHead_79 : decode cX10_readBandHead 79 = .ok (.aload_n 0, 1) := by decide +kernel
theorem dX10_readBandHead_80 : decode cX10_readBandHead 80 = .ok (.getfield 22, 3) := by decide +kernel
theorem dX10_readBandHead_83 : decode cX10_readBandHead 83 = .ok (.iload_n 2, 1) := by decide +kernel
theorem dX10_readBandHead_84 : decode cX10_readBandHead 84 = .ok (.iaload, 1) := by decide +kernel
theorem dX10_readBandHead_85 : decode cX10_readBandHead 85 = .ok (.iload 4, 2) := by decide +kernel
theorem dX10_readBandHead_87 : decode cX10_readBandHead 87 = .ok (.iadd, 1) := by decide +kernel
theorem dX10_readBandHead_88 : decode cX10_readBandHead 88 = .ok (.aload_n 0, 1) := by decide +kernel
theorem dX10_readBandHead_89 : decode cX10_readBandHead 89 = .ok (.getfield 18, 3) := by decide +kernel
theorem dX10_readBandHead_92 : decode cX10_readBandHead 92 = .ok (.iload_n 2, 1) := by decide +kernel
theorem dX10_readBandHead_93 : decode cX10_readBandHead 93 = .ok (.iaload, 1) := by decide +kernel
theorem dX10_readBandHead_94 : decode cX10_readBandHead 94 = .ok (.invokestatic 131, 3) := by decide +kernel
theorem dX10_readBandHead_97 : decode cX10_readBandHead 97 = .ok (.if_icmp .le 5, 3) := by decide +kernel
theorem dX10_readBandHead_100 : decode cX10_readBandHead 100 = .ok (.iconst (-1), 1) := by decide +kernel
theorem dX10_readBandHead_101 : decode cX10_readBandHead 101 = .ok (.ireturn, 1) := by decide +kernel
theorem dX10_readBandHead_102 : decode cX10_readBandHead 102 = .ok (.aload_n 0, 1) := by decide +kernel
theorem dX10_readBandHead_103 : decode cX10_readBandHead 103 = .ok (.aload_n 1, 1) := by decide +kernel
theorem dX10_readBandHead_104 : decode cX10_readBandHead 104 = .ok (.iload_n 2, 1) := by decide +kernel
theorem dX10_readBandHead_105 : decode cX10_readBandHead 105 = .ok (.invokevirtual 134, 3) := by decide +kernel
theorem dX10_readBandHead_108 : decode cX10_readBandHead 108 = .ok (.aload_n 1, 1) := by decide +kernel
theorem dX10_readBandHead_109 : decode cX10_readBandHead 109 = .ok (.aload_n 0, 1) := by decide +kernel
theorem dX10_readBandHead_110 : decode cX10_readBandHead 110 = .ok (.getfield 25, 3) := by decide +kernel
theorem dX10_readBandHead_113 : decode cX10_readBandHead 113 = .ok (.iload_n 2, 1) := by decide +kernel
theorem dX10_readBandHead_114 : decode cX10_readBandHead 114 = .ok (.iaload, 1) := by decide +kernel
theorem dX10_readBandHead_115 : decode cX10_readBandHead 115 = .ok (.iload 4, 2) := by decide +kernel
theorem dX10_readBandHead_117 : decode cX10_readBandHead 117 = .ok (.invokestatic 138, 3) := by decide +kernel
theorem dX10_readBandHead_120 : decode cX10_readBandHead 120 = .ok (.iadd, 1) := by decide +kernel
theorem dX10_readBandHead_121 : decode cX10_readBandHead 121 = .ok (.iconst 1, 1) := by decide +kernel
theorem dX10_readBandHead_122 : decode cX10_readBandHead 122 = .ok (.isub, 1) := by decide +kernel
theorem dX10_readBandHead_123 : decode cX10_readBandHead 123 = .ok (.invokevirtual 118, 3) := by decide +kernel
theorem dX10_readBandHead_126 : decode cX10_readBandHead 126 = .ok (.istore 5, 2) := by decide +kernel
theorem dX10_readBandHead_128 : decode cX10_readBandHead 128 = .ok (.iload 5, 2) := by decide +kernel
theorem dX10_readBandHead_130 : decode cX10_readBandHead 130 = .ok (.ifCond .ge 5, 3) := by decide +kernel
theorem dX10_readBandHead_133 : decode cX10_readBandHead 133 = .ok (.iconst 1, 1) := by decide +kernel
theorem dX10_readBandHead_134 : decode cX10_readBandHead 134 = .ok (.ireturn, 1) := by decide +kernel
theorem dX10_readBandHead_135 : decode cX10_readBandHead 135 = .ok (.aload_n 0, 1) := by decide +kernel
theorem dX10_readBandHead_136 : decode cX10_readBandHead 136 = .ok (.getfield 28, 3) := by decide +kernel
theorem dX10_readBandHead_139 : decode cX10_readBandHead 139 = .ok (.iload_n 2, 1) := by decide +kernel
theorem dX10_readBandHead_140 : decode cX10_readBandHead 140 = .ok (.iload 4, 2) := by decide +kernel
theorem dX10_readBandHead_142 : decode cX10_readBandHead 142 = .ok (.iastore, 1) := by decide +kernel
theorem dX10_readBandHead_143 : decode cX10_readBandHead 143 = .ok (.aload_n 0, 1) := by decide +kernel
theorem dX10_readBandHead_144 : decode cX10_readBandHead 144 = .ok (.getfield 31, 3) := by decide +kernel
theorem dX10_readBandHead_147 : decode cX10_readBandHead 147 = .ok (.iload_n 2, 1) := by decide +kernel
theorem dX10_readBandHead_148 : decode cX10_readBandHead 148 = .ok (.iload 5, 2) := by decide +kernel
theorem dX10_readBandHead_150 : decode cX10_readBandHead 150 = .ok (.iastore, 1) := by decide +kernel
theorem dX10_readBandHead_151 : decode cX10_readBandHead 151 = .ok (.iconst 0, 1) := by decide +kernel
theorem dX10_readBandHead_152 : decode cX10_readBandHead 152 = .ok (.ireturn, 1) := by decide +kernel
theorem dX10_readCount_0 : decode cX10_readCount 0 = .ok (.aload_n 0, 1) := by decide +kernel
theorem dX10_readCount_1 : decode cX10_readCount 1 = .ok (.iconst 1, 1) := by decide +kernel
theorem dX10_readCount_2 : decode cX10_readCount 2 = .ok (.invokevirtual 118, 3) := by decide +kernel
theorem dX10_readCount_5 : decode cX10_readCount 5 = .ok (.istore_n 1, 1) := by decide +kernel
theorem dX10_readCount_6 : decode cX10_readCount 6 = .ok (.iload_n 1, 1) := by decide +kernel
theorem dX10_readCount_7 : decode cX10_readCount 7 = .ok (.iconst 1, 1) := by decide +kernel
theorem dX10_readCount_8 : decode cX10_readCount 8 = .ok (.if_icmp .eq 13, 3) := by decide +kernel
theorem dX10_readCount_11 : decode cX10_readCount 11 = .ok (.iload_n 1, 1) := by decide +kernel
theorem dX10_readCount_12 : decode cX10_readCount 12 = .ok (.ifCond .ne 7, 3) := by decide +kernel
theorem dX10_readCount_15 : decode cX10_readCount 15 = .ok (.iconst 1, 1) := by decide +kernel
theorem dX10_readCount_16 : decode cX10_readCount 16 = .ok (.goto 4, 3) := by decide +kernel
theorem dX10_readCount_19 : decode cX10_readCount 19 = .ok (.iload_n 1, 1) := by decide +kernel
theorem dX10_readCount_20 : decode cX10_readCount 20 = .ok (.ireturn, 1) := by decide +kernel
theorem dX10_readCount_21 : decode cX10_readCount 21 = .ok (.aload_n 0, 1) := by decide +kernel
theorem dX10_readCount_22 : decode cX10_readCount 22 = .ok (.iconst 1, 1) := by decide +kernel
theorem dX10_readCount_23 : decode cX10_readCount 23 = .ok (.invokevirtual 118, 3) := by decide +kernel
theorem dX10_readCount_26 : decode cX10_readCount 26 = .ok (.istore_n 1, 1) := by decide +kernel
theorem dX10_readCount_27 : decode cX10_readCount 27 = .ok (.iload_n 1, 1) := by decide +kernel
theorem dX10_readCount_28 : decode cX10_readCount 28 = .ok (.iconst 1, 1) := by decide +kernel
theorem dX10_readCount_29 : decode cX10_readCount 29 = .ok (.if_icmp .eq 13, 3) := by decide +kernel
theorem dX10_readCount_32 : decode cX10_readCount 32 = .ok (.iload_n 1, 1) := by decide +kernel
theorem dX10_readCount_33 : decode cX10_readCount 33 = .ok (.ifCond .ne 7, 3) := by decide +kernel
theorem dX10_readCount_36 : decode cX10_readCount 36 = .ok (.iconst 2, 1) := by decide +kernel
theorem dX10_readCount_37 : decode cX10_readCount 37 = .ok (.goto 4, 3) := by decide +kernel
theorem dX10_readCount_40 : decode cX10_readCount 40 = .ok (.iload_n 1, 1) := by decide +kernel
theorem dX10_readCount_41 : decode cX10_readCount 41 = .ok (.ireturn, 1) := by decide +kernel
theorem dX10_readCount_42 : decode cX10_readCount 42 = .ok (.aload_n 0, 1) := by decide +kernel
theorem dX10_readCount_43 : decode cX10_readCount 43 = .ok (.iconst 2, 1) := by decide +kernel
theorem dX10_readCount_44 : decode cX10_readCount 44 = .ok (.invokevirtual 118, 3) := by decide +kernel
theorem dX10_readCount_47 : decode cX10_readCount 47 = .ok (.istore_n 2, 1) := by decide +kernel
theorem dX10_readCount_48 : decode cX10_readCount 48 = .ok (.iload_n 2, 1) := by decide +kernel
theorem dX10_readCount_49 : decode cX10_readCount 49 = .ok (.iconst 3, 1) := by decide +kernel
theorem dX10_readCount_50 : decode cX10_readCount 50 = .ok (.if_icmp .eq 15, 3) := by decide +kernel
theorem dX10_readCount_53 : decode cX10_readCount 53 = .ok (.iload_n 2, 1) := by decide +kernel
theorem dX10_readCount_54 : decode cX10_readCount 54 = .ok (.ifCond .ge 7, 3) := by decide +kernel
theorem dX10_readCount_57 : decode cX10_readCount 57 = .ok (.iload_n 2, 1) := by decide +kernel
theorem dX10_readCount_58 : decode cX10_readCount 58 = .ok (.goto 6, 3) := by decide +kernel
theorem dX10_readCount_61 : decode cX10_readCount 61 = .ok (.iconst 3, 1) := by decide +kernel
theorem dX10_readCount_62 : decode cX10_readCount 62 = .ok (.iload_n 2, 1) := by decide +kernel
theorem dX10_readCount_63 : decode cX10_readCount 63 = .ok (.iadd, 1) := by decide +kernel
theorem dX10_readCount_64 : decode cX10_readCount 64 = .ok (.ireturn, 1) := by decide +kernel
theorem dX10_readCount_65 : decode cX10_readCount 65 = .ok (.aload_n 0, 1) := by decide +kernel
theorem dX10_readCount_66 : decode cX10_readCount 66 = .ok (.iconst 5, 1) := by decide +kernel
theorem dX10_readCount_67 : decode cX10_readCount 67 = .ok (.invokevirtual 118, 3) := by decide +kernel
theorem dX10_readCount_70 : decode cX10_readCount 70 = .ok (.istore_n 3, 1) := by decide +kernel
theorem dX10_readCount_71 : decode cX10_readCount 71 = .ok (.iload_n 3, 1) := by decide +kernel
theorem dX10_readCount_72 : decode cX10_readCount 72 = .ok (.ifCond .ge 7, 3) := by decide +kernel
theorem dX10_readCount_75 : decode cX10_readCount 75 = .ok (.iload_n 3, 1) := by decide +kernel
theorem dX10_readCount_76 : decode cX10_readCount 76 = .ok (.goto 7, 3) := by decide +kernel
theorem dX10_readCount_79 : decode cX10_readCount 79 = .ok (.bipush 6, 2) := by decide +kernel
theorem dX10_readCount_81 : decode cX10_readCount 81 = .ok (.iload_n 3, 1) := by decide +kernel
theorem dX10_readCount_82 : decode cX10_readCount 82 = .ok (.iadd, 1) := by decide +kernel
theorem dX10_readCount_83 : decode cX10_readCount 83 = .ok (.ireturn, 1) := by decide +kernel
theorem dX10_growWidth_0 : decode cX10_growWidth 0 = .ok (.iconst 0, 1) := by decide +kernel
theorem dX10_growWidth_1 : decode cX10_growWidth 1 = .ok (.istore_n 3, 1) := by decide +kernel
theorem dX10_growWidth_2 : decode cX10_growWidth 2 = .ok (.iload_n 3, 1) := by decide +kernel
theorem dX10_growWidth_3 : decode cX10_growWidth 3 = .ok (.sipush 8192, 3) := by decide +kernel
theorem dX10_growWidth_6 : decode cX10_growWidth 6 = .ok (.if_icmp .ge 28, 3) := by decide +kernel
theorem dX10_growWidth_9 : decode cX10_growWidth 9 = .ok (.aload_n 1, 1) := by decide +kernel
theorem dX10_growWidth_10 : decode cX10_growWidth 10 = .ok (.iconst 1, 1) := by decide +kernel
theorem dX10_growWidth_11 : decode cX10_growWidth 11 = .ok (.invokevirtual 118, 3) := by decide +kernel
theorem dX10_growWidth_14 : decode cX10_growWidth 14 = .ok (.iconst 1, 1) := by decide +kernel
theorem dX10_growWidth_15 : decode cX10_growWidth 15 = .ok (.if_icmp .ne 19, 3) := by decide +kernel
theorem dX10_growWidth_18 : decode cX10_growWidth 18 = .ok (.aload_n 0, 1) := by decide +kernel
theorem dX10_growWidth_19 : decode cX10_growWidth 19 = .ok (.getfield 25, 3) := by decide +kernel
theorem dX10_growWidth_22 : decode cX10_growWidth 22 = .ok (.iload_n 2, 1) := by decide +kernel
theorem dX10_growWidth_23 : decode cX10_growWidth 23 = .ok (.dup2, 1) := by decide +kernel
theorem dX10_growWidth_24 : decode cX10_growWidth 24 = .ok (.iaload, 1) := by decide +kernel
theorem dX10_growWidth_25 : decode cX10_growWidth 25 = .ok (.iconst 1, 1) := by decide +kernel
theorem dX10_growWidth_26 : decode cX10_growWidth 26 = .ok (.iadd, 1) := by decide +kernel
theorem dX10_growWidth_27 : decode cX10_growWidth 27 = .ok (.iastore, 1) := by decide +kernel
theorem dX10_growWidth_28 : decode cX10_growWidth 28 = .ok (.iinc 3 1, 3) := by decide +kernel
theorem dX10_growWidth_31 : decode cX10_growWidth 31 = .ok (.goto (-29), 3) := by decide +kernel
theorem dX10_growWidth_34 : decode cX10_growWidth 34 = .ok (.return_, 1) := by decide +kernel
theorem dX10_restore_0 : decode cX10_restore 0 = .ok (.iconst 0, 1) := by decide +kernel
theorem dX10_restore_1 : decode cX10_restore 1 = .ok (.istore_n 3, 1) := by decide +kernel
theorem dX10_restore_2 : decode cX10_restore 2 = .ok (.iload_n 3, 1) := by decide +kernel
theorem dX10_restore_3 : decode cX10_restore 3 = .ok (.aload_n 0, 1) := by decide +kernel
theorem dX10_restore_4 : decode cX10_restore 4 = .ok (.getfield 12, 3) := by decide +kernel
theorem dX10_restore_7 : decode cX10_restore 7 = .ok (.getfield 141, 3) := by decide +kernel
theorem dX10_restore_10 : decode cX10_restore 10 = .ok (.if_icmp .ge 100, 3) := by decide +kernel
theorem dX10_restore_13 : decode cX10_restore 13 = .ok (.aload_n 0, 1) := by decide +kernel
theorem dX10_restore_14 : decode cX10_restore 14 = .ok (.aload_n 1, 1) := by decide +kernel
theorem dX10_restore_15 : decode cX10_restore 15 = .ok (.iload_n 3, 1) := by decide +kernel
theorem dX10_restore_16 : decode cX10_restore 16 = .ok (.invokevirtual 144, 3) := by decide +kernel
theorem dX10_restore_19 : decode cX10_restore 19 = .ok (.aload_n 0, 1) := by decide +kernel
theorem dX10_restore_20 : decode cX10_restore 20 = .ok (.getfield 58, 3) := by decide +kernel
theorem dX10_restore_23 : decode cX10_restore 23 = .ok (.aload_n 0, 1) := by decide +kernel
theorem dX10_restore_24 : decode cX10_restore 24 = .ok (.getfield 12, 3) := by decide +kernel
theorem dX10_restore_27 : decode cX10_restore 27 = .ok (.getfield 147, 3) := by decide +kernel
theorem dX10_restore_30 : decode cX10_restore 30 = .ok (.iload_n 3, 1) := by decide +kernel
theorem dX10_restore_31 : decode cX10_restore 31 = .ok (.iaload, 1) := by decide +kernel
theorem dX10_restore_32 : decode cX10_restore 32 = .ok (.aload_n 0, 1) := by decide +kernel
theorem dX10_restore_33 : decode cX10_restore 33 = .ok (.getfield 12, 3) := by decide +kernel
theorem dX10_restore_36 : decode cX10_restore 36 = .ok (.getfield 150, 3) := by decide +kernel
theorem dX10_restore_39 : decode cX10_restore 39 = .ok (.iload_n 3, 1) := by decide +kernel
theorem dX10_restore_40 : decode cX10_restore 40 = .ok (.iaload, 1) := by decide +kernel
theorem dX10_restore_41 : decode cX10_restore 41 = .ok (.aload_n 0, 1) := by decide +kernel
theorem dX10_restore_42 : decode cX10_restore 42 = .ok (.getfield 12, 3) := by decide +kernel
theorem dX10_restore_45 : decode cX10_restore 45 = .ok (.iload_n 3, 1) := by decide +kernel
theorem dX10_restore_46 : decode cX10_restore 46 = .ok (.invokevirtual 153, 3) := by decide +kernel
theorem dX10_restore_49 : decode cX10_restore 49 = .ok (.invokevirtual 156, 3) := by decide +kernel
theorem dX10_restore_52 : decode cX10_restore 52 = .ok (.iconst 0, 1) := by decide +kernel
theorem dX10_restore_53 : decode cX10_restore 53 = .ok (.istore 4, 2) := by decide +kernel
theorem dX10_restore_55 : decode cX10_restore 55 = .ok (.iload 4, 2) := by decide +kernel
theorem dX10_restore_57 : decode cX10_restore 57 = .ok (.aload_n 0, 1) := by decide +kernel
theorem dX10_restore_58 : decode cX10_restore 58 = .ok (.getfield 22, 3) := by decide +kernel
theorem dX10_restore_61 : decode cX10_restore 61 = .ok (.iload_n 3, 1) := by decide +kernel
theorem dX10_restore_62 : decode cX10_restore 62 = .ok (.iaload, 1) := by decide +kernel
theorem dX10_restore_63 : decode cX10_restore 63 = .ok (.if_icmp .ge 24, 3) := by decide +kernel
theorem dX10_restore_66 : decode cX10_restore 66 = .ok (.aload_n 0, 1) := by decide +kernel
theorem dX10_restore_67 : decode cX10_restore 67 = .ok (.getfield 58, 3) := by decide +kernel
theorem dX10_restore_70 : decode cX10_restore 70 = .ok (.iload 4, 2) := by decide +kernel
theorem dX10_restore_72 : decode cX10_restore 72 = .ok (.aload_n 0, 1) := by decide +kernel
theorem dX10_restore_73 : decode cX10_restore 73 = .ok (.getfield 18, 3) := by decide +kernel
theorem dX10_restore_76 : decode cX10_restore 76 = .ok (.iload_n 3, 1) := by decide +kernel
theorem dX10_restore_77 : decode cX10_restore 77 = .ok (.iaload, 1) := by decide +kernel
theorem dX10_restore_78 : decode cX10_restore 78 = .ok (.invokevirtual 159, 3) := by decide +kernel
theorem dX10_restore_81 : decode cX10_restore 81 = .ok (.iinc 4 1, 3) := by decide +kernel
theorem dX10_restore_84 : decode cX10_restore 84 = .ok (.goto (-29), 3) := by decide +kernel
theorem dX10_restore_87 : decode cX10_restore 87 = .ok (.aload_n 0, 1) := by decide +kernel
theorem dX10_restore_88 : decode cX10_restore 88 = .ok (.iload_n 3, 1) := by decide +kernel
theorem dX10_restore_89 : decode cX10_restore 89 = .ok (.invokevirtual 162, 3) := by decide +kernel
theorem dX10_restore_92 : decode cX10_restore 92 = .ok (.aload_n 0, 1) := by decide +kernel
theorem dX10_restore_93 : decode cX10_restore 93 = .ok (.getfield 43, 3) := by decide +kernel
theorem dX10_restore_96 : decode cX10_restore 96 = .ok (.iload_n 3, 1) := by decide +kernel
theorem dX10_restore_97 : decode cX10_restore 97 = .ok (.aload_n 0, 1) := by decide +kernel
theorem dX10_restore_98 : decode cX10_restore 98 = .ok (.getfield 22, 3) := by decide +kernel
theorem dX10_restore_101 : decode cX10_restore 101 = .ok (.iload_n 3, 1) := by decide +kernel
theorem dX10_restore_102 : decode cX10_restore 102 = .ok (.iaload, 1) := by decide +kernel
theorem dX10_restore_103 : decode cX10_restore 103 = .ok (.iastore, 1) := by decide +kernel
theorem dX10_restore_104 : decode cX10_restore 104 = .ok (.iinc 3 1, 3) := by decide +kernel
theorem dX10_restore_107 : decode cX10_restore 107 = .ok (.goto (-105), 3) := by decide +kernel
theorem dX10_restore_110 : decode cX10_restore 110 = .ok (.aload_n 0, 1) := by decide +kernel
theorem dX10_restore_111 : decode cX10_restore 111 = .ok (.aload_n 0, 1) := by decide +kernel
theorem dX10_restore_112 : decode cX10_restore 112 = .ok (.getfield 12, 3) := by decide +kernel
theorem dX10_restore_115 : decode cX10_restore 115 = .ok (.getfield 141, 3) := by decide +kernel
theorem dX10_restore_118 : decode cX10_restore 118 = .ok (.putfield 62, 3) := by decide +kernel
theorem dX10_restore_121 : decode cX10_restore 121 = .ok (.aload_n 0, 1) := by decide +kernel
theorem dX10_restore_122 : decode cX10_restore 122 = .ok (.getfield 12, 3) := by decide +kernel
theorem dX10_restore_125 : decode cX10_restore 125 = .ok (.invokevirtual 166, 3) := by decide +kernel
theorem dX10_restore_128 : decode cX10_restore 128 = .ok (.aload_n 0, 1) := by decide +kernel
theorem dX10_restore_129 : decode cX10_restore 129 = .ok (.getfield 12, 3) := by decide +kernel
theorem dX10_restore_132 : decode cX10_restore 132 = .ok (.aload_n 2, 1) := by decide +kernel
theorem dX10_restore_133 : decode cX10_restore 133 = .ok (.invokevirtual 169, 3) := by decide +kernel
theorem dX10_restore_136 : decode cX10_restore 136 = .ok (.return_, 1) := by decide +kernel
theorem dX10_gatherBytes_0 : decode cX10_gatherBytes 0 = .ok (.aload_n 0, 1) := by decide +kernel
theorem dX10_gatherBytes_1 : decode cX10_gatherBytes 1 = .ok (.getfield 49, 3) := by decide +kernel
theorem dX10_gatherBytes_4 : decode cX10_gatherBytes 4 = .ok (.invokevirtual 173, 3) := by decide +kernel
theorem dX10_gatherBytes_7 : decode cX10_gatherBytes 7 = .ok (.iconst 0, 1) := by decide +kernel
theorem dX10_gatherBytes_8 : decode cX10_gatherBytes 8 = .ok (.istore_n 3, 1) := by decide +kernel
theorem dX10_gatherBytes_9 : decode cX10_gatherBytes 9 = .ok (.iload_n 3, 1) := by decide +kernel
theorem dX10_gatherBytes_10 : decode cX10_gatherBytes 10 = .ok (.aload_n 0, 1) := by decide +kernel
theorem dX10_gatherBytes_11 : decode cX10_gatherBytes 11 = .ok (.getfield 34, 3) := by decide +kernel
theorem dX10_gatherBytes_14 : decode cX10_gatherBytes 14 = .ok (.iload_n 2, 1) := by decide +kernel
theorem dX10_gatherBytes_15 : decode cX10_gatherBytes 15 = .ok (.iaload, 1) := by decide +kernel
theorem dX10_gatherBytes_16 : decode cX10_gatherBytes 16 = .ok (.if_icmp .ge 38, 3) := by decide +kernel
theorem dX10_gatherBytes_19 : decode cX10_gatherBytes 19 = .ok (.iload_n 2, 1) := by decide +kernel
theorem dX10_gatherBytes_20 : decode cX10_gatherBytes 20 = .ok (.iconst 3, 1) := by decide +kernel
theorem dX10_gatherBytes_21 : decode cX10_gatherBytes 21 = .ok (.imul, 1) := by decide +kernel
theorem dX10_gatherBytes_22 : decode cX10_gatherBytes 22 = .ok (.iload_n 3, 1) := by decide +kernel
theorem dX10_gatherBytes_23 : decode cX10_gatherBytes 23 = .ok (.iadd, 1) := by decide +kernel
theorem dX10_gatherBytes_24 : decode cX10_gatherBytes 24 = .ok (.istore 4, 2) := by decide +kernel
theorem dX10_gatherBytes_26 : decode cX10_gatherBytes 26 = .ok (.aload_n 0, 1) := by decide +kernel
theorem dX10_gatherBytes_27 : decode cX10_gatherBytes 27 = .ok (.getfield 49, 3) := by decide +kernel
theorem dX10_gatherBytes_30 : decode cX10_gatherBytes 30 = .ok (.aload_n 1, 1) := by decide +kernel
theorem dX10_gatherBytes_31 : decode cX10_gatherBytes 31 = .ok (.aload_n 0, 1) := by decide +kernel
theorem dX10_gatherBytes_32 : decode cX10_gatherBytes 32 = .ok (.getfield 37, 3) := by decide +kernel
theorem dX10_gatherBytes_35 : decode cX10_gatherBytes 35 = .ok (.iload 4, 2) := by decide +kernel
theorem dX10_gatherBytes_37 : decode cX10_gatherBytes 37 = .ok (.iaload, 1) := by decide +kernel
theorem dX10_gatherBytes_38 : decode cX10_gatherBytes 38 = .ok (.aload_n 0, 1) := by decide +kernel
theorem dX10_gatherBytes_39 : decode cX10_gatherBytes 39 = .ok (.getfield 40, 3) := by decide +kernel
theorem dX10_gatherBytes_42 : decode cX10_gatherBytes 42 = .ok (.iload 4, 2) := by decide +kernel
theorem dX10_gatherBytes_44 : decode cX10_gatherBytes 44 = .ok (.iaload, 1) := by decide +kernel
theorem dX10_gatherBytes_45 : decode cX10_gatherBytes 45 = .ok (.invokevirtual 176, 3) := by decide +kernel
theorem dX10_gatherBytes_48 : decode cX10_gatherBytes 48 = .ok (.iinc 3 1, 3) := by decide +kernel
theorem dX10_gatherBytes_51 : decode cX10_gatherBytes 51 = .ok (.goto (-42), 3) := by decide +kernel
theorem dX10_gatherBytes_54 : decode cX10_gatherBytes 54 = .ok (.aload_n 0, 1) := by decide +kernel
theorem dX10_gatherBytes_55 : decode cX10_gatherBytes 55 = .ok (.getfield 49, 3) := by decide +kernel
theorem dX10_gatherBytes_58 : decode cX10_gatherBytes 58 = .ok (.aload_n 0, 1) := by decide +kernel
theorem dX10_gatherBytes_59 : decode cX10_gatherBytes 59 = .ok (.getfield 49, 3) := by decide +kernel
theorem dX10_gatherBytes_62 : decode cX10_gatherBytes 62 = .ok (.invokevirtual 180, 3) := by decide +kernel
theorem dX10_gatherBytes_65 : decode cX10_gatherBytes 65 = .ok (.invokevirtual 183, 3) := by decide +kernel
theorem dX10_gatherBytes_68 : decode cX10_gatherBytes 68 = .ok (.return_, 1) := by decide +kernel
theorem dX10_keepNumbers_0 : decode cX10_keepNumbers 0 = .ok (.iconst 0, 1) := by decide +kernel
theorem dX10_keepNumbers_1 : decode cX10_keepNumbers 1 = .ok (.istore_n 2, 1) := by decide +kernel
theorem dX10_keepNumbers_2 : decode cX10_keepNumbers 2 = .ok (.iload_n 2, 1) := by decide +kernel
theorem dX10_keepNumbers_3 : decode cX10_keepNumbers 3 = .ok (.aload_n 0, 1) := by decide +kernel
theorem dX10_keepNumbers_4 : decode cX10_keepNumbers 4 = .ok (.getfield 12, 3) := by decide +kernel
theorem dX10_keepNumbers_7 : decode cX10_keepNumbers 7 = .ok (.getfield 150, 3) := by decide +kernel
theorem dX10_keepNumbers_10 : decode cX10_keepNumbers 10 = .ok (.iload_n 1, 1) := by decide +kernel
theorem dX10_keepNumbers_11 : decode cX10_keepNumbers 11 = .ok (.iaload, 1) := by decide +kernel
theorem dX10_keepNumbers_12 : decode cX10_keepNumbers 12 = .ok (.if_icmp .ge 49, 3) := by decide +kernel
theorem dX10_keepNumbers_15 : decode cX10_keepNumbers 15 = .ok (.iconst 0, 1) := by decide +kernel
theorem dX10_keepNumbers_16 : decode cX10_keepNumbers 16 = .ok (.istore_n 3, 1) := by decide +kernel
theorem dX10_keepNumbers_17 : decode cX10_keepNumbers 17 = .ok (.iload_n 3, 1) := by decide +kernel
theorem dX10_keepNumbers_18 : decode cX10_keepNumbers 18 = .ok (.aload_n 0, 1) := by decide +kernel
theorem dX10_keepNumbers_19 : decode cX10_keepNumbers 19 = .ok (.getfield 12, 3) := by decide +kernel
theorem dX10_keepNumbers_22 : decode cX10_keepNumbers 22 = .ok (.getfield 147, 3) := by decide +kernel
theorem dX10_keepNumbers_25 : decode cX10_keepNumbers 25 = .ok (.iload_n 1, 1) := by decide +kernel
theorem dX10_keepNumbers_26 : decode cX10_keepNumbers 26 = .ok (.iaload, 1) := by decide +kernel
theorem dX10_keepNumbers_27 : decode cX10_keepNumbers 27 = .ok (.if_icmp .ge 28, 3) := by decide +kernel
theorem dX10_keepNumbers_30 : decode cX10_keepNumbers 30 = .ok (.aload_n 0, 1) := by decide +kernel
theorem dX10_keepNumbers_31 : decode cX10_keepNumbers 31 = .ok (.getfield 12, 3) := by decide +kernel
theorem dX10_keepNumbers_34 : decode cX10_keepNumbers 34 = .ok (.iload_n 1, 1) := by decide +kernel
theorem dX10_keepNumbers_35 : decode cX10_keepNumbers 35 = .ok (.iload_n 3, 1) := by decide +kernel
theorem dX10_keepNumbers_36 : decode cX10_keepNumbers 36 = .ok (.iload_n 2, 1) := by decide +kernel
theorem dX10_keepNumbers_37 : decode cX10_keepNumbers 37 = .ok (.aload_n 0, 1) := by decide +kernel
theorem dX10_keepNumbers_38 : decode cX10_keepNumbers 38 = .ok (.getfield 58, 3) := by decide +kernel
theorem dX10_keepNumbers_41 : decode cX10_keepNumbers 41 = .ok (.iload_n 3, 1) := by decide +kernel
theorem dX10_keepNumbers_42 : decode cX10_keepNumbers 42 = .ok (.iload_n 2, 1) := by decide +kernel
theorem dX10_keepNumbers_43 : decode cX10_keepNumbers 43 = .ok (.invokevirtual 185, 3) := by decide +kernel
theorem dX10_keepNumbers_46 : decode cX10_keepNumbers 46 = .ok (.invokevirtual 189, 3) := by decide +kernel
theorem dX10_keepNumbers_49 : decode cX10_keepNumbers 49 = .ok (.iinc 3 1, 3) := by decide +kernel
theorem dX10_keepNumbers_52 : decode cX10_keepNumbers 52 = .ok (.goto (-35), 3) := by decide +kernel
theorem dX10_keepNumbers_55 : decode cX10_keepNumbers 55 = .ok (.iinc 2 1, 3) := by decide +kernel
theorem dX10_keepNumbers_58 : decode cX10_keepNumbers 58 = .ok (.goto (-56), 3) := by decide +kernel
theorem dX10_keepNumbers_61 : decode cX10_keepNumbers 61 = .ok (.return_, 1) := by decide +kernel
theorem dX11_init_0 : decode cX11_init 0 = .ok (.aload_n 0, 1) := by decide +kernel
theorem dX11_init_1 : decode cX11_init 1 = .ok (.invokespecial 1, 3) := by decide +kernel
theorem dX11_init_4 : decode cX11_init 4 = .ok (.aload_n 0, 1) := by decide +kernel
theorem dX11_init_5 : decode cX11_init 5 = .ok (.new 7, 3) := by decide +kernel
theorem dX11_init_8 : decode cX11_init 8 = .ok (.dup, 1) := by decide +kernel
theorem dX11_init_9 : decode cX11_init 9 = .ok (.invokespecial 9, 3) := by decide +kernel
theorem dX11_init_12 : decode cX11_init 12 = .ok (.putfield 10, 3) := by decide +kernel
theorem dX11_init_15 : decode cX11_init 15 = .ok (.aload_n 0, 1) := by decide +kernel
theorem dX11_init_16 : decode cX11_init 16 = .ok (.new 7, 3) := by decide +kernel
theorem dX11_init_19 : decode cX11_init 19 = .ok (.dup, 1) := by decide +kernel
theorem dX11_init_20 : decode cX11_init 20 = .ok (.invokespecial 9, 3) := by decide +kernel
theorem dX11_init_23 : decode cX11_init 23 = .ok (.putfield 16, 3) := by decide +kernel
theorem dX11_init_26 : decode cX11_init 26 = .ok (.aload_n 0, 1) := by decide +kernel
theorem dX11_init_27 : decode cX11_init 27 = .ok (.new 19, 3) := by decide +kernel
theorem dX11_init_30 : decode cX11_init 30 = .ok (.dup, 1) := by decide +kernel
theorem dX11_init_31 : decode cX11_init 31 = .ok (.invokespecial 21, 3) := by decide +kernel
theorem dX11_init_34 : decode cX11_init 34 = .ok (.putfield 22, 3) := by decide +kernel
theorem dX11_init_37 : decode cX11_init 37 = .ok (.aload_n 0, 1) := by decide +kernel
theorem dX11_init_38 : decode cX11_init 38 = .ok (.new 26, 3) := by decide +kernel
theorem dX11_init_41 : decode cX11_init 41 = .ok (.dup, 1) := by decide +kernel
theorem dX11_init_42 : decode cX11_init 42 = .ok (.invokespecial 28, 3) := by decide +kernel
theorem dX11_init_45 : decode cX11_init 45 = .ok (.putfield 29, 3) := by decide +kernel
theorem dX11_init_48 : decode cX11_init 48 = .ok (.aload_n 0, 1) := by decide +kernel
theorem dX11_init_49 : decode cX11_init 49 = .ok (.new 33, 3) := by decide +kernel
theorem dX11_init_52 : decode cX11_init 52 = .ok (.dup, 1) := by decide +kernel
theorem dX11_init_53 : decode cX11_init 53 = .ok (.invokespecial 35, 3) := by decide +kernel
theorem dX11_init_56 : decode cX11_init 56 = .ok (.putfield 36, 3) := by decide +kernel
theorem dX11_init_59 : decode cX11_init 59 = .ok (.aload_n 0, 1) := by decide +kernel
theorem dX11_init_60 : decode cX11_init 60 = .ok (.getfield 10, 3) := by decide +kernel
theorem dX11_init_63 : decode cX11_init 63 = .ok (.iconst 1, 1) := by decide +kernel
theorem dX11_init_64 : decode cX11_init 64 = .ok (.iconst 1, 1) := by decide +kernel
theorem dX11_init_65 : decode cX11_init 65 = .ok (.invokevirtual 40, 3) := by decide +kernel
theorem dX11_init_68 : decode cX11_init 68 = .ok (.return_, 1) := by decide +kernel
theorem dX11_picture_0 : decode cX11_picture 0 = .ok (.iload_n 1, 1) := by decide +kernel
theorem dX11_picture_1 : decode cX11_picture 1 = .ok (.invokestatic 44, 3) := by decide +kernel
theorem dX11_picture_4 : decode cX11_picture 4 = .ok (.ifCond .eq 10, 3) := by decide +kernel
theorem dX11_picture_7 : decode cX11_picture 7 = .ok (.iload_n 2, 1) := by decide +kernel
theorem dX11_picture_8 : decode cX11_picture 8 = .ok (.invokestatic 44, 3) := by decide +kernel
theorem dX11_picture_11 : decode cX11_picture 11 = .ok (.ifCond .ne 13, 3) := by decide +kernel
theorem dX11_picture_14 : decode cX11_picture 14 = .ok (.new 48, 3) := by decide +kernel
theorem dX11_picture_17 : decode cX11_picture 17 = .ok (.dup, 1) := by decide +kernel
theorem dX11_picture_18 : decode cX11_picture 18 = .ok (.ldc 50, 2) := by decide +kernel
theorem dX11_picture_20 : decode cX11_picture 20 = .ok (.invokespecial 52, 3) := by decide +kernel
theorem dX11_picture_23 : decode cX11_picture 23 = .ok (.athrow, 1) := by decide +kernel
theorem dX11_picture_24 : decode cX11_picture 24 = .ok (.aload_n 0, 1) := by decide +kernel
theorem dX11_picture_25 : decode cX11_picture 25 = .ok (.getfield 10, 3) := by decide +kernel
theorem dX11_picture_28 : decode cX11_picture 28 = .ok (.iload_n 1, 1) := by decide +kernel
theorem dX11_picture_29 : decode cX11_picture 29 = .ok (.iload_n 2, 1) := by decide +kernel
theorem dX11_picture_30 : decode cX11_picture 30 = .ok (.invokevirtual 40, 3) := by decide +kernel
theorem dX11_picture_33 : decode cX11_picture 33 = .ok (.return_, 1) := by decide +kernel
theorem dX11_paint_0 : decode cX11_paint 0 = .ok (.aload_n 0, 1) := by decide +kernel
theorem dX11_paint_1 : decode cX11_paint 1 = .ok (.getfield 10, 3) := by decide +kernel
theorem dX11_paint_4 : decode cX11_paint 4 = .ok (.iload_n 1, 1) := by decide +kernel
theorem dX11_paint_5 : decode cX11_paint 5 = .ok (.iload_n 2, 1) := by decide +kernel
theorem dX11_paint_6 : decode cX11_paint 6 = .ok (.invokevirtual 55, 3) := by decide +kernel
theorem dX11_paint_9 : decode cX11_paint 9 = .ok (.ifCond .eq 14, 3) := by decide +kernel
theorem dX11_paint_12 : decode cX11_paint 12 = .ok (.iload_n 3, 1) := by decide +kernel
theorem dX11_paint_13 : decode cX11_paint 13 = .ok (.ifCond .lt 10, 3) := by decide +kernel
theorem dX11_paint_16 : decode cX11_paint 16 = .ok (.iload_n 3, 1) := by decide +kernel
theorem dX11_paint_17 : decode cX11_paint 17 = .ok (.sipush 255, 3) := by decide +kernel
theorem dX11_paint_20 : decode cX11_paint 20 = .ok (.if_icmp .le 13, 3) := by decide +kernel
theorem dX11_paint_23 : decode cX11_paint 23 = .ok (.new 48, 3) := by decide +kernel
theorem dX11_paint_26 : decode cX11_paint 26 = .ok (.dup, 1) := by decide +kernel
theorem dX11_paint_27 : decode cX11_paint 27 = .ok (.ldc 59, 2) := by decide +kernel
theorem dX11_paint_29 : decode cX11_paint 29 = .ok (.invokespecial 52, 3) := by decide +kernel
theorem dX11_paint_32 : decode cX11_paint 32 = .ok (.athrow, 1) := by decide +kernel
theorem dX11_paint_33 : decode cX11_paint 33 = .ok (.aload_n 0, 1) := by decide +kernel
theorem dX11_paint_34 : decode cX11_paint 34 = .ok (.getfield 10, 3) := by decide +kernel
theorem dX11_paint_37 : decode cX11_paint 37 = .ok (.iload_n 1, 1) := by decide +kernel
theorem dX11_paint_38 : decode cX11_paint 38 = .ok (.iload_n 2, 1) := by decide +kernel
theorem dX11_paint_39 : decode cX11_paint 39 = .ok (.iload_n 3, 1) := by decide +kernel
theorem dX11_paint_40 : decode cX11_paint 40 = .ok (.invokevirtual 61, 3) := by decide +kernel
theorem dX11_paint_43 : decode cX11_paint 43 = .ok (.return_, 1) := by decide +kernel
theorem dX11_pixel_0 : decode cX11_pixel 0 = .ok (.aload_n 0, 1) := by decide +kernel
theorem dX11_pixel_1 : decode cX11_pixel 1 = .ok (.getfield 10, 3) := by decide +kernel
theorem dX11_pixel_4 : decode cX11_pixel 4 = .ok (.iload_n 1, 1) := by decide +kernel
theorem dX11_pixel_5 : decode cX11_pixel 5 = .ok (.iload_n 2, 1) := by decide +kernel
theorem dX11_pixel_6 : decode cX11_pixel 6 = .ok (.invokevirtual 65, 3) := by decide +kernel
theorem dX11_pixel_9 : decode cX11_pixel 9 = .ok (.ireturn, 1) := by decide +kernel
theorem dX11_encode_0 : decode cX11_encode 0 = .ok (.iload_n 1, 1) := by decide +kernel
theorem dX11_encode_1 : decode cX11_encode 1 = .ok (.invokestatic 69, 3) := by decide +kernel
theorem dX11_encode_4 : decode cX11_encode 4 = .ok (.ifCond .eq 10, 3) := by decide +kernel
theorem dX11_encode_7 : decode cX11_encode 7 = .ok (.iload_n 2, 1) := by decide +kernel
theorem dX11_encode_8 : decode cX11_encode 8 = .ok (.invokestatic 72, 3) := by decide +kernel
theorem dX11_encode_11 : decode cX11_encode 11 = .ok (.ifCond .ne 13, 3) := by decide +kernel
theorem dX11_encode_14 : decode cX11_encode 14 = .ok (.new 48, 3) := by decide +kernel
theorem dX11_encode_17 : decode cX11_encode 17 = .ok (.dup, 1) := by decide +kernel
theorem dX11_encode_18 : decode cX11_encode 18 = .ok (.ldc 75, 2) := by decide +kernel
theorem dX11_encode_20 : decode cX11_encode 20 = .ok (.invokespecial 52, 3) := by decide +kernel
theorem dX11_encode_23 : decode cX11_encode 23 = .ok (.athrow, 1) := by decide +kernel
theorem dX11_encode_24 : decode cX11_encode 24 = .ok (.aload_n 0, 1) := by decide +kernel
theorem dX11_encode_25 : decode cX11_encode 25 = .ok (.getfield 29, 3) := by decide +kernel
theorem dX11_encode_28 : decode cX11_encode 28 = .ok (.aload_n 0, 1) := by decide +kernel
theorem dX11_encode_29 : decode cX11_encode 29 = .ok (.getfield 10, 3) := by decide +kernel
theorem dX11_encode_32 : decode cX11_encode 32 = .ok (.iload_n 1, 1) := by decide +kernel
theorem dX11_encode_33 : decode cX11_encode 33 = .ok (.iload_n 2, 1) := by decide +kernel
theorem dX11_encode_34 : decode cX11_encode 34 = .ok (.aload_n 0, 1) := by decide +kernel
theorem dX11_encode_35 : decode cX11_encode 35 = .ok (.getfield 22, 3) := by decide +kernel
theorem dX11_encode_38 : decode cX11_encode 38 = .ok (.invokevirtual 77, 3) := by decide +kernel
theorem dX11_encode_41 : decode cX11_encode 41 = .ok (.aload_n 0, 1) := by decide +kernel
theorem dX11_encode_42 : decode cX11_encode 42 = .ok (.getfield 22, 3) := by decide +kernel
theorem dX11_encode_45 : decode cX11_encode 45 = .ok (.invokevirtual 81, 3) := by decide +kernel
theorem dX11_encode_48 : decode cX11_encode 48 = .ok (.ireturn, 1) := by decide +kernel
theorem dX11_stream_0 : decode cX11_stream 0 = .ok (.aload_n 0, 1) := by decide +kernel
theorem dX11_stream_1 : decode cX11_stream 1 = .ok (.getfield 22, 3) := by decide +kernel
theorem dX11_stream_4 : decode cX11_stream 4 = .ok (.iload_n 1, 1) := by decide +kernel
theorem dX11_stream_5 : decode cX11_stream 5 = .ok (.invokevirtual 85, 3) := by decide +kernel
theorem dX11_stream_8 : decode cX11_stream 8 = .ok (.ifCond .eq 14, 3) := by decide +kernel
theorem dX11_stream_11 : decode cX11_stream 11 = .ok (.aload_n 0, 1) := by decide +kernel
theorem dX11_stream_12 : decode cX11_stream 12 = .ok (.getfield 22, 3) := by decide +kernel
theorem dX11_stream_15 : decode cX11_stream 15 = .ok (.iload_n 1, 1) := by decide +kernel
theorem dX11_stream_16 : decode cX11_stream 16 = .ok (.invokevirtual 87, 3) := by decide +kernel
theorem dX11_stream_19 : decode cX11_stream 19 = .ok (.goto 5, 3) := by decide +kernel
theorem dX11_stream_22 : decode cX11_stream 22 = .ok (.ldc 90, 2) := by decide +kernel
theorem dX11_stream_24 : decode cX11_stream 24 = .ok (.ireturn, 1) := by decide +kernel
theorem dX11_poke_0 : decode cX11_poke 0 = .ok (.aload_n 0, 1) := by decide +kernel
theorem dX11_poke_1 : decode cX11_poke 1 = .ok (.getfield 22, 3) := by decide +kernel
theorem dX11_poke_4 : decode cX11_poke 4 = .ok (.iload_n 1, 1) := by decide +kernel
theorem dX11_poke_5 : decode cX11_poke 5 = .ok (.invokevirtual 85, 3) := by decide +kernel
theorem dX11_poke_8 : decode cX11_poke 8 = .ok (.ifCond .eq 14, 3) := by decide +kernel
theorem dX11_poke_11 : decode cX11_poke 11 = .ok (.iload_n 2, 1) := by decide +kernel
theorem dX11_poke_12 : decode cX11_poke 12 = .ok (.ifCond .lt 10, 3) := by decide +kernel
theorem dX11_poke_15 : decode cX11_poke 15 = .ok (.iload_n 2, 1) := by decide +kernel
theorem dX11_poke_16 : decode cX11_poke 16 = .ok (.sipush 255, 3) := by decide +kernel
theorem dX11_poke_19 : decode cX11_poke 19 = .ok (.if_icmp .le 5, 3) := by decide +kernel
theorem dX11_poke_22 : decode cX11_poke 22 = .ok (.iconst 0, 1) := by decide +kernel
theorem dX11_poke_23 : decode cX11_poke 23 = .ok (.ireturn, 1) := by decide +kernel
theorem dX11_poke_24 : decode cX11_poke 24 = .ok (.aload_n 0, 1) := by decide +kernel
theorem dX11_poke_25 : decode cX11_poke 25 = .ok (.getfield 22, 3) := by decide +kernel
theorem dX11_poke_28 : decode cX11_poke 28 = .ok (.iload_n 1, 1) := by decide +kernel
theorem dX11_poke_29 : decode cX11_poke 29 = .ok (.iload_n 2, 1) := by decide +kernel
theorem dX11_poke_30 : decode cX11_poke 30 = .ok (.invokevirtual 91, 3) := by decide +kernel
theorem dX11_poke_33 : decode cX11_poke 33 = .ok (.iconst 1, 1) := by decide +kernel
theorem dX11_poke_34 : decode cX11_poke 34 = .ok (.ireturn, 1) := by decide +kernel
theorem dX11_band_0 : decode cX11_band 0 = .ok (.aload_n 0, 1) := by decide +kernel
theorem dX11_band_1 : decode cX11_band 1 = .ok (.getfield 29, 3) := by decide +kernel
theorem dX11_band_4 : decode cX11_band 4 = .ok (.iload_n 1, 1) := by decide +kernel
theorem dX11_band_5 : decode cX11_band 5 = .ok (.iload_n 2, 1) := by decide +kernel
theorem dX11_band_6 : decode cX11_band 6 = .ok (.invokevirtual 93, 3) := by decide +kernel
theorem dX11_band_9 : decode cX11_band 9 = .ok (.ireturn, 1) := by decide +kernel
theorem dX11_number_0 : decode cX11_number 0 = .ok (.aload_n 0, 1) := by decide +kernel
theorem dX11_number_1 : decode cX11_number 1 = .ok (.getfield 29, 3) := by decide +kernel
theorem dX11_number_4 : decode cX11_number 4 = .ok (.iload_n 1, 1) := by decide +kernel
theorem dX11_number_5 : decode cX11_number 5 = .ok (.iload_n 2, 1) := by decide +kernel
theorem dX11_number_6 : decode cX11_number 6 = .ok (.iload_n 3, 1) := by decide +kernel
theorem dX11_number_7 : decode cX11_number 7 = .ok (.invokevirtual 96, 3) := by decide +kernel
theorem dX11_number_10 : decode cX11_number 10 = .ok (.ireturn, 1) := by decide +kernel
theorem dX11_codeword_0 : decode cX11_codeword 0 = .ok (.aload_n 0, 1) := by decide +kernel
theorem dX11_codeword_1 : decode cX11_codeword 1 = .ok (.getfield 29, 3) := by decide +kernel
theorem dX11_codeword_4 : decode cX11_codeword 4 = .ok (.iload_n 1, 1) := by decide +kernel
theorem dX11_codeword_5 : decode cX11_codeword 5 = .ok (.iload_n 2, 1) := by decide +kernel
theorem dX11_codeword_6 : decode cX11_codeword 6 = .ok (.invokevirtual 100, 3) := by decide +kernel
theorem dX11_codeword_9 : decode cX11_codeword 9 = .ok (.ireturn, 1) := by decide +kernel
theorem dX11_least_0 : decode cX11_least 0 = .ok (.aload_n 0, 1) := by decide +kernel
theorem dX11_least_1 : decode cX11_least 1 = .ok (.getfield 29, 3) := by decide +kernel
theorem dX11_least_4 : decode cX11_least 4 = .ok (.iload_n 1, 1) := by decide +kernel
theorem dX11_least_5 : decode cX11_least 5 = .ok (.iload_n 2, 1) := by decide +kernel
theorem dX11_least_6 : decode cX11_least 6 = .ok (.invokevirtual 103, 3) := by decide +kernel
theorem dX11_least_9 : decode cX11_least 9 = .ok (.ireturn, 1) := by decide +kernel
theorem dX11_decode_0 : decode cX11_decode 0 = .ok (.iload_n 1, 1) := by decide +kernel
theorem dX11_decode_1 : decode cX11_decode 1 = .ok (.iconst 4, 1) := by decide +kernel
theorem dX11_decode_2 : decode cX11_decode 2 = .ok (.if_icmp .lt 14, 3) := by decide +kernel
theorem dX11_decode_5 : decode cX11_decode 5 = .ok (.iload_n 1, 1) := by decide +kernel
theorem dX11_decode_6 : decode cX11_decode 6 = .ok (.aload_n 0, 1) := by decide +kernel
theorem dX11_decode_7 : decode cX11_decode 7 = .ok (.getfield 22, 3) := by decide +kernel
theorem dX11_decode_10 : decode cX11_decode 10 = .ok (.invokevirtual 81, 3) := by decide +kernel
theorem dX11_decode_13 : decode cX11_decode 13 = .ok (.if_icmp .le 13, 3) := by decide +kernel
theorem dX11_decode_16 : decode cX11_decode 16 = .ok (.new 48, 3) := by decide +kernel
theorem dX11_decode_19 : decode cX11_decode 19 = .ok (.dup, 1) := by decide +kernel
theorem dX11_decode_20 : decode cX11_decode 20 = .ok (.ldc 106, 2) := by decide +kernel
theorem dX11_decode_22 : decode cX11_decode 22 = .ok (.invokespecial 52, 3) := by decide +kernel
theorem dX11_decode_25 : decode cX11_decode 25 = .ok (.athrow, 1) := by decide +kernel
theorem dX11_decode_26 : decode cX11_decode 26 = .ok (.aload_n 0, 1) := by decide +kernel
theorem dX11_decode_27 : decode cX11_decode 27 = .ok (.getfield 36, 3) := by decide +kernel
theorem dX11_decode_30 : decode cX11_decode 30 = .ok (.aload_n 0, 1) := by decide +kernel
theorem dX11_decode_31 : decode cX11_decode 31 = .ok (.getfield 22, 3) := by decide +kernel
theorem dX11_decode_34 : decode cX11_decode 34 = .ok (.iload_n 1, 1) := by decide +kernel
theorem dX11_decode_35 : decode cX11_decode 35 = .ok (.invokevirtual 108, 3) := by decide +kernel
theorem dX11_decode_38 : decode cX11_decode 38 = .ok (.istore_n 2, 1) := by decide +kernel
theorem dX11_decode_39 : decode cX11_decode 39 = .ok (.iload_n 2, 1) := by decide +kernel
theorem dX11_decode_40 : decode cX11_decode 40 = .ok (.ifCond .ge 13, 3) := by decide +kernel
theorem dX11_decode_43 : decode cX11_decode 43 = .ok (.new 48, 3) := by decide +kernel
theorem dX11_decode_46 : decode cX11_decode 46 = .ok (.dup, 1) := by decide +kernel
theorem dX11_decode_47 : decode cX11_decode 47 = .ok (.ldc 112, 2) := by decide +kernel
theorem dX11_decode_49 : decode cX11_decode 49 = .ok (.invokespecial 52, 3) := by decide +kernel
theorem dX11_decode_52 : decode cX11_decode 52 = .ok (.athrow, 1) := by decide +kernel
theorem dX11_decode_53 : decode cX11_decode 53 = .ok (.aload_n 0, 1) := by decide +kernel
theorem dX11_decode_54 : decode cX11_decode 54 = .ok (.getfield 36, 3) := by decide +kernel
theorem dX11_decode_57 : decode cX11_decode 57 = .ok (.aload_n 0, 1) := by decide +kernel
theorem dX11_decode_58 : decode cX11_decode 58 = .ok (.getfield 22, 3) := by decide +kernel
theorem dX11_decode_61 : decode cX11_decode 61 = .ok (.aload_n 0, 1) := by decide +kernel
theorem dX11_decode_62 : decode cX11_decode 62 = .ok (.getfield 16, 3) := by decide +kernel
theorem dX11_decode_65 : decode cX11_decode 65 = .ok (.invokevirtual 114, 3) := by decide +kernel
theorem dX11_decode_68 : decode cX11_decode 68 = .ok (.iload_n 2, 1) := by decide +kernel
theorem dX11_decode_69 : decode cX11_decode 69 = .ok (.ireturn, 1) := by decide +kernel
theorem dX11_decoded_0 : decode cX11_decoded 0 = .ok (.aload_n 0, 1) := by decide +kernel
theorem dX11_decoded_1 : decode cX11_decoded 1 = .ok (.getfield 16, 3) := by decide +kernel
theorem dX11_decoded_4 : decode cX11_decoded 4 = .ok (.iload_n 1, 1) := by decide +kernel
theorem dX11_decoded_5 : decode cX11_decoded 5 = .ok (.iload_n 2, 1) := by decide +kernel
theorem dX11_decoded_6 : decode cX11_decoded 6 = .ok (.invokevirtual 65, 3) := by decide +kernel
theorem dX11_decoded_9 : decode cX11_decoded 9 = .ok (.ireturn, 1) := by decide +kernel
theorem dX11_taken_0 : decode cX11_taken 0 = .ok (.aload_n 0, 1) := by decide +kernel
theorem dX11_taken_1 : decode cX11_taken 1 = .ok (.getfield 36, 3) := by decide +kernel
theorem dX11_taken_4 : decode cX11_taken 4 = .ok (.iload_n 1, 1) := by decide +kernel
theorem dX11_taken_5 : decode cX11_taken 5 = .ok (.invokevirtual 118, 3) := by decide +kernel
theorem dX11_taken_8 : decode cX11_taken 8 = .ok (.ireturn, 1) := by decide +kernel
theorem dX11_difference_0 : decode cX11_difference 0 = .ok (.aload_n 0, 1) := by decide +kernel
theorem dX11_difference_1 : decode cX11_difference 1 = .ok (.getfield 10, 3) := by decide +kernel
theorem dX11_difference_4 : decode cX11_difference 4 = .ok (.aload_n 0, 1) := by decide +kernel
theorem dX11_difference_5 : decode cX11_difference 5 = .ok (.getfield 16, 3) := by decide +kernel
theorem dX11_difference_8 : decode cX11_difference 8 = .ok (.invokevirtual 121, 3) := by decide +kernel
theorem dX11_difference_11 : decode cX11_difference 11 = .ok (.ireturn, 1) := by decide +kernel
theorem dX11_isSide_0 : decode cX11_isSide 0 = .ok (.iload_n 0, 1) := by decide +kernel
theorem dX11_isSide_1 : decode cX11_isSide 1 = .ok (.iconst 1, 1) := by decide +kernel
theorem dX11_isSide_2 : decode cX11_isSide 2 = .ok (.if_icmp .lt 13, 3) := by decide +kernel
theorem dX11_isSide_5 : decode cX11_isSide 5 = .ok (.iload_n 0, 1) := by decide +kernel
theorem dX11_isSide_6 : decode cX11_isSide 6 = .ok (.bipush 8, 2) := by decide +kernel
theorem dX11_isSide_8 : decode cX11_isSide 8 = .ok (.if_icmp .gt 7, 3) := by decide +kernel
theorem dX11_isSide_11 : decode cX11_isSide 11 = .ok (.iconst 1, 1) := by decide +kernel
theorem dX11_isSide_12 : decode cX11_isSide 12 = .ok (.goto 4, 3) := by decide +kernel
theorem dX11_isSide_15 : decode cX11_isSide 15 = .ok (.iconst 0, 1) := by decide +kernel
theorem dX11_isSide_16 : decode cX11_isSide 16 = .ok (.ireturn, 1) := by decide +kernel
theorem dX11_areLevels_0 : decode cX11_areLevels 0 = .ok (.iload_n 0, 1) := by decide +kernel
theorem dX11_areLevels_1 : decode cX11_areLevels 1 = .ok (.ifCond .lt 12, 3) := by decide +kernel
theorem dX11_areLevels_4 : decode cX11_areLevels 4 = .ok (.iload_n 0, 1) := by decide +kernel
theorem dX11_areLevels_5 : decode cX11_areLevels 5 = .ok (.iconst 3, 1) := by decide +kernel
theorem dX11_areLevels_6 : decode cX11_areLevels 6 = .ok (.if_icmp .gt 7, 3) := by decide +kernel
theorem dX11_areLevels_9 : decode cX11_areLevels 9 = .ok (.iconst 1, 1) := by decide +kernel
theorem dX11_areLevels_10 : decode cX11_areLevels 10 = .ok (.goto 4, 3) := by decide +kernel
theorem dX11_areLevels_13 : decode cX11_areLevels 13 = .ok (.iconst 0, 1) := by decide +kernel
theorem dX11_areLevels_14 : decode cX11_areLevels 14 = .ok (.ireturn, 1) := by decide +kernel
theorem dX11_areLayers_0 : decode cX11_areLayers 0 = .ok (.iload_n 0, 1) := by decide +kernel
theorem dX11_areLayers_1 : decode cX11_areLayers 1 = .ok (.iconst 1, 1) := by decide +kernel
theorem dX11_areLayers_2 : decode cX11_areLayers 2 = .ok (.if_icmp .lt 12, 3) := by decide +kernel
theorem dX11_areLayers_5 : decode cX11_areLayers 5 = .ok (.iload_n 0, 1) := by decide +kernel
theorem dX11_areLayers_6 : decode cX11_areLayers 6 = .ok (.iconst 3, 1) := by decide +kernel
theorem dX11_areLayers_7 : decode cX11_areLayers 7 = .ok (.if_icmp .gt 7, 3) := by decide +kernel
theorem dX11_areLayers_10 : decode cX11_areLayers 10 = .ok (.iconst 1, 1) := by decide +kernel
theorem dX11_areLayers_11 : decode cX11_areLayers 11 = .ok (.goto 4, 3) := by decide +kernel
theorem dX11_areLayers_14 : decode cX11_areLayers 14 = .ok (.iconst 0, 1) := by decide +kernel
theorem dX11_areLayers_15 : decode cX11_areLayers 15 = .ok (.ireturn, 1) := by decide +kernel
theorem dX11_firstBandOf_0 : decode cX11_firstBandOf 0 = .ok (.iload_n 0, 1) := by decide +kernel
theorem dX11_firstBandOf_1 : decode cX11_firstBandOf 1 = .ok (.ifCond .ne 7, 3) := by decide +kernel
theorem dX11_firstBandOf_4 : decode cX11_firstBandOf 4 = .ok (.iconst 0, 1) := by decide +kernel
theorem dX11_firstBandOf_5 : decode cX11_firstBandOf 5 = .ok (.goto 8, 3) := by decide +kernel
theorem dX11_firstBandOf_8 : decode cX11_firstBandOf 8 = .ok (.iconst 3, 1) := by decide +kernel
theorem dX11_firstBandOf_9 : decode cX11_firstBandOf 9 = .ok (.iload_n 0, 1) := by decide +kernel
theorem dX11_firstBandOf_10 : decode cX11_firstBandOf 10 = .ok (.imul, 1) := by decide +kernel
theorem dX11_firstBandOf_11 : decode cX11_firstBandOf 11 = .ok (.iconst 2, 1) := by decide +kernel
theorem dX11_firstBandOf_12 : decode cX11_firstBandOf 12 = .ok (.isub, 1) := by decide +kernel
theorem dX11_firstBandOf_13 : decode cX11_firstBandOf 13 = .ok (.ireturn, 1) := by decide +kernel
theorem dX11_lastBandOf_0 : decode cX11_lastBandOf 0 = .ok (.iconst 3, 1) := by decide +kernel
theorem dX11_lastBandOf_1 : decode cX11_lastBandOf 1 = .ok (.iload_n 0, 1) := by decide +kernel
theorem dX11_lastBandOf_2 : decode cX11_lastBandOf 2 = .ok (.imul, 1) := by decide +kernel
theorem dX11_lastBandOf_3 : decode cX11_lastBandOf 3 = .ok (.ireturn, 1) := by decide +kernel
theorem dX11_passesOf_0 : decode cX11_passesOf 0 = .ok (.iload_n 0, 1) := by decide +kernel
theorem dX11_passesOf_1 : decode cX11_passesOf 1 = .ok (.ifCond .ne 7, 3) := by decide +kernel
theorem dX11_passesOf_4 : decode cX11_passesOf 4 = .ok (.iconst 0, 1) := by decide +kernel
theorem dX11_passesOf_5 : decode cX11_passesOf 5 = .ok (.goto 8, 3) := by decide +kernel
theorem dX11_passesOf_8 : decode cX11_passesOf 8 = .ok (.iconst 3, 1) := by decide +kernel
theorem dX11_passesOf_9 : decode cX11_passesOf 9 = .ok (.iload_n 0, 1) := by decide +kernel
theorem dX11_passesOf_10 : decode cX11_passesOf 10 = .ok (.imul, 1) := by decide +kernel
theorem dX11_passesOf_11 : decode cX11_passesOf 11 = .ok (.iconst 2, 1) := by decide +kernel
theorem dX11_passesOf_12 : decode cX11_passesOf 12 = .ok (.isub, 1) := by decide +kernel
theorem dX11_passesOf_13 : decode cX11_passesOf 13 = .ok (.ireturn, 1) := by decide +kernel
theorem dX11_bitsOf_0 : decode cX11_bitsOf 0 = .ok (.bipush 32, 2) := by decide +kernel
theorem dX11_bitsOf_2 : decode cX11_bitsOf 2 = .ok (.iload_n 0, 1) := by decide +kernel
theorem dX11_bitsOf_3 : decode cX11_bitsOf 3 = .ok (.invokestatic 125, 3) := by decide +kernel
theorem dX11_bitsOf_6 : decode cX11_bitsOf 6 = .ok (.isub, 1) := by decide +kernel
theorem dX11_bitsOf_7 : decode cX11_bitsOf 7 = .ok (.ireturn, 1) := by decide +kernel
theorem dX12_init_0 : decode cX12_init 0 = .ok (.aload_n 0, 1) := by decide +kernel
theorem dX12_init_1 : decode cX12_init 1 = .ok (.invokespecial 1, 3) := by decide +kernel
theorem dX12_init_4 : decode cX12_init 4 = .ok (.aload_n 0, 1) := by decide +kernel
theorem dX12_init_5 : decode cX12_init 5 = .ok (.bipush 47, 2) := by decide +kernel
theorem dX12_init_7 : decode cX12_init 7 = .ok (.newarray .int, 2) := by decide +kernel
theorem dX12_init_9 : decode cX12_init 9 = .ok (.dup, 1) := by decide +kernel
theorem dX12_init_10 : decode cX12_init 10 = .ok (.iconst 0, 1) := by decide +kernel
theorem dX12_init_11 : decode cX12_init 11 = .ok (.sipush 22017, 3) := by decide +kernel
theorem dX12_init_14 : decode cX12_init 14 = .ok (.iastore, 1) := by decide +kernel
theorem dX12_init_15 : decode cX12_init 15 = .ok (.dup, 1) := by decide +kernel
theorem dX12_init_16 : decode cX12_init 16 = .ok (.iconst 1, 1) := by decide +kernel
theorem dX12_init_17 : decode cX12_init 17 = .ok (.sipush 13313, 3) := by decide +kernel
theorem dX12_init_20 : decode cX12_init 20 = .ok (.iastore, 1) := by decide +kernel
theorem dX12_init_21 : decode cX12_init 21 = .ok (.dup, 1) := by decide +kernel
theorem dX12_init_22 : decode cX12_init 22 = .ok (.iconst 2, 1) := by decide +kernel
theorem dX12_init_23 : decode cX12_init 23 = .ok (.sipush 6145, 3) := by decide +kernel
theorem dX12_init_26 : decode cX12_init 26 = .ok (.iastore, 1) := by decide +kernel
theorem dX12_init_27 : decode cX12_init 27 = .ok (.dup, 1) := by decide +kernel
theorem dX12_init_28 : decode cX12_init 28 = .ok (.iconst 3, 1) := by decide +kernel
theorem dX12_init_29 : decode cX12_init 29 = .ok (.sipush 2753, 3) := by decide +kernel
theorem dX12_init_32 : decode cX12_init 32 = .ok (.iastore, 1) := by decide +kernel
theorem dX12_init_33 : decode cX12_init 33 = .ok (.dup, 1) := by decide +kernel
theorem dX12_init_34 : decode cX12_init 34 = .ok (.iconst 4, 1) := by decide +kernel
theorem dX12_init_35 : decode cX12_init 35 = .ok (.sipush 1313, 3) := by decide +kernel
theorem dX12_init_38 : decode cX12_init 38 = .ok (.iastore, 1) := by decide +kernel
theorem dX12_init_39 : decode cX12_init 39 = .ok (.dup, 1) := by decide +kernel
theorem dX12_init_40 : decode cX12_init 40 = .ok (.iconst 5, 1) := by decide +kernel
theorem dX12_init_41 : decode cX12_init 41 = .ok (.sipush 545, 3) := by decide +kernel
theorem dX12_init_44 : decode cX12_init 44 = .ok (.iastore, 1) := by decide +kernel
theorem dX12_init_45 : decode cX12_init 45 = .ok (.dup, 1) := by decide +kernel
theorem dX12_init_46 : decode cX12_init 46 = .ok (.bipush 6, 2) := by decide +kernel
theorem dX12_init_48 : decode cX12_init 48 = .ok (.sipush 22017, 3) := by decide +kernel
theorem dX12_init_51 : decode cX12_init 51 = .ok (.iastore, 1) := by decide +kernel
theorem dX12_init_52 : decode cX12_init 52 = .ok (.dup, 1) := by decide +kernel
theorem dX12_init_53 : decode cX12_init 53 = .ok (.bipush 7, 2) := by decide +kernel
theorem dX12_init_55 : decode cX12_init 55 = .ok (.sipush 21505, 3) := by decide +kernel
theorem dX12_init_58 : decode cX12_init 58 = .ok (.iastore, 1) := by decide +kernel
theorem dX12_init_59 : decode cX12_init 59 = .ok (.dup, 1) := by decide +kernel
theorem dX12_init_60 : decode cX12_init 60 = .ok (.bipush 8, 2) := by decide +kernel
theorem dX12_init_62 : decode cX12_init 62 = .ok (.sipush 18433, 3) := by decide +kernel
theorem dX12_init_65 : decode cX12_init 65 = .ok (.iastore, 1) := by decide +kernel
theorem dX12_init_66 : decode cX12_init 66 = .ok (.dup, 1) := by decide +kernel
theorem dX12_init_67 : decode cX12_init 67 = .ok (.bipush 9, 2) := by decide +kernel
theorem dX12_init_69 : decode cX12_init 69 = .ok (.sipush 14337, 3) := by decide +kernel
theorem dX12_init_72 : decode cX12_init 72 = .ok (.iastore, 1) := by decide +kernel
theorem dX12_init_73 : decode cX12_init 73 = .ok (.dup, 1) := by decide +kernel
theorem dX12_init_74 : decode cX12_init 74 = .ok (.bipush 10, 2) := by decide +kernel
theorem dX12_init_76 : decode cX12_init 76 = .ok (.sipush 12289, 3) := by decide +kernel
theorem dX12_init_79 : decode cX12_init 79 = .ok (.iastore, 1) := by decide +kernel
theorem dX12_init_80 : decode cX12_init 80 = .ok (.dup, 1) := by decide +kernel
theorem dX12_init_81 : decode cX12_init 81 = .ok (.bipush 11, 2) := by decide +kernel
theorem dX12_init_83 : decode cX12_init 83 = .ok (.sipush 9217, 3) := by decide +kernel
theorem dX12_init_86 : decode cX12_init 86 = .ok (.iastore, 1) := by decide +kernel
theorem dX12_init_87 : decode cX12_init 87 = .ok (.dup, 1) := by decide +kernel
theorem dX12_init_88 : decode cX12_init 88 = .ok (.bipush 12, 2) := by decide +kernel
theorem dX12_init_90 : decode cX12_init 90 = .ok (.sipush 7169, 3) := by decide +kernel
theorem dX12_init_93 : decode cX12_init 93 = .ok (.iastore, 1) := by decide +kernel
theorem dX12_init_94 : decode cX12_init 94 = .ok (.dup, 1) := by decide +kernel
theorem dX12_init_95 : decode cX12_init 95 = .ok (.bipush 13, 2) := by decide +kernel
theorem dX12_init_97 : decode cX12_init 97 = .ok (.sipush 5633, 3) := by decide +kernel
theorem dX12_init_100 : decode cX12_init 100 = .ok (.iastore, 1) := by decide +kernel
theorem dX12_init_101 : decode cX12_init 101 = .ok (.dup, 1) := by decide +kernel
theorem dX12_init_102 : decode cX12_init 102 = .ok (.bipush 14, 2) := by decide +kernel
theorem dX12_init_104 : decode cX12_init 104 = .ok (.sipush 22017, 3) := by decide +kernel
theorem dX12_init_107 : decode cX12_init 107 = .ok (.iastore, 1) := by decide +kernel
theorem dX12_init_108 : decode cX12_init 108 = .ok (.dup, 1) := by decide +kernel
theorem dX12_init_109 : decode cX12_init 109 = .ok (.bipush 15, 2) := by decide +kernel
theorem dX12_init_111 : decode cX12_init 111 = .ok (.sipush 21505, 3) := by decide +kernel
theorem dX12_init_114 : decode cX12_init 114 = .ok (.iastore, 1) := by decide +kernel
theorem dX12_init_115 : decode cX12_init 115 = .ok (.dup, 1) := by decide +kernel
theorem dX12_init_116 : decode cX12_init 116 = .ok (.bipush 16, 2) := by decide +kernel
theorem dX12_init_118 : decode cX12_init 118 = .ok (.sipush 20737, 3) := by decide +kernel
theorem dX12_init_121 : decode cX12_init 121 = .ok (.iastore, 1) := by decide +kernel
theorem dX12_init_122 : decode cX12_init 122 = .ok (.dup, 1) := by decide +kernel
theorem dX12_init_123 : decode cX12_init 123 = .ok (.bipush 17, 2) := by decide +kernel
theorem dX12_init_125 : decode cX12_init 125 = .ok (.sipush 18433, 3) := by decide +kernel
theorem dX12_init_128 : decode cX12_init 128 = .ok (.iastore, 1) := by decide +kernel
theorem dX12_init_129 : decode cX12_init 129 = .ok (.dup, 1) := by decide +kernel
theorem dX12_init_130 : decode cX12_init 130 = .ok (.bipush 18, 2) := by decide +kernel
theorem dX12_init_132 : decode cX12_init 132 = .ok (.sipush 14337, 3) := by decide +kernel
theorem dX12_init_135 : decode cX12_init 135 = .ok (.iastore, 1) := by decide +kernel
theorem dX12_init_136 : decode cX12_init 136 = .ok (.dup, 1) := by decide +kernel
theorem dX12_init_137 : decode cX12_init 137 = .ok (.bipush 19, 2) := by decide +kernel
theorem dX12_init_139 : decode cX12_init 139 = .ok (.sipush 13313, 3) := by decide +kernel
theorem dX12_init_142 : decode cX12_init 142 = .ok (.iastore, 1) := by decide +kernel
theorem dX12_init_143 : decode cX12_init 143 = .ok (.dup, 1) := by decide +kernel
theorem dX12_init_144 : decode cX12_init 144 = .ok (.bipush 20, 2) := by decide +kernel
theorem dX12_init_146 : decode cX12_init 146 = .ok (.sipush 12289, 3) := by decide +kernel
theorem dX12_init_149 : decode cX12_init 149 = .ok (.iastore, 1) := by decide +kernel
theorem dX12_init_150 : decode cX12_init 150 = .ok (.dup, 1) := by decide +kernel
theorem dX12_init_151 : decode cX12_init 151 = .ok (.bipush 21, 2) := by decide +kernel
theorem dX12_init_153 : decode cX12_init 153 = .ok (.sipush 10241, 3) := by decide +kernel
theorem dX12_init_156 : decode cX12_init 156 = .ok (.iastore, 1) := by decide +kernel
theorem dX12_init_157 : decode cX12_init 157 = .ok (.dup, 1) := by decide +kernel
theorem dX12_init_158 : decode cX12_init 158 = .ok (.bipush 22, 2) := by decide +kernel
theorem dX12_init_160 : decode cX12_init 160 = .ok (.sipush 9217, 3) := by decide +kernel
theorem dX12_init_163 : decode cX12_init 163 = .ok (.iastore, 1) := by decide +kernel
theorem dX12_init_164 : decode cX12_init 164 = .ok (.dup, 1) := by decide +kernel
theorem dX12_init_165 : decode cX12_init 165 = .ok (.bipush 23, 2) := by decide +kernel
theorem dX12_init_167 : decode cX12_init 167 = .ok (.sipush 8705, 3) := by decide +kernel
theorem dX12_init_170 : decode cX12_init 170 = .ok (.iastore, 1) := by decide +kernel
theorem dX12_init_171 : decode cX12_init 171 = .ok (.dup, 1) := by decide +kernel
theorem dX12_init_172 : decode cX12_init 172 = .ok (.bipush 24, 2) := by decide +kernel
theorem dX12_init_174 : decode cX12_init 174 = .ok (.sipush 7169, 3) := by decide +kernel
theorem dX12_init_177 : decode cX12_init 177 = .ok (.iastore, 1) := by decide +kernel
theorem dX12_init_178 : decode cX12_init 178 = .ok (.dup, 1) := by decide +kernel
theorem dX12_init_179 : decode cX12_init 179 = .ok (.bipush 25, 2) := by decide +kernel
theorem dX12_init_181 : decode cX12_init 181 = .ok (.sipush 6145, 3) := by decide +kernel
theorem dX12_init_184 : decode cX12_init 184 = .ok (.iastore, 1) := by decide +kernel
theorem dX12_init_185 : decode cX12_init 185 = .ok (.dup, 1) := by decide +kernel
theorem dX12_init_186 : decode cX12_init 186 = .ok (.bipush 26, 2) := by decide +kernel
theorem dX12_init_188 : decode cX12_init 188 = .ok (.sipush 5633, 3) := by decide +kernel
theorem dX12_init_191 : decode cX12_init 191 = .ok (.iastore, 1) := by decide +kernel
theorem dX12_init_192 : decode cX12_init 192 = .ok (.dup, 1) := by decide +kernel
theorem dX12_init_193 : decode cX12_init 193 = .ok (.bipush 27, 2) := by decide +kernel
theorem dX12_init_195 : decode cX12_init 195 = .ok (.sipush 5121, 3) := by decide +kernel
theorem dX12_init_198 : decode cX12_init 198 = .ok (.iastore, 1) := by decide +kernel
theorem dX12_init_199 : decode cX12_init 199 = .ok (.dup, 1) := by decide +kernel
theorem dX12_init_200 : decode cX12_init 200 = .ok (.bipush 28, 2) := by decide +kernel
theorem dX12_init_202 : decode cX12_init 202 = .ok (.sipush 4609, 3) := by decide +kernel
theorem dX12_init_205 : decode cX12_init 205 = .ok (.iastore, 1) := by decide +kernel
theorem dX12_init_206 : decode cX12_init 206 = .ok (.dup, 1) := by decide +kernel
theorem dX12_init_207 : decode cX12_init 207 = .ok (.bipush 29, 2) := by decide +kernel
theorem dX12_init_209 : decode cX12_init 209 = .ok (.sipush 4353, 3) := by decide +kernel
theorem dX12_init_212 : decode cX12_init 212 = .ok (.iastore, 1) := by decide +kernel
theorem dX12_init_213 : decode cX12_init 213 = .ok (.dup, 1) := by decide +kernel
theorem dX12_init_214 : decode cX12_init 214 = .ok (.bipush 30, 2) := by decide +kernel
theorem dX12_init_216 : decode cX12_init 216 = .ok (.sipush 2753, 3) := by decide +kernel
theorem dX12_init_219 : decode cX12_init 219 = .ok (.iastore, 1) := by decide +kernel
theorem dX12_init_220 : decode cX12_init 220 = .ok (.dup, 1) := by decide +kernel
theorem dX12_init_221 : decode cX12_init 221 = .ok (.bipush 31, 2) := by decide +kernel
theorem dX12_init_223 : decode cX12_init 223 = .ok (.sipush 2497, 3) := by decide +kernel
theorem dX12_init_226 : decode cX12_init 226 = .ok (.iastore, 1) := by decide +kernel
theorem dX12_init_227 : decode cX12_init 227 = .ok (.dup, 1) := by decide +kernel
theorem dX12_init_228 : decode cX12_init 228 = .ok (.bipush 32, 2) := by decide +kernel
theorem dX12_init_230 : decode cX12_init 230 = .ok (.sipush 2209, 3) := by decide +kernel
theorem dX12_init_233 : decode cX12_init 233 = .ok (.iastore, 1) := by decide +kernel
theorem dX12_init_234 : decode cX12_init 234 = .ok (.dup, 1) := by decide +kernel
theorem dX12_init_235 : decode cX12_init 235 = .ok (.bipush 33, 2) := by decide +kernel
theorem dX12_init_237 : decode cX12_init 237 = .ok (.sipush 1313, 3) := by decide +kernel
theorem dX12_init_240 : decode cX12_init 240 = .ok (.iastore, 1) := by decide +kernel
theorem dX12_init_241 : decode cX12_init 241 = .ok (.dup, 1) := by decide +kernel
theorem dX12_init_242 : decode cX12_init 242 = .ok (.bipush 34, 2) := by decide +kernel
theorem dX12_init_244 : decode cX12_init 244 = .ok (.sipush 1089, 3) := by decide +kernel
theorem dX12_init_247 : decode cX12_init 247 = .ok (.iastore, 1) := by decide +kernel
theorem dX12_init_248 : decode cX12_init 248 = .ok (.dup, 1) := by decide +kernel
theorem dX12_init_249 : decode cX12_init 249 = .ok (.bipush 35, 2) := by decide +kernel
theorem dX12_init_251 : decode cX12_init 251 = .ok (.sipush 673, 3) := by decide +kernel
theorem dX12_init_254 : decode cX12_init 254 = .ok (.iastore, 1) := by decide +kernel
theorem dX12_init_255 : decode cX12_init 255 = .ok (.dup, 1) := by decide +kernel
theorem dX12_init_256 : decode cX12_init 256 = .ok (.bipush 36, 2) := by decide +kernel
theorem dX12_init_258 : decode cX12_init 258 = .ok (.sipush 545, 3) := by decide +kernel
theorem dX12_init_261 : decode cX12_init 261 = .ok (.iastore, 1) := by decide +kernel
theorem dX12_init_262 : decode cX12_init 262 = .ok (.dup, 1) := by decide +kernel
theorem dX12_init_263 : decode cX12_init 263 = .ok (.bipush 37, 2) := by decide +kernel
theorem dX12_init_265 : decode cX12_init 265 = .ok (.sipush 321, 3) := by decide +kernel
theorem dX12_init_268 : decode cX12_init 268 = .ok (.iastore, 1) := by decide +kernel
theorem dX12_init_269 : decode cX12_init 269 = .ok (.dup, 1) := by decide +kernel
theorem dX12_init_270 : decode cX12_init 270 = .ok (.bipush 38, 2) := by decide +kernel
theorem dX12_init_272 : decode cX12_init 272 = .ok (.sipush 273, 3) := by decide +kernel
theorem dX12_init_275 : decode cX12_init 275 = .ok (.iastore, 1) := by decide +kernel
theorem dX12_init_276 : decode cX12_init 276 = .ok (.dup, 1) := by decide +kernel
theorem dX12_init_277 : decode cX12_init 277 = .ok (.bipush 39, 2) := by decide +kernel
theorem dX12_init_279 : decode cX12_init 279 = .ok (.sipush 133, 3) := by decide +kernel
theorem dX12_init_282 : decode cX12_init 282 = .ok (.iastore, 1) := by decide +kernel
theorem dX12_init_283 : decode cX12_init 283 = .ok (.dup, 1) := by decide +kernel
theorem dX12_init_284 : decode cX12_init 284 = .ok (.bipush 40, 2) := by decide +kernel
theorem dX12_init_286 : decode cX12_init 286 = .ok (.bipush 73, 2) := by decide +kernel
theorem dX12_init_288 : decode cX12_init 288 = .ok (.iastore, 1) := by decide +kernel
theorem dX12_init_289 : decode cX12_init 289 = .ok (.dup, 1) := by decide +kernel
theorem dX12_init_290 : decode cX12_init 290 = .ok (.bipush 41, 2) := by decide +kernel
theorem dX12_init_292 : decode cX12_init 292 = .ok (.bipush 37, 2) := by decide +kernel
theorem dX12_init_294 : decode cX12_init 294 = .ok (.iastore, 1) := by decide +kernel
theorem dX12_init_295 : decode cX12_init 295 = .ok (.dup, 1) := by decide +kernel
theorem dX12_init_296 : decode cX12_init 296 = .ok (.bipush 42, 2) := by decide +kernel
theorem dX12_init_298 : decode cX12_init 298 = .ok (.bipush 21, 2) := by decide +kernel
theorem dX12_init_300 : decode cX12_init 300 = .ok (.iastore, 1) := by decide +kernel
theorem dX12_init_301 : decode cX12_init 301 = .ok (.dup, 1) := by decide +kernel
theorem dX12_init_302 : decode cX12_init 302 = .ok (.bipush 43, 2) := by decide +kernel
theorem dX12_init_304 : decode cX12_init 304 = .ok (.bipush 9, 2) := by decide +kernel
theorem dX12_init_306 : decode cX12_init 306 = .ok (.iastore, 1) := by decide +kernel
theorem dX12_init_307 : decode cX12_init 307 = .ok (.dup, 1) := by decide +kernel
theorem dX12_init_308 : decode cX12_init 308 = .ok (.bipush 44, 2) := by decide +kernel
theorem dX12_init_310 : decode cX12_init 310 = .ok (.iconst 5, 1) := by decide +kernel
theorem dX12_init_311 : decode cX12_init 311 = .ok (.iastore, 1) := by decide +kernel
theorem dX12_init_312 : decode cX12_init 312 = .ok (.dup, 1) := by decide +kernel
theorem dX12_init_313 : decode cX12_init 313 = .ok (.bipush 45, 2) := by decide +kernel
theorem dX12_init_315 : decode cX12_init 315 = .ok (.iconst 1, 1) := by decide +kernel
theorem dX12_init_316 : decode cX12_init 316 = .ok (.iastore, 1) := by decide +kernel
theorem dX12_init_317 : decode cX12_init 317 = .ok (.dup, 1) := by decide +kernel
theorem dX12_init_318 : decode cX12_init 318 = .ok (.bipush 46, 2) := by decide +kernel
theorem dX12_init_320 : decode cX12_init 320 = .ok (.sipush 22017, 3) := by decide +kernel
theorem dX12_init_323 : decode cX12_init 323 = .ok (.iastore, 1) := by decide +kernel
theorem dX12_init_324 : decode cX12_init 324 = .ok (.putfield 7, 3) := by decide +kernel
theorem dX12_init_327 : decode cX12_init 327 = .ok (.aload_n 0, 1) := by decide +kernel
theorem dX12_init_328 : decode cX12_init 328 = .ok (.bipush 47, 2) := by decide +kernel
theorem dX12_init_330 : decode cX12_init 330 = .ok (.newarray .int, 2) := by decide +kernel
theorem dX12_init_332 : decode cX12_init 332 = .ok (.dup, 1) := by decide +kernel
theorem dX12_init_333 : decode cX12_init 333 = .ok (.iconst 0, 1) := by decide +kernel
theorem dX12_init_334 : decode cX12_init 334 = .ok (.bipush 101, 2) := by decide +kernel
theorem dX12_init_336 : decode cX12_init 336 = .ok (.iastore, 1) := by decide +kernel
theorem dX12_init_337 : decode cX12_init 337 = .ok (.dup, 1) := by decide +kernel
theorem dX12_init_338 : decode cX12_init 338 = .ok (.iconst 1, 1) := by decide +kernel
theorem dX12_init_339 : decode cX12_init 339 = .ok (.sipush 206, 3) := by decide +kernel
theorem dX12_init_342 : decode cX12_init 342 = .ok (.iastore, 1) := by decide +kernel
theorem dX12_init_343 : decode cX12_init 343 = .ok (.dup, 1) := by decide +kernel
theorem dX12_init_344 : decode cX12_init 344 = .ok (.iconst 2, 1) := by decide +kernel
theorem dX12_init_345 : decode cX12_init 345 = .ok (.sipush 309, 3) := by decide +kernel
theorem dX12_init_348 : decode cX12_init 348 = .ok (.iastore, 1) := by decide +kernel
theorem dX12_init_349 : decode cX12_init 349 = .ok (.dup, 1) := by decide +kernel
theorem dX12_init_350 : decode cX12_init 350 = .ok (.iconst 3, 1) := by decide +kernel
theorem dX12_init_351 : decode cX12_init 351 = .ok (.sipush 412, 3) := by decide +kernel
theorem dX12_init_354 : decode cX12_init 354 = .ok (.iastore, 1) := by decide +kernel
theorem dX12_init_355 : decode cX12_init 355 = .ok (.dup, 1) := by decide +kernel
theorem dX12_init_356 : decode cX12_init 356 = .ok (.iconst 4, 1) := by decide +kernel
theorem dX12_init_357 : decode cX12_init 357 = .ok (.sipush 529, 3) := by decide +kernel
theorem dX12_init_360 : decode cX12_init 360 = .ok (.iastore, 1) := by decide +kernel
theorem dX12_init_361 : decode cX12_init 361 = .ok (.dup, 1) := by decide +kernel
theorem dX12_init_362 : decode cX12_init 362 = .ok (.iconst 5, 1) := by decide +kernel
theorem dX12_init_363 : decode cX12_init 363 = .ok (.sipush 3833, 3) := by decide +kernel
theorem dX12_init_366 : decode cX12_init 366 = .ok (.iastore, 1) := by decide +kernel
theorem dX12_init_367 : decode cX12_init 367 = .ok (.dup, 1) := by decide +kernel
theorem dX12_init_368 : decode cX12_init 368 = .ok (.bipush 6, 2) := by decide +kernel
theorem dX12_init_370 : decode cX12_init 370 = .ok (.sipush 706, 3) := by decide +kernel
theorem dX12_init_373 : decode cX12_init 373 = .ok (.iastore, 1) := by decide +kernel
theorem dX12_init_374 : decode cX12_init 374 = .ok (.dup, 1) := by decide +kernel
theorem dX12_init_375 : decode cX12_init 375 = .ok (.bipush 7, 2) := by decide +kernel
theorem dX12_init_377 : decode cX12_init 377 = .ok (.sipush 814, 3) := by decide +kernel
theorem dX12_init_380 : decode cX12_init 380 = .ok (.iastore, 1) := by decide +kernel
theorem dX12_init_381 : decode cX12_init 381 = .ok (.dup, 1) := by decide +kernel
theorem dX12_init_382 : decode cX12_init 382 = .ok (.bipush 8, 2) := by decide +kernel
theorem dX12_init_384 : decode cX12_init 384 = .ok (.sipush 914, 3) := by decide +kernel
theorem dX12_init_387 : decode cX12_init 387 = .ok (.iastore, 1) := by decide +kernel
theorem dX12_init_388 : decode cX12_init 388 = .ok (.dup, 1) := by decide +kernel
theorem dX12_init_389 : decode cX12_init 389 = .ok (.bipush 9, 2) := by decide +kernel
theorem dX12_init_391 : decode cX12_init 391 = .ok (.sipush 1014, 3) := by decide +kernel
theorem dX12_init_394 : decode cX12_init 394 = .ok (.iastore, 1) := by decide +kernel
theorem dX12_init_395 : decode cX12_init 395 = .ok (.dup, 1) := by decide +kernel
theorem dX12_init_396 : decode cX12_init 396 = .ok (.bipush 10, 2) := by decide +kernel
theorem dX12_init_398 : decode cX12_init 398 = .ok (.sipush 1117, 3) := by decide +kernel
theorem dX12_init_401 : decode cX12_init 401 = .ok (.iastore, 1) := by decide +kernel
theorem dX12_init_402 : decode cX12_init 402 = .ok (.dup, 1) := by decide +kernel
theorem dX12_init_403 : decode cX12_init 403 = .ok (.bipush 11, 2) := by decide +kernel
theorem dX12_init_405 : decode cX12_init 405 = .ok (.sipush 1218, 3) := by decide +kernel
theorem dX12_init_408 : decode cX12_init 408 = .ok (.iastore, 1) := by decide +kernel
theorem dX12_init_409 : decode cX12_init 409 = .ok (.dup, 1) := by decide +kernel
theorem dX12_init_410 : decode cX12_init 410 = .ok (.bipush 12, 2) := by decide +kernel
theorem dX12_init_412 : decode cX12_init 412 = .ok (.sipush 1320, 3) := by decide +kernel
theorem dX12_init_415 : decode cX12_init 415 = .ok (.iastore, 1) := by decide +kernel
theorem dX12_init_416 : decode cX12_init 416 = .ok (.dup, 1) := by decide +kernel
theorem dX12_init_417 : decode cX12_init 417 = .ok (.bipush 13, 2) := by decide +kernel
theorem dX12_init_419 : decode cX12_init 419 = .ok (.sipush 2921, 3) := by decide +kernel
theorem dX12_init_422 : decode cX12_init 422 = .ok (.iastore, 1) := by decide +kernel
theorem dX12_init_423 : decode cX12_init 423 = .ok (.dup, 1) := by decide +kernel
theorem dX12_init_424 : decode cX12_init 424 = .ok (.bipush 14, 2) := by decide +kernel
theorem dX12_init_426 : decode cX12_init 426 = .ok (.sipush 1514, 3) := by decide +kernel
theorem dX12_init_429 : decode cX12_init 429 = .ok (.iastore, 1) := by decide +kernel
theorem dX12_init_430 : decode cX12_init 430 = .ok (.dup, 1) := by decide +kernel
theorem dX12_init_431 : decode cX12_init 431 = .ok (.bipush 15, 2) := by decide +kernel
theorem dX12_init_433 : decode cX12_init 433 = .ok (.sipush 1614, 3) := by decide +kernel
theorem dX12_init_436 : decode cX12_init 436 = .ok (.iastore, 1) := by decide +kernel
theorem dX12_init_437 : decode cX12_init 437 = .ok (.dup, 1) := by decide +kernel
theorem dX12_init_438 : decode cX12_init 438 = .ok (.bipush 16, 2) := by decide +kernel
theorem dX12_init_440 : decode cX12_init 440 = .ok (.sipush 1715, 3) := by decide +kernel
theorem dX12_init_443 : decode cX12_init 443 = .ok (.iastore, 1) := by decide +kernel
theorem dX12_init_444 : decode cX12_init 444 = .ok (.dup, 1) := by decide +kernel
theorem dX12_init_445 : decode cX12_init 445 = .ok (.bipush 17, 2) := by decide +kernel
theorem dX12_init_447 : decode cX12_init 447 = .ok (.sipush 1816, 3) := by decide +kernel
theorem dX12_init_450 : decode cX12_init 450 = .ok (.iastore, 1) := by decide +kernel
theorem dX12_init_451 : decode cX12_init 451 = .ok (.dup, 1) := by decide +kernel
theorem dX12_init_452 : decode cX12_init 452 = .ok (.bipush 18, 2) := by decide +kernel
theorem dX12_init_454 : decode cX12_init 454 = .ok (.sipush 1917, 3) := by decide +kernel
theorem dX12_init_457 : decode cX12_init 457 = .ok (.iastore, 1) := by decide +kernel
theorem dX12_init_458 : decode cX12_init 458 = .ok (.dup, 1) := by decide +kernel
theorem dX12_init_459 : decode cX12_init 459 = .ok (.bipush 19, 2) := by decide +kernel
theorem dX12_init_461 : decode cX12_init 461 = .ok (.sipush 2018, 3) := by decide +kernel
theorem dX12_init_464 : decode cX12_init 464 = .ok (.iastore, 1) := by decide +kernel
theorem dX12_init_465 : decode cX12_init 465 = .ok (.dup, 1) := by decide +kernel
theorem dX12_init_466 : decode cX12_init 466 = .ok (.bipush 20, 2) := by decide +kernel
theorem dX12_init_468 : decode cX12_init 468 = .ok (.sipush 2119, 3) := by decide +kernel
theorem dX12_init_471 : decode cX12_init 471 = .ok (.iastore, 1) := by decide +kernel
theorem dX12_init_472 : decode cX12_init 472 = .ok (.dup, 1) := by decide +kernel
theorem dX12_init_473 : decode cX12_init 473 = .ok (.bipush 21, 2) := by decide +kernel
theorem dX12_init_475 : decode cX12_init 475 = .ok (.sipush 2219, 3) := by decide +kernel
theorem dX12_init_478 : decode cX12_init 478 = .ok (.iastore, 1) := by decide +kernel
theorem dX12_init_479 : decode cX12_init 479 = .ok (.dup, 1) := by decide +kernel
theorem dX12_init_480 : decode cX12_init 480 = .ok (.bipush 22, 2) := by decide +kernel
theorem dX12_init_482 : decode cX12_init 482 = .ok (.sipush 2320, 3) := by decide +kernel
theorem dX12_init_485 : decode cX12_init 485 = .ok (.iastore, 1) := by decide +kernel
theorem dX12_init_486 : decode cX12_init 486 = .ok (.dup, 1) := by decide +kernel
theorem dX12_init_487 : decode cX12_init 487 = .ok (.bipush 23, 2) := by decide +kernel
theorem dX12_init_489 : decode cX12_init 489 = .ok (.sipush 2421, 3) := by decide +kernel
theorem dX12_init_492 : decode cX12_init 492 = .ok (.iastore, 1) := by decide +kernel
theorem dX12_init_493 : decode cX12_init 493 = .ok (.dup, 1) := by decide +kernel
theorem dX12_init_494 : decode cX12_init 494 = .ok (.bipush 24, 2) := by decide +kernel
theorem dX12_init_496 : decode cX12_init 496 = .ok (.sipush 2522, 3) := by decide +kernel
theorem dX12_init_499 : decode cX12_init 499 = .ok (.iastore, 1) := by decide +kernel
theorem dX12_init_500 : decode cX12_init 500 = .ok (.dup, 1) := by decide +kernel
theorem dX12_init_501 : decode cX12_init 501 = .ok (.bipush 25, 2) := by decide +kernel
theorem dX12_init_503 : decode cX12_init 503 = .ok (.sipush 2623, 3) := by decide +kernel
theorem dX12_init_506 : decode cX12_init 506 = .ok (.iastore, 1) := by decide +kernel
theorem dX12_init_507 : decode cX12_init 507 = .ok (.dup, 1) := by decide +kernel
theorem dX12_init_508 : decode cX12_init 508 = .ok (.bipush 26, 2) := by decide +kernel
theorem dX12_init_510 : decode cX12_init 510 = .ok (.sipush 2724, 3) := by decide +kernel
theorem dX12_init_513 : decode cX12_init 513 = .ok (.iastore, 1) := by decide +kernel
theorem dX12_init_514 : decode cX12_init 514 = .ok (.dup, 1) := by decide +kernel
theorem dX12_init_515 : decode cX12_init 515 = .ok (.bipush 27, 2) := by decide +kernel
theorem dX12_init_517 : decode cX12_init 517 = .ok (.sipush 2825, 3) := by decide +kernel
theorem dX12_init_520 : decode cX12_init 520 = .ok (.iastore, 1) := by decide +kernel
theorem dX12_init_521 : decode cX12_init 521 = .ok (.dup, 1) := by decide +kernel
theorem dX12_init_522 : decode cX12_init 522 = .ok (.bipush 28, 2) := by decide +kernel
theorem dX12_init_524 : decode cX12_init 524 = .ok (.sipush 2926, 3) := by decide +kernel
theorem dX12_init_527 : decode cX12_init 527 = .ok (.iastore, 1) := by decide +kernel
theorem dX12_init_528 : decode cX12_init 528 = .ok (.dup, 1) := by decide +kernel
theorem dX12_init_529 : decode cX12_init 529 = .ok (.bipush 29, 2) := by decide +kernel
theorem dX12_init_531 : decode cX12_init 531 = .ok (.sipush 3027, 3) := by decide +kernel
theorem dX12_init_534 : decode cX12_init 534 = .ok (.iastore, 1) := by decide +kernel
theorem dX12_init_535 : decode cX12_init 535 = .ok (.dup, 1) := by decide +kernel
theorem dX12_init_536 : decode cX12_init 536 = .ok (.bipush 30, 2) := by decide +kernel
theorem dX12_init_538 : decode cX12_init 538 = .ok (.sipush 3128, 3) := by decide +kernel
theorem dX12_init_541 : decode cX12_init 541 = .ok (.iastore, 1) := by decide +kernel
theorem dX12_init_542 : decode cX12_init 542 = .ok (.dup, 1) := by decide +kernel
theorem dX12_init_543 : decode cX12_init 543 = .ok (.bipush 31, 2) := by decide +kernel
theorem dX12_init_545 : decode cX12_init 545 = .ok (.sipush 3229, 3) := by decide +kernel

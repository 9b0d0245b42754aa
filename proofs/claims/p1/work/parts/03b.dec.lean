theorem dX4_begin_44 : decode cX4_begin 44 = .ok (.istore 4, 2) := by decide +kernel
theorem dX4_begin_46 : decode cX4_begin 46 = .ok (.iload 4, 2) := by decide +kernel
theorem dX4_begin_48 : decode cX4_begin 48 = .ok (.aload_n 0, 1) := by decide +kernel
theorem dX4_begin_49 : decode cX4_begin 49 = .ok (.getfield 25, 3) := by decide +kernel
theorem dX4_begin_52 : decode cX4_begin 52 = .ok (.arraylength, 1) := by decide +kernel
theorem dX4_begin_53 : decode cX4_begin 53 = .ok (.if_icmp .ge 17, 3) := by decide +kernel
theorem dX4_begin_56 : decode cX4_begin 56 = .ok (.aload_n 0, 1) := by decide +kernel
theorem dX4_begin_57 : decode cX4_begin 57 = .ok (.getfield 25, 3) := by decide +kernel
theorem dX4_begin_60 : decode cX4_begin 60 = .ok (.iload 4, 2) := by decide +kernel
theorem dX4_begin_62 : decode cX4_begin 62 = .ok (.iconst 0, 1) := by decide +kernel
theorem dX4_begin_63 : decode cX4_begin 63 = .ok (.bastore, 1) := by decide +kernel
theorem dX4_begin_64 : decode cX4_begin 64 = .ok (.iinc 4 1, 3) := by decide +kernel
theorem dX4_begin_67 : decode cX4_begin 67 = .ok (.goto (-21), 3) := by decide +kernel
theorem dX4_begin_70 : decode cX4_begin 70 = .ok (.return_, 1) := by decide +kernel
theorem dX4_mean_0 : decode cX4_mean 0 = .ok (.aload_n 0, 1) := by decide +kernel
theorem dX4_mean_1 : decode cX4_mean 1 = .ok (.getfield 11, 3) := by decide +kernel
theorem dX4_mean_4 : decode cX4_mean 4 = .ok (.iload_n 1, 1) := by decide +kernel
theorem dX4_mean_5 : decode cX4_mean 5 = .ok (.iload_n 2, 1) := by decide +kernel
theorem dX4_mean_6 : decode cX4_mean 6 = .ok (.invokestatic 51, 3) := by decide +kernel
theorem dX4_mean_9 : decode cX4_mean 9 = .ok (.iload_n 3, 1) := by decide +kernel
theorem dX4_mean_10 : decode cX4_mean 10 = .ok (.iastore, 1) := by decide +kernel
theorem dX4_mean_11 : decode cX4_mean 11 = .ok (.return_, 1) := by decide +kernel
theorem dX4_numberAt_0 : decode cX4_numberAt 0 = .ok (.iload_n 1, 1) := by decide +kernel
theorem dX4_numberAt_1 : decode cX4_numberAt 1 = .ok (.iload_n 2, 1) := by decide +kernel
theorem dX4_numberAt_2 : decode cX4_numberAt 2 = .ok (.invokestatic 51, 3) := by decide +kernel
theorem dX4_numberAt_5 : decode cX4_numberAt 5 = .ok (.istore_n 3, 1) := by decide +kernel
theorem dX4_numberAt_6 : decode cX4_numberAt 6 = .ok (.aload_n 0, 1) := by decide +kernel
theorem dX4_numberAt_7 : decode cX4_numberAt 7 = .ok (.getfield 18, 3) := by decide +kernel
theorem dX4_numberAt_10 : decode cX4_numberAt 10 = .ok (.iload_n 3, 1) := by decide +kernel
theorem dX4_numberAt_11 : decode cX4_numberAt 11 = .ok (.iaload, 1) := by decide +kernel
theorem dX4_numberAt_12 : decode cX4_numberAt 12 = .ok (.aload_n 0, 1) := by decide +kernel
theorem dX4_numberAt_13 : decode cX4_numberAt 13 = .ok (.getfield 15, 3) := by decide +kernel
theorem dX4_numberAt_16 : decode cX4_numberAt 16 = .ok (.iload_n 3, 1) := by decide +kernel
theorem dX4_numberAt_17 : decode cX4_numberAt 17 = .ok (.iaload, 1) := by decide +kernel
theorem dX4_numberAt_18 : decode cX4_numberAt 18 = .ok (.imul, 1) := by decide +kernel
theorem dX4_numberAt_19 : decode cX4_numberAt 19 = .ok (.ireturn, 1) := by decide +kernel
theorem dX4_runPass_0 : decode cX4_runPass 0 = .ok (.aload_n 0, 1) := by decide +kernel
theorem dX4_runPass_1 : decode cX4_runPass 1 = .ok (.iload_n 2, 1) := by decide +kernel
theorem dX4_runPass_2 : decode cX4_runPass 2 = .ok (.iconst 1, 1) := by decide +kernel
theorem dX4_runPass_3 : decode cX4_runPass 3 = .ok (.isub, 1) := by decide +kernel
theorem dX4_runPass_4 : decode cX4_runPass 4 = .ok (.iload_n 1, 1) := by decide +kernel
theorem dX4_runPass_5 : decode cX4_runPass 5 = .ok (.iconst 2, 1) := by decide +kernel
theorem dX4_runPass_6 : decode cX4_runPass 6 = .ok (.iadd, 1) := by decide +kernel
theorem dX4_runPass_7 : decode cX4_runPass 7 = .ok (.iconst 3, 1) := by decide +kernel
theorem dX4_runPass_8 : decode cX4_runPass 8 = .ok (.idiv, 1) := by decide +kernel
theorem dX4_runPass_9 : decode cX4_runPass 9 = .ok (.isub, 1) := by decide +kernel
theorem dX4_runPass_10 : decode cX4_runPass 10 = .ok (.putfield 55, 3) := by decide +kernel
theorem dX4_runPass_13 : decode cX4_runPass 13 = .ok (.iload_n 1, 1) := by decide +kernel
theorem dX4_runPass_14 : decode cX4_runPass 14 = .ok (.iconst 2, 1) := by decide +kernel
theorem dX4_runPass_15 : decode cX4_runPass 15 = .ok (.iadd, 1) := by decide +kernel
theorem dX4_runPass_16 : decode cX4_runPass 16 = .ok (.iconst 3, 1) := by decide +kernel
theorem dX4_runPass_17 : decode cX4_runPass 17 = .ok (.irem, 1) := by decide +kernel
theorem dX4_runPass_18 : decode cX4_runPass 18 = .ok (.istore_n 3, 1) := by decide +kernel
theorem dX4_runPass_19 : decode cX4_runPass 19 = .ok (.iconst 0, 1) := by decide +kernel
theorem dX4_runPass_20 : decode cX4_runPass 20 = .ok (.istore 4, 2) := by decide +kernel
theorem dX4_runPass_22 : decode cX4_runPass 22 = .ok (.iload 4, 2) := by decide +kernel
theorem dX4_runPass_24 : decode cX4_runPass 24 = .ok (.aload_n 0, 1) := by decide +kernel
theorem dX4_runPass_25 : decode cX4_runPass 25 = .ok (.getfield 36, 3) := by decide +kernel
theorem dX4_runPass_28 : decode cX4_runPass 28 = .ok (.if_icmp .ge 94, 3) := by decide +kernel
theorem dX4_runPass_31 : decode cX4_runPass 31 = .ok (.iconst 4, 1) := by decide +kernel
theorem dX4_runPass_32 : decode cX4_runPass 32 = .ok (.aload_n 0, 1) := by decide +kernel
theorem dX4_runPass_33 : decode cX4_runPass 33 = .ok (.getfield 36, 3) := by decide +kernel
theorem dX4_runPass_36 : decode cX4_runPass 36 = .ok (.iload 4, 2) := by decide +kernel
theorem dX4_runPass_38 : decode cX4_runPass 38 = .ok (.isub, 1) := by decide +kernel
theorem dX4_runPass_39 : decode cX4_runPass 39 = .ok (.invokestatic 58, 3) := by decide +kernel
theorem dX4_runPass_42 : decode cX4_runPass 42 = .ok (.istore 5, 2) := by decide +kernel
theorem dX4_runPass_44 : decode cX4_runPass 44 = .ok (.iconst 0, 1) := by decide +kernel
theorem dX4_runPass_45 : decode cX4_runPass 45 = .ok (.istore 6, 2) := by decide +kernel
theorem dX4_runPass_47 : decode cX4_runPass 47 = .ok (.iload 6, 2) := by decide +kernel
theorem dX4_runPass_49 : decode cX4_runPass 49 = .ok (.aload_n 0, 1) := by decide +kernel
theorem dX4_runPass_50 : decode cX4_runPass 50 = .ok (.getfield 32, 3) := by decide +kernel
theorem dX4_runPass_53 : decode cX4_runPass 53 = .ok (.if_icmp .ge 63, 3) := by decide +kernel
theorem dX4_runPass_56 : decode cX4_runPass 56 = .ok (.iload_n 3, 1) := by decide +kernel
theorem dX4_runPass_57 : decode cX4_runPass 57 = .ok (.ifCond .ne 19, 3) := by decide +kernel
theorem dX4_runPass_60 : decode cX4_runPass 60 = .ok (.aload_n 0, 1) := by decide +kernel
theorem dX4_runPass_61 : decode cX4_runPass 61 = .ok (.iload 6, 2) := by decide +kernel
theorem dX4_runPass_63 : decode cX4_runPass 63 = .ok (.iload 4, 2) := by decide +kernel
theorem dX4_runPass_65 : decode cX4_runPass 65 = .ok (.invokestatic 51, 3) := by decide +kernel
theorem dX4_runPass_68 : decode cX4_runPass 68 = .ok (.iload 5, 2) := by decide +kernel
theorem dX4_runPass_70 : decode cX4_runPass 70 = .ok (.invokevirtual 63, 3) := by decide +kernel
theorem dX4_runPass_73 : decode cX4_runPass 73 = .ok (.goto 37, 3) := by decide +kernel
theorem dX4_runPass_76 : decode cX4_runPass 76 = .ok (.iload_n 3, 1) := by decide +kernel
theorem dX4_runPass_77 : decode cX4_runPass 77 = .ok (.iconst 1, 1) := by decide +kernel
theorem dX4_runPass_78 : decode cX4_runPass 78 = .ok (.if_icmp .ne 19, 3) := by decide +kernel
theorem dX4_runPass_81 : decode cX4_runPass 81 = .ok (.aload_n 0, 1) := by decide +kernel
theorem dX4_runPass_82 : decode cX4_runPass 82 = .ok (.iload 6, 2) := by decide +kernel
theorem dX4_runPass_84 : decode cX4_runPass 84 = .ok (.iload 4, 2) := by decide +kernel
theorem dX4_runPass_86 : decode cX4_runPass 86 = .ok (.invokestatic 51, 3) := by decide +kernel
theorem dX4_runPass_89 : decode cX4_runPass 89 = .ok (.iload 5, 2) := by decide +kernel
theorem dX4_runPass_91 : decode cX4_runPass 91 = .ok (.invokevirtual 67, 3) := by decide +kernel
theorem dX4_runPass_94 : decode cX4_runPass 94 = .ok (.goto 16, 3) := by decide +kernel
theorem dX4_runPass_97 : decode cX4_runPass 97 = .ok (.aload_n 0, 1) := by decide +kernel
theorem dX4_runPass_98 : decode cX4_runPass 98 = .ok (.iload 6, 2) := by decide +kernel
theorem dX4_runPass_100 : decode cX4_runPass 100 = .ok (.iload 4, 2) := by decide +kernel
theorem dX4_runPass_102 : decode cX4_runPass 102 = .ok (.invokestatic 51, 3) := by decide +kernel
theorem dX4_runPass_105 : decode cX4_runPass 105 = .ok (.iload 5, 2) := by decide +kernel
theorem dX4_runPass_107 : decode cX4_runPass 107 = .ok (.invokevirtual 70, 3) := by decide +kernel
theorem dX4_runPass_110 : decode cX4_runPass 110 = .ok (.iinc 6 1, 3) := by decide +kernel
theorem dX4_runPass_113 : decode cX4_runPass 113 = .ok (.goto (-66), 3) := by decide +kernel
theorem dX4_runPass_116 : decode cX4_runPass 116 = .ok (.iinc 4 4, 3) := by decide +kernel
theorem dX4_runPass_119 : decode cX4_runPass 119 = .ok (.goto (-97), 3) := by decide +kernel
theorem dX4_runPass_122 : decode cX4_runPass 122 = .ok (.iload_n 3, 1) := by decide +kernel
theorem dX4_runPass_123 : decode cX4_runPass 123 = .ok (.iconst 2, 1) := by decide +kernel
theorem dX4_runPass_124 : decode cX4_runPass 124 = .ok (.if_icmp .ne 7, 3) := by decide +kernel
theorem dX4_runPass_127 : decode cX4_runPass 127 = .ok (.aload_n 0, 1) := by decide +kernel
theorem dX4_runPass_128 : decode cX4_runPass 128 = .ok (.invokevirtual 48, 3) := by decide +kernel
theorem dX4_runPass_131 : decode cX4_runPass 131 = .ok (.return_, 1) := by decide +kernel
theorem dX4_place_0 : decode cX4_place 0 = .ok (.iload_n 1, 1) := by decide +kernel
theorem dX4_place_1 : decode cX4_place 1 = .ok (.iconst 1, 1) := by decide +kernel
theorem dX4_place_2 : decode cX4_place 2 = .ok (.iadd, 1) := by decide +kernel
theorem dX4_place_3 : decode cX4_place 3 = .ok (.bipush 10, 2) := by decide +kernel
theorem dX4_place_5 : decode cX4_place 5 = .ok (.imul, 1) := by decide +kernel
theorem dX4_place_6 : decode cX4_place 6 = .ok (.iload_n 0, 1) := by decide +kernel
theorem dX4_place_7 : decode cX4_place 7 = .ok (.iadd, 1) := by decide +kernel
theorem dX4_place_8 : decode cX4_place 8 = .ok (.iconst 1, 1) := by decide +kernel
theorem dX4_place_9 : decode cX4_place 9 = .ok (.iadd, 1) := by decide +kernel
theorem dX4_place_10 : decode cX4_place 10 = .ok (.ireturn, 1) := by decide +kernel
theorem dX4_clearTold_0 : decode cX4_clearTold 0 = .ok (.iconst 0, 1) := by decide +kernel
theorem dX4_clearTold_1 : decode cX4_clearTold 1 = .ok (.istore_n 1, 1) := by decide +kernel
theorem dX4_clearTold_2 : decode cX4_clearTold 2 = .ok (.iload_n 1, 1) := by decide +kernel
theorem dX4_clearTold_3 : decode cX4_clearTold 3 = .ok (.aload_n 0, 1) := by decide +kernel
theorem dX4_clearTold_4 : decode cX4_clearTold 4 = .ok (.getfield 21, 3) := by decide +kernel
theorem dX4_clearTold_7 : decode cX4_clearTold 7 = .ok (.arraylength, 1) := by decide +kernel
theorem dX4_clearTold_8 : decode cX4_clearTold 8 = .ok (.if_icmp .ge 16, 3) := by decide +kernel
theorem dX4_clearTold_11 : decode cX4_clearTold 11 = .ok (.aload_n 0, 1) := by decide +kernel
theorem dX4_clearTold_12 : decode cX4_clearTold 12 = .ok (.getfield 21, 3) := by decide +kernel
theorem dX4_clearTold_15 : decode cX4_clearTold 15 = .ok (.iload_n 1, 1) := by decide +kernel
theorem dX4_clearTold_16 : decode cX4_clearTold 16 = .ok (.iconst 0, 1) := by decide +kernel
theorem dX4_clearTold_17 : decode cX4_clearTold 17 = .ok (.bastore, 1) := by decide +kernel
theorem dX4_clearTold_18 : decode cX4_clearTold 18 = .ok (.iinc 1 1, 3) := by decide +kernel
theorem dX4_clearTold_21 : decode cX4_clearTold 21 = .ok (.goto (-19), 3) := by decide +kernel
theorem dX4_clearTold_24 : decode cX4_clearTold 24 = .ok (.return_, 1) := by decide +kernel
theorem dX4_spreadColumn_0 : decode cX4_spreadColumn 0 = .ok (.iconst 0, 1) := by decide +kernel
theorem dX4_spreadColumn_1 : decode cX4_spreadColumn 1 = .ok (.istore_n 3, 1) := by decide +kernel
theorem dX4_spreadColumn_2 : decode cX4_spreadColumn 2 = .ok (.iload_n 3, 1) := by decide +kernel
theorem dX4_spreadColumn_3 : decode cX4_spreadColumn 3 = .ok (.iload_n 2, 1) := by decide +kernel
theorem dX4_spreadColumn_4 : decode cX4_spreadColumn 4 = .ok (.if_icmp .ge 79, 3) := by decide +kernel
theorem dX4_spreadColumn_7 : decode cX4_spreadColumn 7 = .ok (.iload_n 1, 1) := by decide +kernel
theorem dX4_spreadColumn_8 : decode cX4_spreadColumn 8 = .ok (.iload_n 3, 1) := by decide +kernel
theorem dX4_spreadColumn_9 : decode cX4_spreadColumn 9 = .ok (.bipush 10, 2) := by decide +kernel
theorem dX4_spreadColumn_11 : decode cX4_spreadColumn 11 = .ok (.imul, 1) := by decide +kernel
theorem dX4_spreadColumn_12 : decode cX4_spreadColumn 12 = .ok (.iadd, 1) := by decide +kernel
theorem dX4_spreadColumn_13 : decode cX4_spreadColumn 13 = .ok (.istore 4, 2) := by decide +kernel
theorem dX4_spreadColumn_15 : decode cX4_spreadColumn 15 = .ok (.aload_n 0, 1) := by decide +kernel
theorem dX4_spreadColumn_16 : decode cX4_spreadColumn 16 = .ok (.getfield 18, 3) := by decide +kernel
theorem dX4_spreadColumn_19 : decode cX4_spreadColumn 19 = .ok (.iload 4, 2) := by decide +kernel
theorem dX4_spreadColumn_21 : decode cX4_spreadColumn 21 = .ok (.iaload, 1) := by decide +kernel
theorem dX4_spreadColumn_22 : decode cX4_spreadColumn 22 = .ok (.ifCond .ne 12, 3) := by decide +kernel
theorem dX4_spreadColumn_25 : decode cX4_spreadColumn 25 = .ok (.aload_n 0, 1) := by decide +kernel
theorem dX4_spreadColumn_26 : decode cX4_spreadColumn 26 = .ok (.iload 4, 2) := by decide +kernel
theorem dX4_spreadColumn_28 : decode cX4_spreadColumn 28 = .ok (.invokevirtual 73, 3) := by decide +kernel
theorem dX4_spreadColumn_31 : decode cX4_spreadColumn 31 = .ok (.goto 4, 3) := by decide +kernel
theorem dX4_spreadColumn_34 : decode cX4_spreadColumn 34 = .ok (.iconst 0, 1) := by decide +kernel
theorem dX4_spreadColumn_35 : decode cX4_spreadColumn 35 = .ok (.istore 5, 2) := by decide +kernel
theorem dX4_spreadColumn_37 : decode cX4_spreadColumn 37 = .ok (.iload 5, 2) := by decide +kernel
theorem dX4_spreadColumn_39 : decode cX4_spreadColumn 39 = .ok (.ifCond .le 38, 3) := by decide +kernel
theorem dX4_spreadColumn_42 : decode cX4_spreadColumn 42 = .ok (.aload_n 0, 1) := by decide +kernel
theorem dX4_spreadColumn_43 : decode cX4_spreadColumn 43 = .ok (.getfield 21, 3) := by decide +kernel
theorem dX4_spreadColumn_46 : decode cX4_spreadColumn 46 = .ok (.iload 4, 2) := by decide +kernel
theorem dX4_spreadColumn_48 : decode cX4_spreadColumn 48 = .ok (.iconst 1, 1) := by decide +kernel
theorem dX4_spreadColumn_49 : decode cX4_spreadColumn 49 = .ok (.bastore, 1) := by decide +kernel
theorem dX4_spreadColumn_50 : decode cX4_spreadColumn 50 = .ok (.aload_n 0, 1) := by decide +kernel
theorem dX4_spreadColumn_51 : decode cX4_spreadColumn 51 = .ok (.getfield 28, 3) := by decide +kernel
theorem dX4_spreadColumn_54 : decode cX4_spreadColumn 54 = .ok (.iload 5, 2) := by decide +kernel
theorem dX4_spreadColumn_56 : decode cX4_spreadColumn 56 = .ok (.aload_n 0, 1) := by decide +kernel
theorem dX4_spreadColumn_57 : decode cX4_spreadColumn 57 = .ok (.iload 4, 2) := by decide +kernel
theorem dX4_spreadColumn_59 : decode cX4_spreadColumn 59 = .ok (.invokevirtual 77, 3) := by decide +kernel
theorem dX4_spreadColumn_62 : decode cX4_spreadColumn 62 = .ok (.invokeinterface 80 3, 5) := by decide +kernel
theorem dX4_spreadColumn_67 : decode cX4_spreadColumn 67 = .ok (.iconst 1, 1) := by decide +kernel
theorem dX4_spreadColumn_68 : decode cX4_spreadColumn 68 = .ok (.if_icmp .ne 9, 3) := by decide +kernel
theorem dX4_spreadColumn_71 : decode cX4_spreadColumn 71 = .ok (.aload_n 0, 1) := by decide +kernel
theorem dX4_spreadColumn_72 : decode cX4_spreadColumn 72 = .ok (.iload 4, 2) := by decide +kernel
theorem dX4_spreadColumn_74 : decode cX4_spreadColumn 74 = .ok (.invokevirtual 85, 3) := by decide +kernel
theorem dX4_spreadColumn_77 : decode cX4_spreadColumn 77 = .ok (.iinc 3 1, 3) := by decide +kernel
theorem dX4_spreadColumn_80 : decode cX4_spreadColumn 80 = .ok (.goto (-78), 3) := by decide +kernel
theorem dX4_spreadColumn_83 : decode cX4_spreadColumn 83 = .ok (.return_, 1) := by decide +kernel
theorem dX4_refineColumn_0 : decode cX4_refineColumn 0 = .ok (.iconst 0, 1) := by decide +kernel
theorem dX4_refineColumn_1 : decode cX4_refineColumn 1 = .ok (.istore_n 3, 1) := by decide +kernel
theorem dX4_refineColumn_2 : decode cX4_refineColumn 2 = .ok (.iload_n 3, 1) := by decide +kernel
theorem dX4_refineColumn_3 : decode cX4_refineColumn 3 = .ok (.iload_n 2, 1) := by decide +kernel
theorem dX4_refineColumn_4 : decode cX4_refineColumn 4 = .ok (.if_icmp .ge 100, 3) := by decide +kernel
theorem dX4_refineColumn_7 : decode cX4_refineColumn 7 = .ok (.iload_n 1, 1) := by decide +kernel
theorem dX4_refineColumn_8 : decode cX4_refineColumn 8 = .ok (.iload_n 3, 1) := by decide +kernel
theorem dX4_refineColumn_9 : decode cX4_refineColumn 9 = .ok (.bipush 10, 2) := by decide +kernel
theorem dX4_refineColumn_11 : decode cX4_refineColumn 11 = .ok (.imul, 1) := by decide +kernel
theorem dX4_refineColumn_12 : decode cX4_refineColumn 12 = .ok (.iadd, 1) := by decide +kernel
theorem dX4_refineColumn_13 : decode cX4_refineColumn 13 = .ok (.istore 4, 2) := by decide +kernel
theorem dX4_refineColumn_15 : decode cX4_refineColumn 15 = .ok (.aload_n 0, 1) := by decide +kernel
theorem dX4_refineColumn_16 : decode cX4_refineColumn 16 = .ok (.getfield 18, 3) := by decide +kernel
theorem dX4_refineColumn_19 : decode cX4_refineColumn 19 = .ok (.iload 4, 2) := by decide +kernel
theorem dX4_refineColumn_21 : decode cX4_refineColumn 21 = .ok (.iaload, 1) := by decide +kernel
theorem dX4_refineColumn_22 : decode cX4_refineColumn 22 = .ok (.ifCond .eq 76, 3) := by decide +kernel
theorem dX4_refineColumn_25 : decode cX4_refineColumn 25 = .ok (.aload_n 0, 1) := by decide +kernel
theorem dX4_refineColumn_26 : decode cX4_refineColumn 26 = .ok (.getfield 21, 3) := by decide +kernel
theorem dX4_refineColumn_29 : decode cX4_refineColumn 29 = .ok (.iload 4, 2) := by decide +kernel
theorem dX4_refineColumn_31 : decode cX4_refineColumn 31 = .ok (.baload, 1) := by decide +kernel
theorem dX4_refineColumn_32 : decode cX4_refineColumn 32 = .ok (.ifCond .ne 66, 3) := by decide +kernel
theorem dX4_refineColumn_35 : decode cX4_refineColumn 35 = .ok (.aload_n 0, 1) := by decide +kernel
theorem dX4_refineColumn_36 : decode cX4_refineColumn 36 = .ok (.getfield 25, 3) := by decide +kernel
theorem dX4_refineColumn_39 : decode cX4_refineColumn 39 = .ok (.iload 4, 2) := by decide +kernel
theorem dX4_refineColumn_41 : decode cX4_refineColumn 41 = .ok (.baload, 1) := by decide +kernel
theorem dX4_refineColumn_42 : decode cX4_refineColumn 42 = .ok (.ifCond .eq 8, 3) := by decide +kernel
theorem dX4_refineColumn_45 : decode cX4_refineColumn 45 = .ok (.bipush 16, 2) := by decide +kernel
theorem dX4_refineColumn_47 : decode cX4_refineColumn 47 = .ok (.goto 9, 3) := by decide +kernel
theorem dX4_refineColumn_50 : decode cX4_refineColumn 50 = .ok (.aload_n 0, 1) := by decide +kernel
theorem dX4_refineColumn_51 : decode cX4_refineColumn 51 = .ok (.iload 4, 2) := by decide +kernel
theorem dX4_refineColumn_53 : decode cX4_refineColumn 53 = .ok (.invokevirtual 89, 3) := by decide +kernel
theorem dX4_refineColumn_56 : decode cX4_refineColumn 56 = .ok (.istore 5, 2) := by decide +kernel
theorem dX4_refineColumn_58 : decode cX4_refineColumn 58 = .ok (.aload_n 0, 1) := by decide +kernel
theorem dX4_refineColumn_59 : decode cX4_refineColumn 59 = .ok (.getfield 25, 3) := by decide +kernel
theorem dX4_refineColumn_62 : decode cX4_refineColumn 62 = .ok (.iload 4, 2) := by decide +kernel
theorem dX4_refineColumn_64 : decode cX4_refineColumn 64 = .ok (.iconst 1, 1) := by decide +kernel
theorem dX4_refineColumn_65 : decode cX4_refineColumn 65 = .ok (.bastore, 1) := by decide +kernel
theorem dX4_refineColumn_66 : decode cX4_refineColumn 66 = .ok (.aload_n 0, 1) := by decide +kernel
theorem dX4_refineColumn_67 : decode cX4_refineColumn 67 = .ok (.getfield 15, 3) := by decide +kernel
theorem dX4_refineColumn_70 : decode cX4_refineColumn 70 = .ok (.iload 4, 2) := by decide +kernel
theorem dX4_refineColumn_72 : decode cX4_refineColumn 72 = .ok (.dup2, 1) := by decide +kernel
theorem dX4_refineColumn_73 : decode cX4_refineColumn 73 = .ok (.iaload, 1) := by decide +kernel
theorem dX4_refineColumn_74 : decode cX4_refineColumn 74 = .ok (.aload_n 0, 1) := by decide +kernel
theorem dX4_refineColumn_75 : decode cX4_refineColumn 75 = .ok (.getfield 28, 3) := by decide +kernel
theorem dX4_refineColumn_78 : decode cX4_refineColumn 78 = .ok (.iload 5, 2) := by decide +kernel
theorem dX4_refineColumn_80 : decode cX4_refineColumn 80 = .ok (.aload_n 0, 1) := by decide +kernel
theorem dX4_refineColumn_81 : decode cX4_refineColumn 81 = .ok (.iload 4, 2) := by decide +kernel
theorem dX4_refineColumn_83 : decode cX4_refineColumn 83 = .ok (.invokevirtual 77, 3) := by decide +kernel
theorem dX4_refineColumn_86 : decode cX4_refineColumn 86 = .ok (.invokeinterface 80 3, 5) := by decide +kernel
theorem dX4_refineColumn_91 : decode cX4_refineColumn 91 = .ok (.aload_n 0, 1) := by decide +kernel
theorem dX4_refineColumn_92 : decode cX4_refineColumn 92 = .ok (.getfield 55, 3) := by decide +kernel
theorem dX4_refineColumn_95 : decode cX4_refineColumn 95 = .ok (.ishl, 1) := by decide +kernel
theorem dX4_refineColumn_96 : decode cX4_refineColumn 96 = .ok (.ior, 1) := by decide +kernel
theorem dX4_refineColumn_97 : decode cX4_refineColumn 97 = .ok (.iastore, 1) := by decide +kernel
theorem dX4_refineColumn_98 : decode cX4_refineColumn 98 = .ok (.iinc 3 1, 3) := by decide +kernel
theorem dX4_refineColumn_101 : decode cX4_refineColumn 101 = .ok (.goto (-99), 3) := by decide +kernel
theorem dX4_refineColumn_104 : decode cX4_refineColumn 104 = .ok (.return_, 1) := by decide +kernel
theorem dX4_firstRefiningContext_0 : decode cX4_firstRefiningContext 0 = .ok (.aload_n 0, 1) := by decide +kernel
theorem dX4_firstRefiningContext_1 : decode cX4_firstRefiningContext 1 = .ok (.iload_n 1, 1) := by decide +kernel
theorem dX4_firstRefiningContext_2 : decode cX4_firstRefiningContext 2 = .ok (.invokevirtual 92, 3) := by decide +kernel
theorem dX4_firstRefiningContext_5 : decode cX4_firstRefiningContext 5 = .ok (.aload_n 0, 1) := by decide +kernel
theorem dX4_firstRefiningContext_6 : decode cX4_firstRefiningContext 6 = .ok (.iload_n 1, 1) := by decide +kernel
theorem dX4_firstRefiningContext_7 : decode cX4_firstRefiningContext 7 = .ok (.invokevirtual 95, 3) := by decide +kernel
theorem dX4_firstRefiningContext_10 : decode cX4_firstRefiningContext 10 = .ok (.iadd, 1) := by decide +kernel
theorem dX4_firstRefiningContext_11 : decode cX4_firstRefiningContext 11 = .ok (.aload_n 0, 1) := by decide +kernel
theorem dX4_firstRefiningContext_12 : decode cX4_firstRefiningContext 12 = .ok (.iload_n 1, 1) := by decide +kernel
theorem dX4_firstRefiningContext_13 : decode cX4_firstRefiningContext 13 = .ok (.invokevirtual 98, 3) := by decide +kernel
theorem dX4_firstRefiningContext_16 : decode cX4_firstRefiningContext 16 = .ok (.iadd, 1) := by decide +kernel
theorem dX4_firstRefiningContext_17 : decode cX4_firstRefiningContext 17 = .ok (.ifCond .ne 7, 3) := by decide +kernel
theorem dX4_firstRefiningContext_20 : decode cX4_firstRefiningContext 20 = .ok (.iconst 1, 1) := by decide +kernel
theorem dX4_firstRefiningContext_21 : decode cX4_firstRefiningContext 21 = .ok (.goto 4, 3) := by decide +kernel
theorem dX4_firstRefiningContext_24 : decode cX4_firstRefiningContext 24 = .ok (.iconst 0, 1) := by decide +kernel
theorem dX4_firstRefiningContext_25 : decode cX4_firstRefiningContext 25 = .ok (.istore_n 2, 1) := by decide +kernel
theorem dX4_firstRefiningContext_26 : decode cX4_firstRefiningContext 26 = .ok (.iload_n 2, 1) := by decide +kernel
theorem dX4_firstRefiningContext_27 : decode cX4_firstRefiningContext 27 = .ok (.ifCond .eq 8, 3) := by decide +kernel
theorem dX4_firstRefiningContext_30 : decode cX4_firstRefiningContext 30 = .ok (.bipush 14, 2) := by decide +kernel
theorem dX4_firstRefiningContext_32 : decode cX4_firstRefiningContext 32 = .ok (.goto 5, 3) := by decide +kernel
theorem dX4_firstRefiningContext_35 : decode cX4_firstRefiningContext 35 = .ok (.bipush 15, 2) := by decide +kernel
theorem dX4_firstRefiningContext_37 : decode cX4_firstRefiningContext 37 = .ok (.ireturn, 1) := by decide +kernel
theorem dX4_cleanColumn_0 : decode cX4_cleanColumn 0 = .ok (.iconst 0, 1) := by decide +kernel
theorem dX4_cleanColumn_1 : decode cX4_cleanColumn 1 = .ok (.istore_n 3, 1) := by decide +kernel
theorem dX4_cleanColumn_2 : decode cX4_cleanColumn 2 = .ok (.iload_n 2, 1) := by decide +kernel
theorem dX4_cleanColumn_3 : decode cX4_cleanColumn 3 = .ok (.iconst 4, 1) := by decide +kernel
theorem dX4_cleanColumn_4 : decode cX4_cleanColumn 4 = .ok (.if_icmp .ne 40, 3) := by decide +kernel
theorem dX4_cleanColumn_7 : decode cX4_cleanColumn 7 = .ok (.aload_n 0, 1) := by decide +kernel
theorem dX4_cleanColumn_8 : decode cX4_cleanColumn 8 = .ok (.iload_n 1, 1) := by decide +kernel
theorem dX4_cleanColumn_9 : decode cX4_cleanColumn 9 = .ok (.invokevirtual 101, 3) := by decide +kernel
theorem dX4_cleanColumn_12 : decode cX4_cleanColumn 12 = .ok (.ifCond .eq 32, 3) := by decide +kernel
theorem dX4_cleanColumn_15 : decode cX4_cleanColumn 15 = .ok (.aload_n 0, 1) := by decide +kernel
theorem dX4_cleanColumn_16 : decode cX4_cleanColumn 16 = .ok (.iload_n 1, 1) := by decide +kernel
theorem dX4_cleanColumn_17 : decode cX4_cleanColumn 17 = .ok (.invokevirtual 105, 3) := by decide +kernel
theorem dX4_cleanColumn_20 : decode cX4_cleanColumn 20 = .ok (.istore 4, 2) := by decide +kernel
theorem dX4_cleanColumn_22 : decode cX4_cleanColumn 22 = .ok (.iload 4, 2) := by decide +kernel
theorem dX4_cleanColumn_24 : decode cX4_cleanColumn 24 = .ok (.iconst 4, 1) := by decide +kernel
theorem dX4_cleanColumn_25 : decode cX4_cleanColumn 25 = .ok (.if_icmp .ge 14, 3) := by decide +kernel
theorem dX4_cleanColumn_28 : decode cX4_cleanColumn 28 = .ok (.aload_n 0, 1) := by decide +kernel
theorem dX4_cleanColumn_29 : decode cX4_cleanColumn 29 = .ok (.iload_n 1, 1) := by decide +kernel
theorem dX4_cleanColumn_30 : decode cX4_cleanColumn 30 = .ok (.iload 4, 2) := by decide +kernel
theorem dX4_cleanColumn_32 : decode cX4_cleanColumn 32 = .ok (.bipush 10, 2) := by decide +kernel
theorem dX4_cleanColumn_34 : decode cX4_cleanColumn 34 = .ok (.imul, 1) := by decide +kernel
theorem dX4_cleanColumn_35 : decode cX4_cleanColumn 35 = .ok (.iadd, 1) := by decide +kernel
theorem dX4_cleanColumn_36 : decode cX4_cleanColumn 36 = .ok (.invokevirtual 85, 3) := by decide +kernel
theorem dX4_cleanColumn_39 : decode cX4_cleanColumn 39 = .ok (.iload 4, 2) := by decide +kernel
theorem dX4_cleanColumn_41 : decode cX4_cleanColumn 41 = .ok (.iconst 1, 1) := by decide +kernel
theorem dX4_cleanColumn_42 : decode cX4_cleanColumn 42 = .ok (.iadd, 1) := by decide +kernel
theorem dX4_cleanColumn_43 : decode cX4_cleanColumn 43 = .ok (.istore_n 3, 1) := by decide +kernel
theorem dX4_cleanColumn_44 : decode cX4_cleanColumn 44 = .ok (.iload_n 3, 1) := by decide +kernel
theorem dX4_cleanColumn_45 : decode cX4_cleanColumn 45 = .ok (.istore 4, 2) := by decide +kernel
theorem dX4_cleanColumn_47 : decode cX4_cleanColumn 47 = .ok (.iload 4, 2) := by decide +kernel
theorem dX4_cleanColumn_49 : decode cX4_cleanColumn 49 = .ok (.iload_n 2, 1) := by decide +kernel
theorem dX4_cleanColumn_50 : decode cX4_cleanColumn 50 = .ok (.if_icmp .ge 69, 3) := by decide +kernel
theorem dX4_cleanColumn_53 : decode cX4_cleanColumn 53 = .ok (.iload_n 1, 1) := by decide +kernel
theorem dX4_cleanColumn_54 : decode cX4_cleanColumn 54 = .ok (.iload 4, 2) := by decide +kernel
theorem dX4_cleanColumn_56 : decode cX4_cleanColumn 56 = .ok (.bipush 10, 2) := by decide +kernel
theorem dX4_cleanColumn_58 : decode cX4_cleanColumn 58 = .ok (.imul, 1) := by decide +kernel
theorem dX4_cleanColumn_59 : decode cX4_cleanColumn 59 = .ok (.iadd, 1) := by decide +kernel
theorem dX4_cleanColumn_60 : decode cX4_cleanColumn 60 = .ok (.istore 5, 2) := by decide +kernel
theorem dX4_cleanColumn_62 : decode cX4_cleanColumn 62 = .ok (.aload_n 0, 1) := by decide +kernel
theorem dX4_cleanColumn_63 : decode cX4_cleanColumn 63 = .ok (.getfield 18, 3) := by decide +kernel
theorem dX4_cleanColumn_66 : decode cX4_cleanColumn 66 = .ok (.iload 5, 2) := by decide +kernel
theorem dX4_cleanColumn_68 : decode cX4_cleanColumn 68 = .ok (.iaload, 1) := by decide +kernel
theorem dX4_cleanColumn_69 : decode cX4_cleanColumn 69 = .ok (.ifCond .ne 44, 3) := by decide +kernel
theorem dX4_cleanColumn_72 : decode cX4_cleanColumn 72 = .ok (.aload_n 0, 1) := by decide +kernel
theorem dX4_cleanColumn_73 : decode cX4_cleanColumn 73 = .ok (.getfield 21, 3) := by decide +kernel
theorem dX4_cleanColumn_76 : decode cX4_cleanColumn 76 = .ok (.iload 5, 2) := by decide +kernel
theorem dX4_cleanColumn_78 : decode cX4_cleanColumn 78 = .ok (.baload, 1) := by decide +kernel
theorem dX4_cleanColumn_79 : decode cX4_cleanColumn 79 = .ok (.ifCond .ne 34, 3) := by decide +kernel
theorem dX4_cleanColumn_82 : decode cX4_cleanColumn 82 = .ok (.aload_n 0, 1) := by decide +kernel
theorem dX4_cleanColumn_83 : decode cX4_cleanColumn 83 = .ok (.getfield 28, 3) := by decide +kernel
theorem dX4_cleanColumn_86 : decode cX4_cleanColumn 86 = .ok (.aload_n 0, 1) := by decide +kernel
theorem dX4_cleanColumn_87 : decode cX4_cleanColumn 87 = .ok (.iload 5, 2) := by decide +kernel
theorem dX4_cleanColumn_89 : decode cX4_cleanColumn 89 = .ok (.invokevirtual 73, 3) := by decide +kernel
theorem dX4_cleanColumn_92 : decode cX4_cleanColumn 92 = .ok (.aload_n 0, 1) := by decide +kernel
theorem dX4_cleanColumn_93 : decode cX4_cleanColumn 93 = .ok (.iload 5, 2) := by decide +kernel
theorem dX4_cleanColumn_95 : decode cX4_cleanColumn 95 = .ok (.invokevirtual 77, 3) := by decide +kernel
theorem dX4_cleanColumn_98 : decode cX4_cleanColumn 98 = .ok (.invokeinterface 80 3, 5) := by decide +kernel
theorem dX4_cleanColumn_103 : decode cX4_cleanColumn 103 = .ok (.iconst 1, 1) := by decide +kernel
theorem dX4_cleanColumn_104 : decode cX4_cleanColumn 104 = .ok (.if_icmp .ne 9, 3) := by decide +kernel
theorem dX4_cleanColumn_107 : decode cX4_cleanColumn 107 = .ok (.aload_n 0, 1) := by decide +kernel
theorem dX4_cleanColumn_108 : decode cX4_cleanColumn 108 = .ok (.iload 5, 2) := by decide +kernel
theorem dX4_cleanColumn_110 : decode cX4_cleanColumn 110 = .ok (.invokevirtual 85, 3) := by decide +kernel
theorem dX4_cleanColumn_113 : decode cX4_cleanColumn 113 = .ok (.iinc 4 1, 3) := by decide +kernel
theorem dX4_cleanColumn_116 : decode cX4_cleanColumn 116 = .ok (.goto (-69), 3) := by decide +kernel
theorem dX4_cleanColumn_119 : decode cX4_cleanColumn 119 = .ok (.return_, 1) := by decide +kernel
theorem dX4_isQuiet_0 : decode cX4_isQuiet 0 = .ok (.iconst 0, 1) := by decide +kernel
theorem dX4_isQuiet_1 : decode cX4_isQuiet 1 = .ok (.istore_n 2, 1) := by decide +kernel
theorem dX4_isQuiet_2 : decode cX4_isQuiet 2 = .ok (.iload_n 2, 1) := by decide +kernel
theorem dX4_isQuiet_3 : decode cX4_isQuiet 3 = .ok (.iconst 4, 1) := by decide +kernel
theorem dX4_isQuiet_4 : decode cX4_isQuiet 4 = .ok (.if_icmp .ge 44, 3) := by decide +kernel
theorem dX4_isQuiet_7 : decode cX4_isQuiet 7 = .ok (.iload_n 1, 1) := by decide +kernel
theorem dX4_isQuiet_8 : decode cX4_isQuiet 8 = .ok (.iload_n 2, 1) := by decide +kernel
theorem dX4_isQuiet_9 : decode cX4_isQuiet 9 = .ok (.bipush 10, 2) := by decide +kernel
theorem dX4_isQuiet_11 : decode cX4_isQuiet 11 = .ok (.imul, 1) := by decide +kernel
theorem dX4_isQuiet_12 : decode cX4_isQuiet 12 = .ok (.iadd, 1) := by decide +kernel
theorem dX4_isQuiet_13 : decode cX4_isQuiet 13 = .ok (.istore_n 3, 1) := by decide +kernel
theorem dX4_isQuiet_14 : decode cX4_isQuiet 14 = .ok (.aload_n 0, 1) := by decide +kernel
theorem dX4_isQuiet_15 : decode cX4_isQuiet 15 = .ok (.getfield 18, 3) := by decide +kernel
theorem dX4_isQuiet_18 : decode cX4_isQuiet 18 = .ok (.iload_n 3, 1) := by decide +kernel
theorem dX4_isQuiet_19 : decode cX4_isQuiet 19 = .ok (.iaload, 1) := by decide +kernel
theorem dX4_isQuiet_20 : decode cX4_isQuiet 20 = .ok (.ifCond .ne 20, 3) := by decide +kernel
theorem dX4_isQuiet_23 : decode cX4_isQuiet 23 = .ok (.aload_n 0, 1) := by decide +kernel
theorem dX4_isQuiet_24 : decode cX4_isQuiet 24 = .ok (.getfield 21, 3) := by decide +kernel
theorem dX4_isQuiet_27 : decode cX4_isQuiet 27 = .ok (.iload_n 3, 1) := by decide +kernel
theorem dX4_isQuiet_28 : decode cX4_isQuiet 28 = .ok (.baload, 1) := by decide +kernel
theorem dX4_isQuiet_29 : decode cX4_isQuiet 29 = .ok (.ifCond .ne 11, 3) := by decide +kernel
theorem dX4_isQuiet_32 : decode cX4_isQuiet 32 = .ok (.aload_n 0, 1) := by decide +kernel
theorem dX4_isQuiet_33 : decode cX4_isQuiet 33 = .ok (.iload_n 3, 1) := by decide +kernel
theorem dX4_isQuiet_34 : decode cX4_isQuiet 34 = .ok (.invokevirtual 73, 3) := by decide +kernel
theorem dX4_isQuiet_37 : decode cX4_isQuiet 37 = .ok (.ifCond .eq 5, 3) := by decide +kernel
theorem dX4_isQuiet_40 : decode cX4_isQuiet 40 = .ok (.iconst 0, 1) := by decide +kernel
theorem dX4_isQuiet_41 : decode cX4_isQuiet 41 = .ok (.ireturn, 1) := by decide +kernel
theorem dX4_isQuiet_42 : decode cX4_isQuiet 42 = .ok (.iinc 2 1, 3) := by decide +kernel
theorem dX4_isQuiet_45 : decode cX4_isQuiet 45 = .ok (.goto (-43), 3) := by decide +kernel
theorem dX4_isQuiet_48 : decode cX4_isQuiet 48 = .ok (.iconst 1, 1) := by decide +kernel
theorem dX4_isQuiet_49 : decode cX4_isQuiet 49 = .ok (.ireturn, 1) := by decide +kernel
theorem dX4_tellQuiet_0 : decode cX4_tellQuiet 0 = .ok (.iconst 0, 1) := by decide +kernel
theorem dX4_tellQuiet_1 : decode cX4_tellQuiet 1 = .ok (.istore_n 2, 1) := by decide +kernel
theorem dX4_tellQuiet_2 : decode cX4_tellQuiet 2 = .ok (.iload_n 2, 1) := by decide +kernel
theorem dX4_tellQuiet_3 : decode cX4_tellQuiet 3 = .ok (.iconst 4, 1) := by decide +kernel
theorem dX4_tellQuiet_4 : decode cX4_tellQuiet 4 = .ok (.if_icmp .ge 22, 3) := by decide +kernel
theorem dX4_tellQuiet_7 : decode cX4_tellQuiet 7 = .ok (.aload_n 0, 1) := by decide +kernel
theorem dX4_tellQuiet_8 : decode cX4_tellQuiet 8 = .ok (.iload_n 1, 1) := by decide +kernel
theorem dX4_tellQuiet_9 : decode cX4_tellQuiet 9 = .ok (.iload_n 2, 1) := by decide +kernel
theorem dX4_tellQuiet_10 : decode cX4_tellQuiet 10 = .ok (.bipush 10, 2) := by decide +kernel
theorem dX4_tellQuiet_12 : decode cX4_tellQuiet 12 = .ok (.imul, 1) := by decide +kernel
theorem dX4_tellQuiet_13 : decode cX4_tellQuiet 13 = .ok (.iadd, 1) := by decide +kernel
theorem dX4_tellQuiet_14 : decode cX4_tellQuiet 14 = .ok (.invokevirtual 77, 3) := by decide +kernel
theorem dX4_tellQuiet_17 : decode cX4_tellQuiet 17 = .ok (.ifCond .ne 9, 3) := by decide +kernel
theorem dX4_tellQuiet_20 : decode cX4_tellQuiet 20 = .ok (.iinc 2 1, 3) := by decide +kernel
theorem dX4_tellQuiet_23 : decode cX4_tellQuiet 23 = .ok (.goto (-21), 3) := by decide +kernel
theorem dX4_tellQuiet_26 : decode cX4_tellQuiet 26 = .ok (.aload_n 0, 1) := by decide +kernel
theorem dX4_tellQuiet_27 : decode cX4_tellQuiet 27 = .ok (.getfield 28, 3) := by decide +kernel
theorem dX4_tellQuiet_30 : decode cX4_tellQuiet 30 = .ok (.bipush 17, 2) := by decide +kernel
theorem dX4_tellQuiet_32 : decode cX4_tellQuiet 32 = .ok (.iload_n 2, 1) := by decide +kernel
theorem dX4_tellQuiet_33 : decode cX4_tellQuiet 33 = .ok (.iconst 4, 1) := by decide +kernel
theorem dX4_tellQuiet_34 : decode cX4_tellQuiet 34 = .ok (.if_icmp .ge 7, 3) := by decide +kernel
theorem dX4_tellQuiet_37 : decode cX4_tellQuiet 37 = .ok (.iconst 1, 1) := by decide +kernel
theorem dX4_tellQuiet_38 : decode cX4_tellQuiet 38 = .ok (.goto 4, 3) := by decide +kernel
theorem dX4_tellQuiet_41 : decode cX4_tellQuiet 41 = .ok (.iconst 0, 1) := by decide +kernel
theorem dX4_tellQuiet_42 : decode cX4_tellQuiet 42 = .ok (.invokeinterface 80 3, 5) := by decide +kernel
theorem dX4_tellQuiet_47 : decode cX4_tellQuiet 47 = .ok (.ifCond .ne 5, 3) := by decide +kernel
theorem dX4_tellQuiet_50 : decode cX4_tellQuiet 50 = .ok (.iconst 4, 1) := by decide +kernel
theorem dX4_tellQuiet_51 : decode cX4_tellQuiet 51 = .ok (.ireturn, 1) := by decide +kernel
theorem dX4_tellQuiet_52 : decode cX4_tellQuiet 52 = .ok (.aload_n 0, 1) := by decide +kernel
theorem dX4_tellQuiet_53 : decode cX4_tellQuiet 53 = .ok (.getfield 28, 3) := by decide +kernel
theorem dX4_tellQuiet_56 : decode cX4_tellQuiet 56 = .ok (.bipush 18, 2) := by decide +kernel
theorem dX4_tellQuiet_58 : decode cX4_tellQuiet 58 = .ok (.iload_n 2, 1) := by decide +kernel
theorem dX4_tellQuiet_59 : decode cX4_tellQuiet 59 = .ok (.iconst 1, 1) := by decide +kernel
theorem dX4_tellQuiet_60 : decode cX4_tellQuiet 60 = .ok (.ishr, 1) := by decide +kernel
theorem dX4_tellQuiet_61 : decode cX4_tellQuiet 61 = .ok (.iconst 1, 1) := by decide +kernel
theorem dX4_tellQuiet_62 : decode cX4_tellQuiet 62 = .ok (.iand, 1) := by decide +kernel
theorem dX4_tellQuiet_63 : decode cX4_tellQuiet 63 = .ok (.invokeinterface 80 3, 5) := by decide +kernel
theorem dX4_tellQuiet_68 : decode cX4_tellQuiet 68 = .ok (.istore_n 3, 1) := by decide +kernel
theorem dX4_tellQuiet_69 : decode cX4_tellQuiet 69 = .ok (.aload_n 0, 1) := by decide +kernel
theorem dX4_tellQuiet_70 : decode cX4_tellQuiet 70 = .ok (.getfield 28, 3) := by decide +kernel
theorem dX4_tellQuiet_73 : decode cX4_tellQuiet 73 = .ok (.bipush 18, 2) := by decide +kernel
theorem dX4_tellQuiet_75 : decode cX4_tellQuiet 75 = .ok (.iload_n 2, 1) := by decide +kernel
theorem dX4_tellQuiet_76 : decode cX4_tellQuiet 76 = .ok (.iconst 1, 1) := by decide +kernel
theorem dX4_tellQuiet_77 : decode cX4_tellQuiet 77 = .ok (.iand, 1) := by decide +kernel
theorem dX4_tellQuiet_78 : decode cX4_tellQuiet 78 = .ok (.invokeinterface 80 3, 5) := by decide +kernel
theorem dX4_tellQuiet_83 : decode cX4_tellQuiet 83 = .ok (.istore 4, 2) := by decide +kernel
theorem dX4_tellQuiet_85 : decode cX4_tellQuiet 85 = .ok (.iconst 2, 1) := by decide +kernel
theorem dX4_tellQuiet_86 : decode cX4_tellQuiet 86 = .ok (.iload_n 3, 1) := by decide +kernel
theorem dX4_tellQuiet_87 : decode cX4_tellQuiet 87 = .ok (.imul, 1) := by decide +kernel
theorem dX4_tellQuiet_88 : decode cX4_tellQuiet 88 = .ok (.iload 4, 2) := by decide +kernel
theorem dX4_tellQuiet_90 : decode cX4_tellQuiet 90 = .ok (.iadd, 1) := by decide +kernel
theorem dX4_tellQuiet_91 : decode cX4_tellQuiet 91 = .ok (.ireturn, 1) := by decide +kernel
theorem dX4_wake_0 : decode cX4_wake 0 = .ok (.aload_n 0, 1) := by decide +kernel
theorem dX4_wake_1 : decode cX4_wake 1 = .ok (.getfield 18, 3) := by decide +kernel
theorem dX4_wake_4 : decode cX4_wake 4 = .ok (.iload_n 1, 1) := by decide +kernel
theorem dX4_wake_5 : decode cX4_wake 5 = .ok (.iconst 1, 1) := by decide +kernel
theorem dX4_wake_6 : decode cX4_wake 6 = .ok (.isub, 1) := by decide +kernel
theorem dX4_wake_7 : decode cX4_wake 7 = .ok (.iaload, 1) := by decide +kernel
theorem dX4_wake_8 : decode cX4_wake 8 = .ok (.aload_n 0, 1) := by decide +kernel
theorem dX4_wake_9 : decode cX4_wake 9 = .ok (.getfield 18, 3) := by decide +kernel
theorem dX4_wake_12 : decode cX4_wake 12 = .ok (.iload_n 1, 1) := by decide +kernel
theorem dX4_wake_13 : decode cX4_wake 13 = .ok (.iconst 1, 1) := by decide +kernel
theorem dX4_wake_14 : decode cX4_wake 14 = .ok (.iadd, 1) := by decide +kernel
theorem dX4_wake_15 : decode cX4_wake 15 = .ok (.iaload, 1) := by decide +kernel
theorem dX4_wake_16 : decode cX4_wake 16 = .ok (.iadd, 1) := by decide +kernel
theorem dX4_wake_17 : decode cX4_wake 17 = .ok (.invokestatic 108, 3) := by decide +kernel
theorem dX4_wake_20 : decode cX4_wake 20 = .ok (.istore_n 2, 1) := by decide +kernel
theorem dX4_wake_21 : decode cX4_wake 21 = .ok (.aload_n 0, 1) := by decide +kernel
theorem dX4_wake_22 : decode cX4_wake 22 = .ok (.getfield 18, 3) := by decide +kernel
theorem dX4_wake_25 : decode cX4_wake 25 = .ok (.iload_n 1, 1) := by decide +kernel
theorem dX4_wake_26 : decode cX4_wake 26 = .ok (.bipush 10, 2) := by decide +kernel
theorem dX4_wake_28 : decode cX4_wake 28 = .ok (.isub, 1) := by decide +kernel
theorem dX4_wake_29 : decode cX4_wake 29 = .ok (.iaload, 1) := by decide +kernel
theorem dX4_wake_30 : decode cX4_wake 30 = .ok (.aload_n 0, 1) := by decide +kernel
theorem dX4_wake_31 : decode cX4_wake 31 = .ok (.getfield 18, 3) := by decide +kernel
theorem dX4_wake_34 : decode cX4_wake 34 = .ok (.iload_n 1, 1) := by decide +kernel
theorem dX4_wake_35 : decode cX4_wake 35 = .ok (.bipush 10, 2) := by decide +kernel
theorem dX4_wake_37 : decode cX4_wake 37 = .ok (.iadd, 1) := by decide +kernel
theorem dX4_wake_38 : decode cX4_wake 38 = .ok (.iaload, 1) := by decide +kernel
theorem dX4_wake_39 : decode cX4_wake 39 = .ok (.iadd, 1) := by decide +kernel
theorem dX4_wake_40 : decode cX4_wake 40 = .ok (.invokestatic 108, 3) := by decide +kernel
theorem dX4_wake_43 : decode cX4_wake 43 = .ok (.istore_n 3, 1) := by decide +kernel
theorem dX4_wake_44 : decode cX4_wake 44 = .ok (.iload_n 2, 1) := by decide +kernel
theorem dX4_wake_45 : decode cX4_wake 45 = .ok (.ifCond .lt 11, 3) := by decide +kernel
theorem dX4_wake_48 : decode cX4_wake 48 = .ok (.iload_n 2, 1) := by decide +kernel
theorem dX4_wake_49 : decode cX4_wake 49 = .ok (.ifCond .ne 11, 3) := by decide +kernel
theorem dX4_wake_52 : decode cX4_wake 52 = .ok (.iload_n 3, 1) := by decide +kernel
theorem dX4_wake_53 : decode cX4_wake 53 = .ok (.ifCond .ge 7, 3) := by decide +kernel
theorem dX4_wake_56 : decode cX4_wake 56 = .ok (.iconst 1, 1) := by decide +kernel
theorem dX4_wake_57 : decode cX4_wake 57 = .ok (.goto 4, 3) := by decide +kernel
theorem dX4_wake_60 : decode cX4_wake 60 = .ok (.iconst 0, 1) := by decide +kernel
theorem dX4_wake_61 : decode cX4_wake 61 = .ok (.istore 4, 2) := by decide +kernel
theorem dX4_wake_63 : decode cX4_wake 63 = .ok (.iload 4, 2) := by decide +kernel
theorem dX4_wake_65 : decode cX4_wake 65 = .ok (.iconst 1, 1) := by decide +kernel
theorem dX4_wake_66 : decode cX4_wake 66 = .ok (.if_icmp .ne 9, 3) := by decide +kernel
theorem dX4_wake_69 : decode cX4_wake 69 = .ok (.iload_n 2, 1) := by decide +kernel
theorem dX4_wake_70 : decode cX4_wake 70 = .ok (.ineg, 1) := by decide +kernel
theorem dX4_wake_71 : decode cX4_wake 71 = .ok (.istore_n 2, 1) := by decide +kernel
theorem dX4_wake_72 : decode cX4_wake 72 = .ok (.iload_n 3, 1) := by decide +kernel
theorem dX4_wake_73 : decode cX4_wake 73 = .ok (.ineg, 1) := by decide +kernel
theorem dX4_wake_74 : decode cX4_wake 74 = .ok (.istore_n 3, 1) := by decide +kernel
theorem dX4_wake_75 : decode cX4_wake 75 = .ok (.aload_n 0, 1) := by decide +kernel
theorem dX4_wake_76 : decode cX4_wake 76 = .ok (.getfield 11, 3) := by decide +kernel
theorem dX4_wake_79 : decode cX4_wake 79 = .ok (.iload_n 1, 1) := by decide +kernel
theorem dX4_wake_80 : decode cX4_wake 80 = .ok (.iaload, 1) := by decide +kernel
theorem dX4_wake_81 : decode cX4_wake 81 = .ok (.ifCond .ge 7, 3) := by decide +kernel
theorem dX4_wake_84 : decode cX4_wake 84 = .ok (.iconst 1, 1) := by decide +kernel
theorem dX4_wake_85 : decode cX4_wake 85 = .ok (.goto 4, 3) := by decide +kernel
theorem dX4_wake_88 : decode cX4_wake 88 = .ok (.iconst 0, 1) := by decide +kernel
theorem dX4_wake_89 : decode cX4_wake 89 = .ok (.istore 5, 2) := by decide +kernel
theorem dX4_wake_91 : decode cX4_wake 91 = .ok (.aload_n 0, 1) := by decide +kernel
theorem dX4_wake_92 : decode cX4_wake 92 = .ok (.getfield 28, 3) := by decide +kernel
theorem dX4_wake_95 : decode cX4_wake 95 = .ok (.bipush 9, 2) := by decide +kernel
theorem dX4_wake_97 : decode cX4_wake 97 = .ok (.iconst 3, 1) := by decide +kernel
theorem dX4_wake_98 : decode cX4_wake 98 = .ok (.iload_n 2, 1) := by decide +kernel
theorem dX4_wake_99 : decode cX4_wake 99 = .ok (.imul, 1) := by decide +kernel
theorem dX4_wake_100 : decode cX4_wake 100 = .ok (.iadd, 1) := by decide +kernel
theorem dX4_wake_101 : decode cX4_wake 101 = .ok (.iload_n 3, 1) := by decide +kernel
theorem dX4_wake_102 : decode cX4_wake 102 = .ok (.iadd, 1) := by decide +kernel
theorem dX4_wake_103 : decode cX4_wake 103 = .ok (.iload 5, 2) := by decide +kernel
theorem dX4_wake_105 : decode cX4_wake 105 = .ok (.iload 4, 2) := by decide +kernel
theorem dX4_wake_107 : decode cX4_wake 107 = .ok (.ixor, 1) := by decide +kernel
theorem dX4_wake_108 : decode cX4_wake 108 = .ok (.invokeinterface 80 3, 5) := by decide +kernel
theorem dX4_wake_113 : decode cX4_wake 113 = .ok (.iload 4, 2) := by decide +kernel
theorem dX4_wake_115 : decode cX4_wake 115 = .ok (.ixor, 1) := by decide +kernel
theorem dX4_wake_116 : decode cX4_wake 116 = .ok (.istore 6, 2) := by decide +kernel
theorem dX4_wake_118 : decode cX4_wake 118 = .ok (.aload_n 0, 1) := by decide +kernel
theorem dX4_wake_119 : decode cX4_wake 119 = .ok (.getfield 18, 3) := by decide +kernel
theorem dX4_wake_122 : decode cX4_wake 122 = .ok (.iload_n 1, 1) := by decide +kernel
theorem dX4_wake_123 : decode cX4_wake 123 = .ok (.iload 6, 2) := by decide +kernel
theorem dX4_wake_125 : decode cX4_wake 125 = .ok (.iconst 1, 1) := by decide +kernel
theorem dX4_wake_126 : decode cX4_wake 126 = .ok (.if_icmp .ne 7, 3) := by decide +kernel
theorem dX4_wake_129 : decode cX4_wake 129 = .ok (.iconst (-1), 1) := by decide +kernel
theorem dX4_wake_130 : decode cX4_wake 130 = .ok (.goto 4, 3) := by decide +kernel
theorem dX4_wake_133 : decode cX4_wake 133 = .ok (.iconst 1, 1) := by decide +kernel
theorem dX4_wake_134 : decode cX4_wake 134 = .ok (.iastore, 1) := by decide +kernel
theorem dX4_wake_135 : decode cX4_wake 135 = .ok (.aload_n 0, 1) := by decide +kernel
theorem dX4_wake_136 : decode cX4_wake 136 = .ok (.getfield 15, 3) := by decide +kernel
theorem dX4_wake_139 : decode cX4_wake 139 = .ok (.iload_n 1, 1) := by decide +kernel
theorem dX4_wake_140 : decode cX4_wake 140 = .ok (.dup2, 1) := by decide +kernel
theorem dX4_wake_141 : decode cX4_wake 141 = .ok (.iaload, 1) := by decide +kernel
theorem dX4_wake_142 : decode cX4_wake 142 = .ok (.iconst 1, 1) := by decide +kernel
theorem dX4_wake_143 : decode cX4_wake 143 = .ok (.aload_n 0, 1) := by decide +kernel
theorem dX4_wake_144 : decode cX4_wake 144 = .ok (.getfield 55, 3) := by decide +kernel
theorem dX4_wake_147 : decode cX4_wake 147 = .ok (.ishl, 1) := by decide +kernel
theorem dX4_wake_148 : decode cX4_wake 148 = .ok (.ior, 1) := by decide +kernel
theorem dX4_wake_149 : decode cX4_wake 149 = .ok (.iastore, 1) := by decide +kernel
theorem dX4_wake_150 : decode cX4_wake 150 = .ok (.return_, 1) := by decide +kernel
theorem dX4_cut_0 : decode cX4_cut 0 = .ok (.iconst (-1), 1) := by decide +kernel
theorem dX4_cut_1 : decode cX4_cut 1 = .ok (.iconst 1, 1) := by decide +kernel
theorem dX4_cut_2 : decode cX4_cut 2 = .ok (.iload_n 0, 1) := by decide +kernel
theorem dX4_cut_3 : decode cX4_cut 3 = .ok (.invokestatic 58, 3) := by decide +kernel
theorem dX4_cut_6 : decode cX4_cut 6 = .ok (.invokestatic 111, 3) := by decide +kernel
theorem dX4_cut_9 : decode cX4_cut 9 = .ok (.ireturn, 1) := by decide +kernel
theorem dX4_meantBit_0 : decode cX4_meantBit 0 = .ok (.aload_n 0, 1) := by decide +kernel
theorem dX4_meantBit_1 : decode cX4_meantBit 1 = .ok (.getfield 11, 3) := by decide +kernel
theorem dX4_meantBit_4 : decode cX4_meantBit 4 = .ok (.iload_n 1, 1) := by decide +kernel
theorem dX4_meantBit_5 : decode cX4_meantBit 5 = .ok (.iaload, 1) := by decide +kernel
theorem dX4_meantBit_6 : decode cX4_meantBit 6 = .ok (.invokestatic 114, 3) := by decide +kernel
theorem dX4_meantBit_9 : decode cX4_meantBit 9 = .ok (.aload_n 0, 1) := by decide +kernel
theorem dX4_meantBit_10 : decode cX4_meantBit 10 = .ok (.getfield 55, 3) := by decide +kernel
theorem dX4_meantBit_13 : decode cX4_meantBit 13 = .ok (.ishr, 1) := by decide +kernel
theorem dX4_meantBit_14 : decode cX4_meantBit 14 = .ok (.iconst 1, 1) := by decide +kernel
theorem dX4_meantBit_15 : decode cX4_meantBit 15 = .ok (.iand, 1) := by decide +kernel
theorem dX4_meantBit_16 : decode cX4_meantBit 16 = .ok (.ireturn, 1) := by decide +kernel
theorem dX4_inRow_0 : decode cX4_inRow 0 = .ok (.aload_n 0, 1) := by decide +kernel
theorem dX4_inRow_1 : decode cX4_inRow 1 = .ok (.getfield 18, 3) := by decide +kernel
theorem dX4_inRow_4 : decode cX4_inRow 4 = .ok (.iload_n 1, 1) := by decide +kernel
theorem dX4_inRow_5 : decode cX4_inRow 5 = .ok (.iconst 1, 1) := by decide +kernel
theorem dX4_inRow_6 : decode cX4_inRow 6 = .ok (.isub, 1) := by decide +kernel
theorem dX4_inRow_7 : decode cX4_inRow 7 = .ok (.iaload, 1) := by decide +kernel
theorem dX4_inRow_8 : decode cX4_inRow 8 = .ok (.iconst 1, 1) := by decide +kernel
theorem dX4_inRow_9 : decode cX4_inRow 9 = .ok (.iand, 1) := by decide +kernel
theorem dX4_inRow_10 : decode cX4_inRow 10 = .ok (.aload_n 0, 1) := by decide +kernel
theorem dX4_inRow_11 : decode cX4_inRow 11 = .ok (.getfield 18, 3) := by decide +kernel
theorem dX4_inRow_14 : decode cX4_inRow 14 = .ok (.iload_n 1, 1) := by decide +kernel
theorem dX4_inRow_15 : decode cX4_inRow 15 = .ok (.iconst 1, 1) := by decide +kernel
theorem dX4_inRow_16 : decode cX4_inRow 16 = .ok (.iadd, 1) := by decide +kernel
theorem dX4_inRow_17 : decode cX4_inRow 17 = .ok (.iaload, 1) := by decide +kernel
theorem dX4_inRow_18 : decode cX4_inRow 18 = .ok (.iconst 1, 1) := by decide +kernel
theorem dX4_inRow_19 : decode cX4_inRow 19 = .ok (.iand, 1) := by decide +kernel
theorem dX4_inRow_20 : decode cX4_inRow 20 = .ok (.iadd, 1) := by decide +kernel
theorem dX4_inRow_21 : decode cX4_inRow 21 = .ok (.ireturn, 1) := by decide +kernel
theorem dX4_inColumn_0 : decode cX4_inColumn 0 = .ok (.aload_n 0, 1) := by decide +kernel
theorem dX4_inColumn_1 : decode cX4_inColumn 1 = .ok (.getfield 18, 3) := by decide +kernel
theorem dX4_inColumn_4 : decode cX4_inColumn 4 = .ok (.iload_n 1, 1) := by decide +kernel
theorem dX4_inColumn_5 : decode cX4_inColumn 5 = .ok (.bipush 10, 2) := by decide +kernel
theorem dX4_inColumn_7 : decode cX4_inColumn 7 = .ok (.isub, 1) := by decide +kernel
theorem dX4_inColumn_8 : decode cX4_inColumn 8 = .ok (.iaload, 1) := by decide +kernel
theorem dX4_inColumn_9 : decode cX4_inColumn 9 = .ok (.iconst 1, 1) := by decide +kernel
theorem dX4_inColumn_10 : decode cX4_inColumn 10 = .ok (.iand, 1) := by decide +kernel
theorem dX4_inColumn_11 : decode cX4_inColumn 11 = .ok (.aload_n 0, 1) := by decide +kernel
theorem dX4_inColumn_12 : decode cX4_inColumn 12 = .ok (.getfield 18, 3) := by decide +kernel
theorem dX4_inColumn_15 : decode cX4_inColumn 15 = .ok (.iload_n 1, 1) := by decide +kernel
theorem dX4_inColumn_16 : decode cX4_inColumn 16 = .ok (.bipush 10, 2) := by decide +kernel
theorem dX4_inColumn_18 : decode cX4_inColumn 18 = .ok (.iadd, 1) := by decide +kernel
theorem dX4_inColumn_19 : decode cX4_inColumn 19 = .ok (.iaload, 1) := by decide +kernel
theorem dX4_inColumn_20 : decode cX4_inColumn 20 = .ok (.iconst 1, 1) := by decide +kernel
theorem dX4_inColumn_21 : decode cX4_inColumn 21 = .ok (.iand, 1) := by decide +kernel
theorem dX4_inColumn_22 : decode cX4_inColumn 22 = .ok (.iadd, 1) := by decide +kernel
theorem dX4_inColumn_23 : decode cX4_inColumn 23 = .ok (.ireturn, 1) := by decide +kernel
theorem dX4_acrossCorners_0 : decode cX4_acrossCorners 0 = .ok (.aload_n 0, 1) := by decide +kernel
theorem dX4_acrossCorners_1 : decode cX4_acrossCorners 1 = .ok (.getfield 18, 3) := by decide +kernel
theorem dX4_acrossCorners_4 : decode cX4_acrossCorners 4 = .ok (.iload_n 1, 1) := by decide +kernel
theorem dX4_acrossCorners_5 : decode cX4_acrossCorners 5 = .ok (.bipush 10, 2) := by decide +kernel
theorem dX4_acrossCorners_7 : decode cX4_acrossCorners 7 = .ok (.isub, 1) := by decide +kernel
theorem dX4_acrossCorners_8 : decode cX4_acrossCorners 8 = .ok (.iconst 1, 1) := by decide +kernel
theorem dX4_acrossCorners_9 : decode cX4_acrossCorners 9 = .ok (.isub, 1) := by decide +kernel
theorem dX4_acrossCorners_10 : decode cX4_acrossCorners 10 = .ok (.iaload, 1) := by decide +kernel
theorem dX4_acrossCorners_11 : decode cX4_acrossCorners 11 = .ok (.iconst 1, 1) := by decide +kernel
theorem dX4_acrossCorners_12 : decode cX4_acrossCorners 12 = .ok (.iand, 1) := by decide +kernel
theorem dX4_acrossCorners_13 : decode cX4_acrossCorners 13 = .ok (.aload_n 0, 1) := by decide +kernel
theorem dX4_acrossCorners_14 : decode cX4_acrossCorners 14 = .ok (.getfield 18, 3) := by decide +kernel
theorem dX4_acrossCorners_17 : decode cX4_acrossCorners 17 = .ok (.iload_n 1, 1) := by decide +kernel
theorem dX4_acrossCorners_18 : decode cX4_acrossCorners 18 = .ok (.bipush 10, 2) := by decide +kernel
theorem dX4_acrossCorners_20 : decode cX4_acrossCorners 20 = .ok (.isub, 1) := by decide +kernel
theorem dX4_acrossCorners_21 : decode cX4_acrossCorners 21 = .ok (.iconst 1, 1) := by decide +kernel
theorem dX4_acrossCorners_22 : decode cX4_acrossCorners 22 = .ok (.iadd, 1) := by decide +kernel
theorem dX4_acrossCorners_23 : decode cX4_acrossCorners 23 = .ok (.iaload, 1) := by decide +kernel
theorem dX4_acrossCorners_24 : decode cX4_acrossCorners 24 = .ok (.iconst 1, 1) := by decide +kernel
theorem dX4_acrossCorners_25 : decode cX4_acrossCorners 25 = .ok (.iand, 1) := by decide +kernel
theorem dX4_acrossCorners_26 : decode cX4_acrossCorners 26 = .ok (.iadd, 1) := by decide +kernel
theorem dX4_acrossCorners_27 : decode cX4_acrossCorners 27 = .ok (.aload_n 0, 1) := by decide +kernel
theorem dX4_acrossCorners_28 : decode cX4_acrossCorners 28 = .ok (.getfield 18, 3) := by decide +kernel
theorem dX4_acrossCorners_31 : decode cX4_acrossCorners 31 = .ok (.iload_n 1, 1) := by decide +kernel
theorem dX4_acrossCorners_32 : decode cX4_acrossCorners 32 = .ok (.bipush 10, 2) := by decide +kernel
theorem dX4_acrossCorners_34 : decode cX4_acrossCorners 34 = .ok (.iadd, 1) := by decide +kernel
theorem dX4_acrossCorners_35 : decode cX4_acrossCorners 35 = .ok (.iconst 1, 1) := by decide +kernel
theorem dX4_acrossCorners_36 : decode cX4_acrossCorners 36 = .ok (.isub, 1) := by decide +kernel
theorem dX4_acrossCorners_37 : decode cX4_acrossCorners 37 = .ok (.iaload, 1) := by decide +kernel
theorem dX4_acrossCorners_38 : decode cX4_acrossCorners 38 = .ok (.iconst 1, 1) := by decide +kernel
theorem dX4_acrossCorners_39 : decode cX4_acrossCorners 39 = .ok (.iand, 1) := by decide +kernel
theorem dX4_acrossCorners_40 : decode cX4_acrossCorners 40 = .ok (.iadd, 1) := by decide +kernel
theorem dX4_acrossCorners_41 : decode cX4_acrossCorners 41 = .ok (.aload_n 0, 1) := by decide +kernel
theorem dX4_acrossCorners_42 : decode cX4_acrossCorners 42 = .ok (.getfield 18, 3) := by decide +kernel
theorem dX4_acrossCorners_45 : decode cX4_acrossCorners 45 = .ok (.iload_n 1, 1) := by decide +kernel
theorem dX4_acrossCorners_46 : decode cX4_acrossCorners 46 = .ok (.bipush 10, 2) := by decide +kernel
theorem dX4_acrossCorners_48 : decode cX4_acrossCorners 48 = .ok (.iadd, 1) := by decide +kernel
theorem dX4_acrossCorners_49 : decode cX4_acrossCorners 49 = .ok (.iconst 1, 1) := by decide +kernel
theorem dX4_acrossCorners_50 : decode cX4_acrossCorners 50 = .ok (.iadd, 1) := by decide +kernel
theorem dX4_acrossCorners_51 : decode cX4_acrossCorners 51 = .ok (.iaload, 1) := by decide +kernel
theorem dX4_acrossCorners_52 : decode cX4_acrossCorners 52 = .ok (.iconst 1, 1) := by decide +kernel
theorem dX4_acrossCorners_53 : decode cX4_acrossCorners 53 = .ok (.iand, 1) := by decide +kernel
theorem dX4_acrossCorners_54 : decode cX4_acrossCorners 54 = .ok (.iadd, 1) := by decide +kernel
theorem dX4_acrossCorners_55 : decode cX4_acrossCorners 55 = .ok (.ireturn, 1) := by decide +kernel
theorem dX4_contextOf_0 : decode cX4_contextOf 0 = .ok (.aload_n 0, 1) := by decide +kernel
theorem dX4_contextOf_1 : decode cX4_contextOf 1 = .ok (.iload_n 1, 1) := by decide +kernel
theorem dX4_contextOf_2 : decode cX4_contextOf 2 = .ok (.invokevirtual 92, 3) := by decide +kernel
theorem dX4_contextOf_5 : decode cX4_contextOf 5 = .ok (.istore_n 2, 1) := by decide +kernel
theorem dX4_contextOf_6 : decode cX4_contextOf 6 = .ok (.aload_n 0, 1) := by decide +kernel
theorem dX4_contextOf_7 : decode cX4_contextOf 7 = .ok (.iload_n 1, 1) := by decide +kernel
theorem dX4_contextOf_8 : decode cX4_contextOf 8 = .ok (.invokevirtual 95, 3) := by decide +kernel
theorem dX4_contextOf_11 : decode cX4_contextOf 11 = .ok (.istore_n 3, 1) := by decide +kernel
theorem dX4_contextOf_12 : decode cX4_contextOf 12 = .ok (.aload_n 0, 1) := by decide +kernel
theorem dX4_contextOf_13 : decode cX4_contextOf 13 = .ok (.iload_n 1, 1) := by decide +kernel
theorem dX4_contextOf_14 : decode cX4_contextOf 14 = .ok (.invokevirtual 98, 3) := by decide +kernel
theorem dX4_contextOf_17 : decode cX4_contextOf 17 = .ok (.istore 4, 2) := by decide +kernel
theorem dX4_contextOf_19 : decode cX4_contextOf 19 = .ok (.aload_n 0, 1) := by decide +kernel
theorem dX4_contextOf_20 : decode cX4_contextOf 20 = .ok (.getfield 39, 3) := by decide +kernel
theorem dX4_contextOf_23 : decode cX4_contextOf 23 = .ok (.iconst 2, 1) := by decide +kernel
theorem dX4_contextOf_24 : decode cX4_contextOf 24 = .ok (.if_icmp .ne 12, 3) := by decide +kernel
theorem dX4_contextOf_27 : decode cX4_contextOf 27 = .ok (.iload_n 2, 1) := by decide +kernel
theorem dX4_contextOf_28 : decode cX4_contextOf 28 = .ok (.iload_n 3, 1) := by decide +kernel
theorem dX4_contextOf_29 : decode cX4_contextOf 29 = .ok (.iadd, 1) := by decide +kernel
theorem dX4_contextOf_30 : decode cX4_contextOf 30 = .ok (.iload 4, 2) := by decide +kernel
theorem dX4_contextOf_32 : decode cX4_contextOf 32 = .ok (.invokestatic 119, 3) := by decide +kernel
theorem dX4_contextOf_35 : decode cX4_contextOf 35 = .ok (.ireturn, 1) := by decide +kernel
theorem dX4_contextOf_36 : decode cX4_contextOf 36 = .ok (.aload_n 0, 1) := by decide +kernel
theorem dX4_contextOf_37 : decode cX4_contextOf 37 = .ok (.getfield 39, 3) := by decide +kernel
theorem dX4_contextOf_40 : decode cX4_contextOf 40 = .ok (.iconst 1, 1) := by decide +kernel
theorem dX4_contextOf_41 : decode cX4_contextOf 41 = .ok (.if_icmp .ne 13, 3) := by decide +kernel
theorem dX4_contextOf_44 : decode cX4_contextOf 44 = .ok (.iload_n 3, 1) := by decide +kernel
theorem dX4_contextOf_45 : decode cX4_contextOf 45 = .ok (.iload_n 2, 1) := by decide +kernel
theorem dX4_contextOf_46 : decode cX4_contextOf 46 = .ok (.iload 4, 2) := by decide +kernel
theorem dX4_contextOf_48 : decode cX4_contextOf 48 = .ok (.invokestatic 122, 3) := by decide +kernel
theorem dX4_contextOf_51 : decode cX4_contextOf 51 = .ok (.goto 10, 3) := by decide +kernel
theorem dX4_contextOf_54 : decode cX4_contextOf 54 = .ok (.iload_n 2, 1) := by decide +kernel
theorem dX4_contextOf_55 : decode cX4_contextOf 55 = .ok (.iload_n 3, 1) := by decide +kernel
theorem dX4_contextOf_56 : decode cX4_contextOf 56 = .ok (.iload 4, 2) := by decide +kernel
theorem dX4_contextOf_58 : decode cX4_contextOf 58 = .ok (.invokestatic 122, 3) := by decide +kernel
theorem dX4_contextOf_61 : decode cX4_contextOf 61 = .ok (.ireturn, 1) := by decide +kernel
theorem dX4_rowFirst_0 : decode cX4_rowFirst 0 = .ok (.iload_n 0, 1) := by decide +kernel
theorem dX4_rowFirst_1 : decode cX4_rowFirst 1 = .ok (.iconst 2, 1) := by decide +kernel
theorem dX4_rowFirst_2 : decode cX4_rowFirst 2 = .ok (.if_icmp .ne 6, 3) := by decide +kernel
theorem dX4_rowFirst_5 : decode cX4_rowFirst 5 = .ok (.bipush 8, 2) := by decide +kernel
theorem dX4_rowFirst_7 : decode cX4_rowFirst 7 = .ok (.ireturn, 1) := by decide +kernel
theorem dX4_rowFirst_8 : decode cX4_rowFirst 8 = .ok (.iload_n 0, 1) := by decide +kernel
theorem dX4_rowFirst_9 : decode cX4_rowFirst 9 = .ok (.iconst 1, 1) := by decide +kernel
theorem dX4_rowFirst_10 : decode cX4_rowFirst 10 = .ok (.if_icmp .ne 23, 3) := by decide +kernel
theorem dX4_rowFirst_13 : decode cX4_rowFirst 13 = .ok (.iload_n 1, 1) := by decide +kernel
theorem dX4_rowFirst_14 : decode cX4_rowFirst 14 = .ok (.ifCond .le 8, 3) := by decide +kernel
theorem dX4_rowFirst_17 : decode cX4_rowFirst 17 = .ok (.bipush 7, 2) := by decide +kernel
theorem dX4_rowFirst_19 : decode cX4_rowFirst 19 = .ok (.goto 13, 3) := by decide +kernel
theorem dX4_rowFirst_22 : decode cX4_rowFirst 22 = .ok (.iload_n 2, 1) := by decide +kernel
theorem dX4_rowFirst_23 : decode cX4_rowFirst 23 = .ok (.ifCond .le 8, 3) := by decide +kernel
theorem dX4_rowFirst_26 : decode cX4_rowFirst 26 = .ok (.bipush 6, 2) := by decide +kernel
theorem dX4_rowFirst_28 : decode cX4_rowFirst 28 = .ok (.goto 4, 3) := by decide +kernel
theorem dX4_rowFirst_31 : decode cX4_rowFirst 31 = .ok (.iconst 5, 1) := by decide +kernel
theorem dX4_rowFirst_32 : decode cX4_rowFirst 32 = .ok (.ireturn, 1) := by decide +kernel
theorem dX4_rowFirst_33 : decode cX4_rowFirst 33 = .ok (.iload_n 1, 1) := by decide +kernel
theorem dX4_rowFirst_34 : decode cX4_rowFirst 34 = .ok (.ifCond .le 14, 3) := by decide +kernel
theorem dX4_rowFirst_37 : decode cX4_rowFirst 37 = .ok (.iload_n 1, 1) := by decide +kernel
theorem dX4_rowFirst_38 : decode cX4_rowFirst 38 = .ok (.iconst 2, 1) := by decide +kernel
theorem dX4_rowFirst_39 : decode cX4_rowFirst 39 = .ok (.if_icmp .ne 7, 3) := by decide +kernel
theorem dX4_rowFirst_42 : decode cX4_rowFirst 42 = .ok (.iconst 4, 1) := by decide +kernel
theorem dX4_rowFirst_43 : decode cX4_rowFirst 43 = .ok (.goto 4, 3) := by decide +kernel
theorem dX4_rowFirst_46 : decode cX4_rowFirst 46 = .ok (.iconst 3, 1) := by decide +kernel
theorem dX4_rowFirst_47 : decode cX4_rowFirst 47 = .ok (.ireturn, 1) := by decide +kernel
theorem dX4_rowFirst_48 : decode cX4_rowFirst 48 = .ok (.iload_n 2, 1) := by decide +kernel
theorem dX4_rowFirst_49 : decode cX4_rowFirst 49 = .ok (.iconst 2, 1) := by decide +kernel
theorem dX4_rowFirst_50 : decode cX4_rowFirst 50 = .ok (.if_icmp .ge 7, 3) := by decide +kernel
theorem dX4_rowFirst_53 : decode cX4_rowFirst 53 = .ok (.iload_n 2, 1) := by decide +kernel
theorem dX4_rowFirst_54 : decode cX4_rowFirst 54 = .ok (.goto 4, 3) := by decide +kernel
theorem dX4_rowFirst_57 : decode cX4_rowFirst 57 = .ok (.iconst 2, 1) := by decide +kernel
theorem dX4_rowFirst_58 : decode cX4_rowFirst 58 = .ok (.ireturn, 1) := by decide +kernel
theorem dX4_cornersFirst_0 : decode cX4_cornersFirst 0 = .ok (.iload_n 1, 1) := by decide +kernel
theorem dX4_cornersFirst_1 : decode cX4_cornersFirst 1 = .ok (.iconst 3, 1) := by decide +kernel
theorem dX4_cornersFirst_2 : decode cX4_cornersFirst 2 = .ok (.if_icmp .lt 6, 3) := by decide +kernel
theorem dX4_cornersFirst_5 : decode cX4_cornersFirst 5 = .ok (.bipush 8, 2) := by decide +kernel
theorem dX4_cornersFirst_7 : decode cX4_cornersFirst 7 = .ok (.ireturn, 1) := by decide +kernel
theorem dX4_cornersFirst_8 : decode cX4_cornersFirst 8 = .ok (.iload_n 1, 1) := by decide +kernel
theorem dX4_cornersFirst_9 : decode cX4_cornersFirst 9 = .ok (.iconst 2, 1) := by decide +kernel
theorem dX4_cornersFirst_10 : decode cX4_cornersFirst 10 = .ok (.if_icmp .ne 15, 3) := by decide +kernel
theorem dX4_cornersFirst_13 : decode cX4_cornersFirst 13 = .ok (.iload_n 0, 1) := by decide +kernel
theorem dX4_cornersFirst_14 : decode cX4_cornersFirst 14 = .ok (.ifCond .le 8, 3) := by decide +kernel
theorem dX4_cornersFirst_17 : decode cX4_cornersFirst 17 = .ok (.bipush 7, 2) := by decide +kernel
theorem dX4_cornersFirst_19 : decode cX4_cornersFirst 19 = .ok (.goto 5, 3) := by decide +kernel
theorem dX4_cornersFirst_22 : decode cX4_cornersFirst 22 = .ok (.bipush 6, 2) := by decide +kernel
theorem dX4_cornersFirst_24 : decode cX4_cornersFirst 24 = .ok (.ireturn, 1) := by decide +kernel
theorem dX4_cornersFirst_25 : decode cX4_cornersFirst 25 = .ok (.iconst 3, 1) := by decide +kernel
theorem dX4_cornersFirst_26 : decode cX4_cornersFirst 26 = .ok (.iload_n 1, 1) := by decide +kernel
theorem dX4_cornersFirst_27 : decode cX4_cornersFirst 27 = .ok (.imul, 1) := by decide +kernel
theorem dX4_cornersFirst_28 : decode cX4_cornersFirst 28 = .ok (.iload_n 0, 1) := by decide +kernel
theorem dX4_cornersFirst_29 : decode cX4_cornersFirst 29 = .ok (.iconst 2, 1) := by decide +kernel
theorem dX4_cornersFirst_30 : decode cX4_cornersFirst 30 = .ok (.if_icmp .ge 7, 3) := by decide +kernel
theorem dX4_cornersFirst_33 : decode cX4_cornersFirst 33 = .ok (.iload_n 0, 1) := by decide +kernel
theorem dX4_cornersFirst_34 : decode cX4_cornersFirst 34 = .ok (.goto 4, 3) := by decide +kernel
theorem dX4_cornersFirst_37 : decode cX4_cornersFirst 37 = .ok (.iconst 2, 1) := by decide +kernel
theorem dX4_cornersFirst_38 : decode cX4_cornersFirst 38 = .ok (.iadd, 1) := by decide +kernel
theorem dX4_cornersFirst_39 : decode cX4_cornersFirst 39 = .ok (.ireturn, 1) := by decide +kernel
theorem dX5_init_0 : decode cX5_init 0 = .ok (.aload_n 0, 1) := by decide +kernel
theorem dX5_init_1 : decode cX5_init 1 = .ok (.invokespecial 3, 3) := by decide +kernel
theorem dX5_init_4 : decode cX5_init 4 = .ok (.aload_n 0, 1) := by decide +kernel
theorem dX5_init_5 : decode cX5_init 5 = .ok (.bipush 64, 2) := by decide +kernel
theorem dX5_init_7 : decode cX5_init 7 = .ok (.newarray .int, 2) := by decide +kernel
theorem dX5_init_9 : decode cX5_init 9 = .ok (.putfield 9, 3) := by decide +kernel
theorem dX5_init_12 : decode cX5_init 12 = .ok (.return_, 1) := by decide +kernel
theorem dX5_begin_0 : decode cX5_begin 0 = .ok (.aload_n 0, 1) := by decide +kernel
theorem dX5_begin_1 : decode cX5_begin 1 = .ok (.iload_n 1, 1) := by decide +kernel
theorem dX5_begin_2 : decode cX5_begin 2 = .ok (.putfield 15, 3) := by decide +kernel
theorem dX5_begin_5 : decode cX5_begin 5 = .ok (.aload_n 0, 1) := by decide +kernel
theorem dX5_begin_6 : decode cX5_begin 6 = .ok (.iload_n 2, 1) := by decide +kernel
theorem dX5_begin_7 : decode cX5_begin 7 = .ok (.putfield 19, 3) := by decide +kernel
theorem dX5_begin_10 : decode cX5_begin 10 = .ok (.aload_n 0, 1) := by decide +kernel
theorem dX5_begin_11 : decode cX5_begin 11 = .ok (.getfield 9, 3) := by decide +kernel
theorem dX5_begin_14 : decode cX5_begin 14 = .ok (.iconst 0, 1) := by decide +kernel
theorem dX5_begin_15 : decode cX5_begin 15 = .ok (.invokestatic 22, 3) := by decide +kernel
theorem dX5_begin_18 : decode cX5_begin 18 = .ok (.return_, 1) := by decide +kernel
theorem dX5_has_0 : decode cX5_has 0 = .ok (.iload_n 1, 1) := by decide +kernel
theorem dX5_has_1 : decode cX5_has 1 = .ok (.ifCond .lt 27, 3) := by decide +kernel
theorem dX5_has_4 : decode cX5_has 4 = .ok (.iload_n 1, 1) := by decide +kernel
theorem dX5_has_5 : decode cX5_has 5 = .ok (.aload_n 0, 1) := by decide +kernel
theorem dX5_has_6 : decode cX5_has 6 = .ok (.getfield 15, 3) := by decide +kernel
theorem dX5_has_9 : decode cX5_has 9 = .ok (.if_icmp .ge 19, 3) := by decide +kernel
theorem dX5_has_12 : decode cX5_has 12 = .ok (.iload_n 2, 1) := by decide +kernel
theorem dX5_has_13 : decode cX5_has 13 = .ok (.ifCond .lt 15, 3) := by decide +kernel
theorem dX5_has_16 : decode cX5_has 16 = .ok (.iload_n 2, 1) := by decide +kernel
theorem dX5_has_17 : decode cX5_has 17 = .ok (.aload_n 0, 1) := by decide +kernel
theorem dX5_has_18 : decode cX5_has 18 = .ok (.getfield 19, 3) := by decide +kernel
theorem dX5_has_21 : decode cX5_has 21 = .ok (.if_icmp .ge 7, 3) := by decide +kernel
theorem dX5_has_24 : decode cX5_has 24 = .ok (.iconst 1, 1) := by decide +kernel
theorem dX5_has_25 : decode cX5_has 25 = .ok (.goto 4, 3) := by decide +kernel
theorem dX5_has_28 : decode cX5_has 28 = .ok (.iconst 0, 1) := by decide +kernel
theorem dX5_has_29 : decode cX5_has 29 = .ok (.ireturn, 1) := by decide +kernel
theorem dX5_at_0 : decode cX5_at 0 = .ok (.aload_n 0, 1) := by decide +kernel
theorem dX5_at_1 : decode cX5_at 1 = .ok (.iload_n 1, 1) := by decide +kernel
theorem dX5_at_2 : decode cX5_at 2 = .ok (.iload_n 2, 1) := by decide +kernel
theorem dX5_at_3 : decode cX5_at 3 = .ok (.invokevirtual 28, 3) := by decide +kernel
theorem dX5_at_6 : decode cX5_at 6 = .ok (.ifCond .eq 17, 3) := by decide +kernel
theorem dX5_at_9 : decode cX5_at 9 = .ok (.aload_n 0, 1) := by decide +kernel
theorem dX5_at_10 : decode cX5_at 10 = .ok (.getfield 9, 3) := by decide +kernel
theorem dX5_at_13 : decode cX5_at 13 = .ok (.iload_n 2, 1) := by decide +kernel
theorem dX5_at_14 : decode cX5_at 14 = .ok (.bipush 8, 2) := by decide +kernel
theorem dX5_at_16 : decode cX5_at 16 = .ok (.imul, 1) := by decide +kernel
theorem dX5_at_17 : decode cX5_at 17 = .ok (.iload_n 1, 1) := by decide +kernel
theorem dX5_at_18 : decode cX5_at 18 = .ok (.iadd, 1) := by decide +kernel
theorem dX5_at_19 : decode cX5_at 19 = .ok (.iaload, 1) := by decide +kernel
theorem dX5_at_20 : decode cX5_at 20 = .ok (.goto 5, 3) := by decide +kernel
theorem dX5_at_23 : decode cX5_at 23 = .ok (.ldc 32, 2) := by decide +kernel
theorem dX5_at_25 : decode cX5_at 25 = .ok (.ireturn, 1) := by decide +kernel
theorem dX5_set_0 : decode cX5_set 0 = .ok (.aload_n 0, 1) := by decide +kernel
theorem dX5_set_1 : decode cX5_set 1 = .ok (.iload_n 1, 1) := by decide +kernel
theorem dX5_set_2 : decode cX5_set 2 = .ok (.iload_n 2, 1) := by decide +kernel
theorem dX5_set_3 : decode cX5_set 3 = .ok (.invokevirtual 28, 3) := by decide +kernel
theorem dX5_set_6 : decode cX5_set 6 = .ok (.ifCond .eq 15, 3) := by decide +kernel
theorem dX5_set_9 : decode cX5_set 9 = .ok (.aload_n 0, 1) := by decide +kernel
theorem dX5_set_10 : decode cX5_set 10 = .ok (.getfield 9, 3) := by decide +kernel
theorem dX5_set_13 : decode cX5_set 13 = .ok (.iload_n 2, 1) := by decide +kernel
theorem dX5_set_14 : decode cX5_set 14 = .ok (.bipush 8, 2) := by decide +kernel
theorem dX5_set_16 : decode cX5_set 16 = .ok (.imul, 1) := by decide +kernel
theorem dX5_set_17 : decode cX5_set 17 = .ok (.iload_n 1, 1) := by decide +kernel
theorem dX5_set_18 : decode cX5_set 18 = .ok (.iadd, 1) := by decide +kernel
theorem dX5_set_19 : decode cX5_set 19 = .ok (.iload_n 3, 1) := by decide +kernel
theorem dX5_set_20 : decode cX5_set 20 = .ok (.iastore, 1) := by decide +kernel
theorem dX5_set_21 : decode cX5_set 21 = .ok (.return_, 1) := by decide +kernel
theorem dX5_greatestDifference_0 : decode cX5_greatestDifference 0 = .ok (.aload_n 0, 1) := by decide +kernel
theorem dX5_greatestDifference_1 : decode cX5_greatestDifference 1 = .ok (.getfield 15, 3) := by decide +kernel
theorem dX5_greatestDifference_4 : decode cX5_greatestDifference 4 = .ok (.aload_n 1, 1) := by decide +kernel
theorem dX5_greatestDifference_5 : decode cX5_greatestDifference 5 = .ok (.getfield 15, 3) := by decide +kernel
theorem dX5_greatestDifference_8 : decode cX5_greatestDifference 8 = .ok (.if_icmp .ne 14, 3) := by decide +kernel
theorem dX5_greatestDifference_11 : decode cX5_greatestDifference 11 = .ok (.aload_n 0, 1) := by decide +kernel
theorem dX5_greatestDifference_12 : decode cX5_greatestDifference 12 = .ok (.getfield 19, 3) := by decide +kernel
theorem dX5_greatestDifference_15 : decode cX5_greatestDifference 15 = .ok (.aload_n 1, 1) := by decide +kernel
theorem dX5_greatestDifference_16 : decode cX5_greatestDifference 16 = .ok (.getfield 19, 3) := by decide +kernel
theorem dX5_greatestDifference_19 : decode cX5_greatestDifference 19 = .ok (.if_icmp .eq 6, 3) := by decide +kernel
theorem dX5_greatestDifference_22 : decode cX5_greatestDifference 22 = .ok (.ldc 32, 2) := by decide +kernel
theorem dX5_greatestDifference_24 : decode cX5_greatestDifference 24 = .ok (.ireturn, 1) := by decide +kernel
theorem dX5_greatestDifference_25 : decode cX5_greatestDifference 25 = .ok (.iconst 0, 1) := by decide +kernel
theorem dX5_greatestDifference_26 : decode cX5_greatestDifference 26 = .ok (.istore_n 2, 1) := by decide +kernel
theorem dX5_greatestDifference_27 : decode cX5_greatestDifference 27 = .ok (.iconst 0, 1) := by decide +kernel
theorem dX5_greatestDifference_28 : decode cX5_greatestDifference 28 = .ok (.istore_n 3, 1) := by decide +kernel
theorem dX5_greatestDifference_29 : decode cX5_greatestDifference 29 = .ok (.iload_n 3, 1) := by decide +kernel
theorem dX5_greatestDifference_30 : decode cX5_greatestDifference 30 = .ok (.aload_n 0, 1) := by decide +kernel
theorem dX5_greatestDifference_31 : decode cX5_greatestDifference 31 = .ok (.getfield 9, 3) := by decide +kernel
theorem dX5_greatestDifference_34 : decode cX5_greatestDifference 34 = .ok (.arraylength, 1) := by decide +kernel
theorem dX5_greatestDifference_35 : decode cX5_greatestDifference 35 = .ok (.if_icmp .ge 30, 3) := by decide +kernel
theorem dX5_greatestDifference_38 : decode cX5_greatestDifference 38 = .ok (.iload_n 2, 1) := by decide +kernel
theorem dX5_greatestDifference_39 : decode cX5_greatestDifference 39 = .ok (.aload_n 0, 1) := by decide +kernel
theorem dX5_greatestDifference_40 : decode cX5_greatestDifference 40 = .ok (.getfield 9, 3) := by decide +kernel
theorem dX5_greatestDifference_43 : decode cX5_greatestDifference 43 = .ok (.iload_n 3, 1) := by decide +kernel
theorem dX5_greatestDifference_44 : decode cX5_greatestDifference 44 = .ok (.iaload, 1) := by decide +kernel
theorem dX5_greatestDifference_45 : decode cX5_greatestDifference 45 = .ok (.aload_n 1, 1) := by decide +kernel
theorem dX5_greatestDifference_46 : decode cX5_greatestDifference 46 = .ok (.getfield 9, 3) := by decide +kernel
theorem dX5_greatestDifference_49 : decode cX5_greatestDifference 49 = .ok (.iload_n 3, 1) := by decide +kernel
theorem dX5_greatestDifference_50 : decode cX5_greatestDifference 50 = .ok (.iaload, 1) := by decide +kernel
theorem dX5_greatestDifference_51 : decode cX5_greatestDifference 51 = .ok (.isub, 1) := by decide +kernel
theorem dX5_greatestDifference_52 : decode cX5_greatestDifference 52 = .ok (.invokestatic 33, 3) := by decide +kernel
theorem dX5_greatestDifference_55 : decode cX5_greatestDifference 55 = .ok (.invokestatic 39, 3) := by decide +kernel
theorem dX5_greatestDifference_58 : decode cX5_greatestDifference 58 = .ok (.istore_n 2, 1) := by decide +kernel
theorem dX5_greatestDifference_59 : decode cX5_greatestDifference 59 = .ok (.iinc 3 1, 3) := by decide +kernel
theorem dX5_greatestDifference_62 : decode cX5_greatestDifference 62 = .ok (.goto (-33), 3) := by decide +kernel
theorem dX5_greatestDifference_65 : decode cX5_greatestDifference 65 = .ok (.iload_n 2, 1) := by decide +kernel
theorem dX5_greatestDifference_66 : decode cX5_greatestDifference 66 = .ok (.ireturn, 1) := by decide +kernel
theorem dX6_init_0 : decode cX6_init 0 = .ok (.aload_n 0, 1) := by decide +kernel
theorem dX6_init_1 : decode cX6_init 1 = .ok (.invokespecial 3, 3) := by decide +kernel
theorem dX6_init_4 : decode cX6_init 4 = .ok (.aload_n 0, 1) := by decide +kernel
theorem dX6_init_5 : decode cX6_init 5 = .ok (.new 9, 3) := by decide +kernel
theorem dX6_init_8 : decode cX6_init 8 = .ok (.dup, 1) := by decide +kernel
theorem dX6_init_9 : decode cX6_init 9 = .ok (.invokespecial 11, 3) := by decide +kernel
theorem dX6_init_12 : decode cX6_init 12 = .ok (.putfield 12, 3) := by decide +kernel
theorem dX6_init_15 : decode cX6_init 15 = .ok (.aload_n 0, 1) := by decide +kernel
theorem dX6_init_16 : decode cX6_init 16 = .ok (.sipush 1024, 3) := by decide +kernel
theorem dX6_init_19 : decode cX6_init 19 = .ok (.newarray .int, 2) := by decide +kernel
theorem dX6_init_21 : decode cX6_init 21 = .ok (.putfield 18, 3) := by decide +kernel
theorem dX6_init_24 : decode cX6_init 24 = .ok (.return_, 1) := by decide +kernel
theorem dX6_clear_0 : decode cX6_clear 0 = .ok (.aload_n 0, 1) := by decide +kernel
theorem dX6_clear_1 : decode cX6_clear 1 = .ok (.iconst 0, 1) := by decide +kernel
theorem dX6_clear_2 : decode cX6_clear 2 = .ok (.putfield 22, 3) := by decide +kernel
theorem dX6_clear_5 : decode cX6_clear 5 = .ok (.return_, 1) := by decide +kernel
theorem dX6_addFrom_0 : decode cX6_addFrom 0 = .ok (.iconst 0, 1) := by decide +kernel
theorem dX6_addFrom_1 : decode cX6_addFrom 1 = .ok (.istore 4, 2) := by decide +kernel
theorem dX6_addFrom_3 : decode cX6_addFrom 3 = .ok (.iload 4, 2) := by decide +kernel
theorem dX6_addFrom_5 : decode cX6_addFrom 5 = .ok (.iload_n 3, 1) := by decide +kernel
theorem dX6_addFrom_6 : decode cX6_addFrom 6 = .ok (.if_icmp .ge 46, 3) := by decide +kernel
theorem dX6_addFrom_9 : decode cX6_addFrom 9 = .ok (.aload_n 0, 1) := by decide +kernel
theorem dX6_addFrom_10 : decode cX6_addFrom 10 = .ok (.getfield 22, 3) := by decide +kernel
theorem dX6_addFrom_13 : decode cX6_addFrom 13 = .ok (.sipush 1024, 3) := by decide +kernel
theorem dX6_addFrom_16 : decode cX6_addFrom 16 = .ok (.if_icmp .ge 36, 3) := by decide +kernel
theorem dX6_addFrom_19 : decode cX6_addFrom 19 = .ok (.aload_n 0, 1) := by decide +kernel
theorem dX6_addFrom_20 : decode cX6_addFrom 20 = .ok (.getfield 18, 3) := by decide +kernel
theorem dX6_addFrom_23 : decode cX6_addFrom 23 = .ok (.aload_n 0, 1) := by decide +kernel
theorem dX6_addFrom_24 : decode cX6_addFrom 24 = .ok (.getfield 22, 3) := by decide +kernel
theorem dX6_addFrom_27 : decode cX6_addFrom 27 = .ok (.aload_n 1, 1) := by decide +kernel
theorem dX6_addFrom_28 : decode cX6_addFrom 28 = .ok (.iload_n 2, 1) := by decide +kernel
theorem dX6_addFrom_29 : decode cX6_addFrom 29 = .ok (.iload 4, 2) := by decide +kernel
theorem dX6_addFrom_31 : decode cX6_addFrom 31 = .ok (.iadd, 1) := by decide +kernel
theorem dX6_addFrom_32 : decode cX6_addFrom 32 = .ok (.invokevirtual 26, 3) := by decide +kernel
theorem dX6_addFrom_35 : decode cX6_addFrom 35 = .ok (.iastore, 1) := by decide +kernel
theorem dX6_addFrom_36 : decode cX6_addFrom 36 = .ok (.aload_n 0, 1) := by decide +kernel
theorem dX6_addFrom_37 : decode cX6_addFrom 37 = .ok (.dup, 1) := by decide +kernel
theorem dX6_addFrom_38 : decode cX6_addFrom 38 = .ok (.getfield 22, 3) := by decide +kernel
theorem dX6_addFrom_41 : decode cX6_addFrom 41 = .ok (.iconst 1, 1) := by decide +kernel
theorem dX6_addFrom_42 : decode cX6_addFrom 42 = .ok (.iadd, 1) := by decide +kernel
theorem dX6_addFrom_43 : decode cX6_addFrom 43 = .ok (.putfield 22, 3) := by decide +kernel
theorem dX6_addFrom_46 : decode cX6_addFrom 46 = .ok (.iinc 4 1, 3) := by decide +kernel
theorem dX6_addFrom_49 : decode cX6_addFrom 49 = .ok (.goto (-46), 3) := by decide +kernel
theorem dX6_addFrom_52 : decode cX6_addFrom 52 = .ok (.return_, 1) := by decide +kernel
theorem dX6_given_0 : decode cX6_given 0 = .ok (.aload_n 0, 1) := by decide +kernel
theorem dX6_given_1 : decode cX6_given 1 = .ok (.getfield 22, 3) := by decide +kernel
theorem dX6_given_4 : decode cX6_given 4 = .ok (.ireturn, 1) := by decide +kernel
theorem dX6_begin_0 : decode cX6_begin 0 = .ok (.aload_n 0, 1) := by decide +kernel
theorem dX6_begin_1 : decode cX6_begin 1 = .ok (.getfield 12, 3) := by decide +kernel
theorem dX6_begin_4 : decode cX6_begin 4 = .ok (.invokevirtual 32, 3) := by decide +kernel
theorem dX6_begin_7 : decode cX6_begin 7 = .ok (.aload_n 0, 1) := by decide +kernel
theorem dX6_begin_8 : decode cX6_begin 8 = .ok (.iload_n 1, 1) := by decide +kernel
theorem dX6_begin_9 : decode cX6_begin 9 = .ok (.aload_n 0, 1) := by decide +kernel
theorem dX6_begin_10 : decode cX6_begin 10 = .ok (.getfield 22, 3) := by decide +kernel
theorem dX6_begin_13 : decode cX6_begin 13 = .ok (.invokestatic 35, 3) := by decide +kernel
theorem dX6_begin_16 : decode cX6_begin 16 = .ok (.putfield 41, 3) := by decide +kernel
theorem dX6_begin_19 : decode cX6_begin 19 = .ok (.aload_n 0, 1) := by decide +kernel
theorem dX6_begin_20 : decode cX6_begin 20 = .ok (.iconst 0, 1) := by decide +kernel
theorem dX6_begin_21 : decode cX6_begin 21 = .ok (.putfield 44, 3) := by decide +kernel
theorem dX6_begin_24 : decode cX6_begin 24 = .ok (.aload_n 0, 1) := by decide +kernel
theorem dX6_begin_25 : decode cX6_begin 25 = .ok (.aload_n 0, 1) := by decide +kernel
theorem dX6_begin_26 : decode cX6_begin 26 = .ok (.getfield 41, 3) := by decide +kernel
theorem dX6_begin_29 : decode cX6_begin 29 = .ok (.ifCond .le 12, 3) := by decide +kernel
theorem dX6_begin_32 : decode cX6_begin 32 = .ok (.aload_n 0, 1) := by decide +kernel
theorem dX6_begin_33 : decode cX6_begin 33 = .ok (.getfield 18, 3) := by decide +kernel
theorem dX6_begin_36 : decode cX6_begin 36 = .ok (.iconst 0, 1) := by decide +kernel
theorem dX6_begin_37 : decode cX6_begin 37 = .ok (.iaload, 1) := by decide +kernel
theorem dX6_begin_38 : decode cX6_begin 38 = .ok (.goto 6, 3) := by decide +kernel
theorem dX6_begin_41 : decode cX6_begin 41 = .ok (.sipush 255, 3) := by decide +kernel
theorem dX6_begin_44 : decode cX6_begin 44 = .ok (.i2l, 1) := by decide +kernel
theorem dX6_begin_45 : decode cX6_begin 45 = .ok (.ldc2_w 47, 3) := by decide +kernel
theorem dX6_begin_48 : decode cX6_begin 48 = .ok (.lmul, 1) := by decide +kernel
theorem dX6_begin_49 : decode cX6_begin 49 = .ok (.putfield 49, 3) := by decide +kernel
theorem dX6_begin_52 : decode cX6_begin 52 = .ok (.aload_n 0, 1) := by decide +kernel
theorem dX6_begin_53 : decode cX6_begin 53 = .ok (.invokevirtual 53, 3) := by decide +kernel
theorem dX6_begin_56 : decode cX6_begin 56 = .ok (.aload_n 0, 1) := by decide +kernel
theorem dX6_begin_57 : decode cX6_begin 57 = .ok (.dup, 1) := by decide +kernel
theorem dX6_begin_58 : decode cX6_begin 58 = .ok (.getfield 49, 3) := by decide +kernel
theorem dX6_begin_61 : decode cX6_begin 61 = .ok (.bipush 7, 2) := by decide +kernel
theorem dX6_begin_63 : decode cX6_begin 63 = .ok (.lshl, 1) := by decide +kernel
theorem dX6_begin_64 : decode cX6_begin 64 = .ok (.putfield 49, 3) := by decide +kernel
theorem dX6_begin_67 : decode cX6_begin 67 = .ok (.aload_n 0, 1) := by decide +kernel
theorem dX6_begin_68 : decode cX6_begin 68 = .ok (.dup, 1) := by decide +kernel
theorem dX6_begin_69 : decode cX6_begin 69 = .ok (.getfield 56, 3) := by decide +kernel
theorem dX6_begin_72 : decode cX6_begin 72 = .ok (.bipush 7, 2) := by decide +kernel
theorem dX6_begin_74 : decode cX6_begin 74 = .ok (.isub, 1) := by decide +kernel
theorem dX6_begin_75 : decode cX6_begin 75 = .ok (.putfield 56, 3) := by decide +kernel
theorem dX6_begin_78 : decode cX6_begin 78 = .ok (.aload_n 0, 1) := by decide +kernel
theorem dX6_begin_79 : decode cX6_begin 79 = .ok (.ldc 59, 2) := by decide +kernel
theorem dX6_begin_81 : decode cX6_begin 81 = .ok (.putfield 60, 3) := by decide +kernel
theorem dX6_begin_84 : decode cX6_begin 84 = .ok (.return_, 1) := by decide +kernel
theorem dX6_comeIn_0 : decode cX6_comeIn 0 = .ok (.aload_n 0, 1) := by decide +kernel
theorem dX6_comeIn_1 : decode cX6_comeIn 1 = .ok (.getfield 44, 3) := by decide +kernel
theorem dX6_comeIn_4 : decode cX6_comeIn 4 = .ok (.aload_n 0, 1) := by decide +kernel
theorem dX6_comeIn_5 : decode cX6_comeIn 5 = .ok (.getfield 41, 3) := by decide +kernel
theorem dX6_comeIn_8 : decode cX6_comeIn 8 = .ok (.if_icmp .ge 15, 3) := by decide +kernel
theorem dX6_comeIn_11 : decode cX6_comeIn 11 = .ok (.aload_n 0, 1) := by decide +kernel
theorem dX6_comeIn_12 : decode cX6_comeIn 12 = .ok (.getfield 18, 3) := by decide +kernel
theorem dX6_comeIn_15 : decode cX6_comeIn 15 = .ok (.aload_n 0, 1) := by decide +kernel
theorem dX6_comeIn_16 : decode cX6_comeIn 16 = .ok (.getfield 44, 3) := by decide +kernel
theorem dX6_comeIn_19 : decode cX6_comeIn 19 = .ok (.iaload, 1) := by decide +kernel
theorem dX6_comeIn_20 : decode cX6_comeIn 20 = .ok (.goto 6, 3) := by decide +kernel
theorem dX6_comeIn_23 : decode cX6_comeIn 23 = .ok (.sipush 255, 3) := by decide +kernel
theorem dX6_comeIn_26 : decode cX6_comeIn 26 = .ok (.istore_n 1, 1) := by decide +kernel
theorem dX6_comeIn_27 : decode cX6_comeIn 27 = .ok (.aload_n 0, 1) := by decide +kernel
theorem dX6_comeIn_28 : decode cX6_comeIn 28 = .ok (.getfield 44, 3) := by decide +kernel
theorem dX6_comeIn_31 : decode cX6_comeIn 31 = .ok (.iconst 1, 1) := by decide +kernel
theorem dX6_comeIn_32 : decode cX6_comeIn 32 = .ok (.iadd, 1) := by decide +kernel
theorem dX6_comeIn_33 : decode cX6_comeIn 33 = .ok (.aload_n 0, 1) := by decide +kernel
theorem dX6_comeIn_34 : decode cX6_comeIn 34 = .ok (.getfield 41, 3) := by decide +kernel
theorem dX6_comeIn_37 : decode cX6_comeIn 37 = .ok (.if_icmp .ge 17, 3) := by decide +kernel
theorem dX6_comeIn_40 : decode cX6_comeIn 40 = .ok (.aload_n 0, 1) := by decide +kernel
theorem dX6_comeIn_41 : decode cX6_comeIn 41 = .ok (.getfield 18, 3) := by decide +kernel
theorem dX6_comeIn_44 : decode cX6_comeIn 44 = .ok (.aload_n 0, 1) := by decide +kernel
theorem dX6_comeIn_45 : decode cX6_comeIn 45 = .ok (.getfield 44, 3) := by decide +kernel
theorem dX6_comeIn_48 : decode cX6_comeIn 48 = .ok (.iconst 1, 1) := by decide +kernel
theorem dX6_comeIn_49 : decode cX6_comeIn 49 = .ok (.iadd, 1) := by decide +kernel
theorem dX6_comeIn_50 : decode cX6_comeIn 50 = .ok (.iaload, 1) := by decide +kernel
theorem dX6_comeIn_51 : decode cX6_comeIn 51 = .ok (.goto 6, 3) := by decide +kernel
theorem dX6_comeIn_54 : decode cX6_comeIn 54 = .ok (.sipush 255, 3) := by decide +kernel
theorem dX6_comeIn_57 : decode cX6_comeIn 57 = .ok (.istore_n 2, 1) := by decide +kernel
theorem dX6_comeIn_58 : decode cX6_comeIn 58 = .ok (.iload_n 1, 1) := by decide +kernel
theorem dX6_comeIn_59 : decode cX6_comeIn 59 = .ok (.sipush 255, 3) := by decide +kernel
theorem dX6_comeIn_62 : decode cX6_comeIn 62 = .ok (.if_icmp .ne 29, 3) := by decide +kernel
theorem dX6_comeIn_65 : decode cX6_comeIn 65 = .ok (.iload_n 2, 1) := by decide +kernel
theorem dX6_comeIn_66 : decode cX6_comeIn 66 = .ok (.sipush 143, 3) := by decide +kernel
theorem dX6_comeIn_69 : decode cX6_comeIn 69 = .ok (.if_icmp .le 22, 3) := by decide +kernel
theorem dX6_comeIn_72 : decode cX6_comeIn 72 = .ok (.aload_n 0, 1) := by decide +kernel
theorem dX6_comeIn_73 : decode cX6_comeIn 73 = .ok (.dup, 1) := by decide +kernel
theorem dX6_comeIn_74 : decode cX6_comeIn 74 = .ok (.getfield 49, 3) := by decide +kernel
theorem dX6_comeIn_77 : decode cX6_comeIn 77 = .ok (.ldc2_w 63, 3) := by decide +kernel
theorem dX6_comeIn_80 : decode cX6_comeIn 80 = .ok (.ladd, 1) := by decide +kernel
theorem dX6_comeIn_81 : decode cX6_comeIn 81 = .ok (.putfield 49, 3) := by decide +kernel
theorem dX6_comeIn_84 : decode cX6_comeIn 84 = .ok (.aload_n 0, 1) := by decide +kernel
theorem dX6_comeIn_85 : decode cX6_comeIn 85 = .ok (.bipush 8, 2) := by decide +kernel
theorem dX6_comeIn_87 : decode cX6_comeIn 87 = .ok (.putfield 56, 3) := by decide +kernel
theorem dX6_comeIn_90 : decode cX6_comeIn 90 = .ok (.return_, 1) := by decide +kernel
theorem dX6_comeIn_91 : decode cX6_comeIn 91 = .ok (.aload_n 0, 1) := by decide +kernel
theorem dX6_comeIn_92 : decode cX6_comeIn 92 = .ok (.dup, 1) := by decide +kernel
theorem dX6_comeIn_93 : decode cX6_comeIn 93 = .ok (.getfield 44, 3) := by decide +kernel
theorem dX6_comeIn_96 : decode cX6_comeIn 96 = .ok (.iconst 1, 1) := by decide +kernel
theorem dX6_comeIn_97 : decode cX6_comeIn 97 = .ok (.iadd, 1) := by decide +kernel
theorem dX6_comeIn_98 : decode cX6_comeIn 98 = .ok (.putfield 44, 3) := by decide +kernel
theorem dX6_comeIn_101 : decode cX6_comeIn 101 = .ok (.aload_n 0, 1) := by decide +kernel
theorem dX6_comeIn_102 : decode cX6_comeIn 102 = .ok (.dup, 1) := by decide +kernel
theorem dX6_comeIn_103 : decode cX6_comeIn 103 = .ok (.getfield 49, 3) := by decide +kernel
theorem dX6_comeIn_106 : decode cX6_comeIn 106 = .ok (.iload_n 2, 1) := by decide +kernel
theorem dX6_comeIn_107 : decode cX6_comeIn 107 = .ok (.iload_n 1, 1) := by decide +kernel
theorem dX6_comeIn_108 : decode cX6_comeIn 108 = .ok (.sipush 255, 3) := by decide +kernel
theorem dX6_comeIn_111 : decode cX6_comeIn 111 = .ok (.if_icmp .ne 9, 3) := by decide +kernel
theorem dX6_comeIn_114 : decode cX6_comeIn 114 = .ok (.sipush 512, 3) := by decide +kernel
theorem dX6_comeIn_117 : decode cX6_comeIn 117 = .ok (.goto 6, 3) := by decide +kernel
theorem dX6_comeIn_120 : decode cX6_comeIn 120 = .ok (.sipush 256, 3) := by decide +kernel
theorem dX6_comeIn_123 : decode cX6_comeIn 123 = .ok (.imul, 1) := by decide +kernel
theorem dX6_comeIn_124 : decode cX6_comeIn 124 = .ok (.i2l, 1) := by decide +kernel
theorem dX6_comeIn_125 : decode cX6_comeIn 125 = .ok (.ladd, 1) := by decide +kernel
theorem dX6_comeIn_126 : decode cX6_comeIn 126 = .ok (.putfield 49, 3) := by decide +kernel
theorem dX6_comeIn_129 : decode cX6_comeIn 129 = .ok (.aload_n 0, 1) := by decide +kernel
theorem dX6_comeIn_130 : decode cX6_comeIn 130 = .ok (.iload_n 1, 1) := by decide +kernel
theorem dX6_comeIn_131 : decode cX6_comeIn 131 = .ok (.sipush 255, 3) := by decide +kernel
theorem dX6_comeIn_134 : decode cX6_comeIn 134 = .ok (.if_icmp .ne 8, 3) := by decide +kernel
theorem dX6_comeIn_137 : decode cX6_comeIn 137 = .ok (.bipush 7, 2) := by decide +kernel
theorem dX6_comeIn_139 : decode cX6_comeIn 139 = .ok (.goto 5, 3) := by decide +kernel
theorem dX6_comeIn_142 : decode cX6_comeIn 142 = .ok (.bipush 8, 2) := by decide +kernel
theorem dX6_comeIn_144 : decode cX6_comeIn 144 = .ok (.putfield 56, 3) := by decide +kernel
theorem dX6_comeIn_147 : decode cX6_comeIn 147 = .ok (.return_, 1) := by decide +kernel
theorem dX6_tellBit_0 : decode cX6_tellBit 0 = .ok (.aload_n 0, 1) := by decide +kernel
theorem dX6_tellBit_1 : decode cX6_tellBit 1 = .ok (.getfield 12, 3) := by decide +kernel
theorem dX6_tellBit_4 : decode cX6_tellBit 4 = .ok (.iload_n 1, 1) := by decide +kernel
theorem dX6_tellBit_5 : decode cX6_tellBit 5 = .ok (.invokevirtual 65, 3) := by decide +kernel
theorem dX6_tellBit_8 : decode cX6_tellBit 8 = .ok (.istore_n 3, 1) := by decide +kernel
theorem dX6_tellBit_9 : decode cX6_tellBit 9 = .ok (.aload_n 0, 1) := by decide +kernel
theorem dX6_tellBit_10 : decode cX6_tellBit 10 = .ok (.getfield 12, 3) := by decide +kernel
theorem dX6_tellBit_13 : decode cX6_tellBit 13 = .ok (.iload_n 1, 1) := by decide +kernel
theorem dX6_tellBit_14 : decode cX6_tellBit 14 = .ok (.invokevirtual 68, 3) := by decide +kernel
theorem dX6_tellBit_17 : decode cX6_tellBit 17 = .ok (.istore 4, 2) := by decide +kernel
theorem dX6_tellBit_19 : decode cX6_tellBit 19 = .ok (.aload_n 0, 1) := by decide +kernel
theorem dX6_tellBit_20 : decode cX6_tellBit 20 = .ok (.dup, 1) := by decide +kernel
theorem dX6_tellBit_21 : decode cX6_tellBit 21 = .ok (.getfield 60, 3) := by decide +kernel
theorem dX6_tellBit_24 : decode cX6_tellBit 24 = .ok (.iload_n 3, 1) := by decide +kernel
theorem dX6_tellBit_25 : decode cX6_tellBit 25 = .ok (.isub, 1) := by decide +kernel
theorem dX6_tellBit_26 : decode cX6_tellBit 26 = .ok (.putfield 60, 3) := by decide +kernel
theorem dX6_tellBit_29 : decode cX6_tellBit 29 = .ok (.aload_n 0, 1) := by decide +kernel
theorem dX6_tellBit_30 : decode cX6_tellBit 30 = .ok (.getfield 49, 3) := by decide +kernel
theorem dX6_tellBit_33 : decode cX6_tellBit 33 = .ok (.bipush 16, 2) := by decide +kernel
theorem dX6_tellBit_35 : decode cX6_tellBit 35 = .ok (.lshr, 1) := by decide +kernel
theorem dX6_tellBit_36 : decode cX6_tellBit 36 = .ok (.iload_n 3, 1) := by decide +kernel
theorem dX6_tellBit_37 : decode cX6_tellBit 37 = .ok (.i2l, 1) := by decide +kernel
theorem dX6_tellBit_38 : decode cX6_tellBit 38 = .ok (.lcmp, 1) := by decide +kernel
theorem dX6_tellBit_39 : decode cX6_tellBit 39 = .ok (.ifCond .ge 30, 3) := by decide +kernel
theorem dX6_tellBit_42 : decode cX6_tellBit 42 = .ok (.aload_n 0, 1) := by decide +kernel
theorem dX6_tellBit_43 : decode cX6_tellBit 43 = .ok (.getfield 60, 3) := by decide +kernel
theorem dX6_tellBit_46 : decode cX6_tellBit 46 = .ok (.iload_n 3, 1) := by decide +kernel
theorem dX6_tellBit_47 : decode cX6_tellBit 47 = .ok (.if_icmp .ge 8, 3) := by decide +kernel
theorem dX6_tellBit_50 : decode cX6_tellBit 50 = .ok (.iload 4, 2) := by decide +kernel
theorem dX6_tellBit_52 : decode cX6_tellBit 52 = .ok (.goto 7, 3) := by decide +kernel
theorem dX6_tellBit_55 : decode cX6_tellBit 55 = .ok (.iconst 1, 1) := by decide +kernel
theorem dX6_tellBit_56 : decode cX6_tellBit 56 = .ok (.iload 4, 2) := by decide +kernel
theorem dX6_tellBit_58 : decode cX6_tellBit 58 = .ok (.isub, 1) := by decide +kernel
theorem dX6_tellBit_59 : decode cX6_tellBit 59 = .ok (.istore 5, 2) := by decide +kernel
theorem dX6_tellBit_61 : decode cX6_tellBit 61 = .ok (.aload_n 0, 1) := by decide +kernel
theorem dX6_tellBit_62 : decode cX6_tellBit 62 = .ok (.iload_n 3, 1) := by decide +kernel
theorem dX6_tellBit_63 : decode cX6_tellBit 63 = .ok (.putfield 60, 3) := by decide +kernel
theorem dX6_tellBit_66 : decode cX6_tellBit 66 = .ok (.goto 48, 3) := by decide +kernel
theorem dX6_tellBit_69 : decode cX6_tellBit 69 = .ok (.aload_n 0, 1) := by decide +kernel
theorem dX6_tellBit_70 : decode cX6_tellBit 70 = .ok (.dup, 1) := by decide +kernel
theorem dX6_tellBit_71 : decode cX6_tellBit 71 = .ok (.getfield 49, 3) := by decide +kernel
theorem dX6_tellBit_74 : decode cX6_tellBit 74 = .ok (.iload_n 3, 1) := by decide +kernel
theorem dX6_tellBit_75 : decode cX6_tellBit 75 = .ok (.i2l, 1) := by decide +kernel
theorem dX6_tellBit_76 : decode cX6_tellBit 76 = .ok (.bipush 16, 2) := by decide +kernel
theorem dX6_tellBit_78 : decode cX6_tellBit 78 = .ok (.lshl, 1) := by decide +kernel
theorem dX6_tellBit_79 : decode cX6_tellBit 79 = .ok (.lsub, 1) := by decide +kernel
theorem dX6_tellBit_80 : decode cX6_tellBit 80 = .ok (.putfield 49, 3) := by decide +kernel
theorem dX6_tellBit_83 : decode cX6_tellBit 83 = .ok (.aload_n 0, 1) := by decide +kernel
theorem dX6_tellBit_84 : decode cX6_tellBit 84 = .ok (.getfield 60, 3) := by decide +kernel
theorem dX6_tellBit_87 : decode cX6_tellBit 87 = .ok (.ldc 59, 2) := by decide +kernel
theorem dX6_tellBit_89 : decode cX6_tellBit 89 = .ok (.if_icmp .lt 6, 3) := by decide +kernel
theorem dX6_tellBit_92 : decode cX6_tellBit 92 = .ok (.iload 4, 2) := by decide +kernel
theorem dX6_tellBit_94 : decode cX6_tellBit 94 = .ok (.ireturn, 1) := by decide +kernel
theorem dX6_tellBit_95 : decode cX6_tellBit 95 = .ok (.aload_n 0, 1) := by decide +kernel
theorem dX6_tellBit_96 : decode cX6_tellBit 96 = .ok (.getfield 60, 3) := by decide +kernel
theorem dX6_tellBit_99 : decode cX6_tellBit 99 = .ok (.iload_n 3, 1) := by decide +kernel
theorem dX6_tellBit_100 : decode cX6_tellBit 100 = .ok (.if_icmp .ge 10, 3) := by decide +kernel
theorem dX6_tellBit_103 : decode cX6_tellBit 103 = .ok (.iconst 1, 1) := by decide +kernel
theorem dX6_tellBit_104 : decode cX6_tellBit 104 = .ok (.iload 4, 2) := by decide +kernel
theorem dX6_tellBit_106 : decode cX6_tellBit 106 = .ok (.isub, 1) := by decide +kernel
theorem dX6_tellBit_107 : decode cX6_tellBit 107 = .ok (.goto 5, 3) := by decide +kernel
theorem dX6_tellBit_110 : decode cX6_tellBit 110 = .ok (.iload 4, 2) := by decide +kernel
theorem dX6_tellBit_112 : decode cX6_tellBit 112 = .ok (.istore 5, 2) := by decide +kernel
theorem dX6_tellBit_114 : decode cX6_tellBit 114 = .ok (.aload_n 0, 1) := by decide +kernel
theorem dX6_tellBit_115 : decode cX6_tellBit 115 = .ok (.getfield 12, 3) := by decide +kernel
theorem dX6_tellBit_118 : decode cX6_tellBit 118 = .ok (.iload_n 1, 1) := by decide +kernel
theorem dX6_tellBit_119 : decode cX6_tellBit 119 = .ok (.iload 5, 2) := by decide +kernel
theorem dX6_tellBit_121 : decode cX6_tellBit 121 = .ok (.invokevirtual 71, 3) := by decide +kernel
theorem dX6_tellBit_124 : decode cX6_tellBit 124 = .ok (.iconst 0, 1) := by decide +kernel
theorem dX6_tellBit_125 : decode cX6_tellBit 125 = .ok (.istore 6, 2) := by decide +kernel
theorem dX6_tellBit_127 : decode cX6_tellBit 127 = .ok (.iload 6, 2) := by decide +kernel
theorem dX6_tellBit_129 : decode cX6_tellBit 129 = .ok (.bipush 15, 2) := by decide +kernel
theorem dX6_tellBit_131 : decode cX6_tellBit 131 = .ok (.if_icmp .ge 65, 3) := by decide +kernel
theorem dX6_tellBit_134 : decode cX6_tellBit 134 = .ok (.aload_n 0, 1) := by decide +kernel
theorem dX6_tellBit_135 : decode cX6_tellBit 135 = .ok (.getfield 60, 3) := by decide +kernel
theorem dX6_tellBit_138 : decode cX6_tellBit 138 = .ok (.ldc 59, 2) := by decide +kernel
theorem dX6_tellBit_140 : decode cX6_tellBit 140 = .ok (.if_icmp .ge 56, 3) := by decide +kernel
theorem dX6_tellBit_143 : decode cX6_tellBit 143 = .ok (.aload_n 0, 1) := by decide +kernel
theorem dX6_tellBit_144 : decode cX6_tellBit 144 = .ok (.getfield 56, 3) := by decide +kernel
theorem dX6_tellBit_147 : decode cX6_tellBit 147 = .ok (.ifCond .ne 7, 3) := by decide +kernel
theorem dX6_tellBit_150 : decode cX6_tellBit 150 = .ok (.aload_n 0, 1) := by decide +kernel
theorem dX6_tellBit_151 : decode cX6_tellBit 151 = .ok (.invokevirtual 53, 3) := by decide +kernel
theorem dX6_tellBit_154 : decode cX6_tellBit 154 = .ok (.aload_n 0, 1) := by decide +kernel
theorem dX6_tellBit_155 : decode cX6_tellBit 155 = .ok (.dup, 1) := by decide +kernel
theorem dX6_tellBit_156 : decode cX6_tellBit 156 = .ok (.getfield 60, 3) := by decide +kernel
theorem dX6_tellBit_159 : decode cX6_tellBit 159 = .ok (.iconst 1, 1) := by decide +kernel
theorem dX6_tellBit_160 : decode cX6_tellBit 160 = .ok (.ishl, 1) := by decide +kernel
theorem dX6_tellBit_161 : decode cX6_tellBit 161 = .ok (.putfield 60, 3) := by decide +kernel
theorem dX6_tellBit_164 : decode cX6_tellBit 164 = .ok (.aload_n 0, 1) := by decide +kernel
theorem dX6_tellBit_165 : decode cX6_tellBit 165 = .ok (.aload_n 0, 1) := by decide +kernel
theorem dX6_tellBit_166 : decode cX6_tellBit 166 = .ok (.getfield 49, 3) := by decide +kernel
theorem dX6_tellBit_169 : decode cX6_tellBit 169 = .ok (.iconst 1, 1) := by decide +kernel
theorem dX6_tellBit_170 : decode cX6_tellBit 170 = .ok (.lshl, 1) := by decide +kernel
theorem dX6_tellBit_171 : decode cX6_tellBit 171 = .ok (.ldc2_w 75, 3) := by decide +kernel
theorem dX6_tellBit_174 : decode cX6_tellBit 174 = .ok (.invokestatic 77, 3) := by decide +kernel
theorem dX6_tellBit_177 : decode cX6_tellBit 177 = .ok (.putfield 49, 3) := by decide +kernel
theorem dX6_tellBit_180 : decode cX6_tellBit 180 = .ok (.aload_n 0, 1) := by decide +kernel
theorem dX6_tellBit_181 : decode cX6_tellBit 181 = .ok (.dup, 1) := by decide +kernel
theorem dX6_tellBit_182 : decode cX6_tellBit 182 = .ok (.getfield 56, 3) := by decide +kernel
theorem dX6_tellBit_185 : decode cX6_tellBit 185 = .ok (.iconst 1, 1) := by decide +kernel
theorem dX6_tellBit_186 : decode cX6_tellBit 186 = .ok (.isub, 1) := by decide +kernel
theorem dX6_tellBit_187 : decode cX6_tellBit 187 = .ok (.putfield 56, 3) := by decide +kernel
theorem dX6_tellBit_190 : decode cX6_tellBit 190 = .ok (.iinc 6 1, 3) := by decide +kernel
theorem dX6_tellBit_193 : decode cX6_tellBit 193 = .ok (.goto (-66), 3) := by decide +kernel
theorem dX6_tellBit_196 : decode cX6_tellBit 196 = .ok (.iload 5, 2) := by decide +kernel
theorem dX6_tellBit_198 : decode cX6_tellBit 198 = .ok (.ireturn, 1) := by decide +kernel
theorem dX7_init_0 : decode cX7_init 0 = .ok (.aload_n 0, 1) := by decide +kernel
theorem dX7_init_1 : decode cX7_init 1 = .ok (.invokespecial 3, 3) := by decide +kernel
theorem dX7_init_4 : decode cX7_init 4 = .ok (.aload_n 0, 1) := by decide +kernel
theorem dX7_init_5 : decode cX7_init 5 = .ok (.sipush 1024, 3) := by decide +kernel
theorem dX7_init_8 : decode cX7_init 8 = .ok (.newarray .int, 2) := by decide +kernel
theorem dX7_init_10 : decode cX7_init 10 = .ok (.putfield 9, 3) := by decide +kernel
theorem dX7_init_13 : decode cX7_init 13 = .ok (.aload_n 0, 1) := by decide +kernel
theorem dX7_init_14 : decode cX7_init 14 = .ok (.sipush 1024, 3) := by decide +kernel
theorem dX7_init_17 : decode cX7_init 17 = .ok (.newarray .int, 2) := by decide +kernel
theorem dX7_init_19 : decode cX7_init 19 = .ok (.putfield 15, 3) := by decide +kernel
theorem dX7_init_22 : decode cX7_init 22 = .ok (.aload_n 0, 1) := by decide +kernel
theorem dX7_init_23 : decode cX7_init 23 = .ok (.bipush 34, 2) := by decide +kernel
theorem dX7_init_25 : decode cX7_init 25 = .ok (.newarray .int, 2) := by decide +kernel
theorem dX7_init_27 : decode cX7_init 27 = .ok (.putfield 18, 3) := by decide +kernel
theorem dX7_init_30 : decode cX7_init 30 = .ok (.return_, 1) := by decide +kernel
theorem dX7_clear_0 : decode cX7_clear 0 = .ok (.aload_n 0, 1) := by decide +kernel
theorem dX7_clear_1 : decode cX7_clear 1 = .ok (.iconst 0, 1) := by decide +kernel
theorem dX7_clear_2 : decode cX7_clear 2 = .ok (.putfield 21, 3) := by decide +kernel
theorem dX7_clear_5 : decode cX7_clear 5 = .ok (.aload_n 0, 1) := by decide +kernel
theorem dX7_clear_6 : decode cX7_clear 6 = .ok (.iconst 0, 1) := by decide +kernel
theorem dX7_clear_7 : decode cX7_clear 7 = .ok (.putfield 25, 3) := by decide +kernel
theorem dX7_clear_10 : decode cX7_clear 10 = .ok (.return_, 1) := by decide +kernel
theorem dX7_tellBit_0 : decode cX7_tellBit 0 = .ok (.aload_n 0, 1) := by decide +kernel
theorem dX7_tellBit_1 : decode cX7_tellBit 1 = .ok (.getfield 21, 3) := by decide +kernel
theorem dX7_tellBit_4 : decode cX7_tellBit 4 = .ok (.sipush 1024, 3) := by decide +kernel
theorem dX7_tellBit_7 : decode cX7_tellBit 7 = .ok (.if_icmp .ge 33, 3) := by decide +kernel
theorem dX7_tellBit_10 : decode cX7_tellBit 10 = .ok (.aload_n 0, 1) := by decide +kernel
theorem dX7_tellBit_11 : decode cX7_tellBit 11 = .ok (.getfield 9, 3) := by decide +kernel
theorem dX7_tellBit_14 : decode cX7_tellBit 14 = .ok (.aload_n 0, 1) := by decide +kernel
theorem dX7_tellBit_15 : decode cX7_tellBit 15 = .ok (.getfield 21, 3) := by decide +kernel
theorem dX7_tellBit_18 : decode cX7_tellBit 18 = .ok (.iload_n 1, 1) := by decide +kernel
theorem dX7_tellBit_19 : decode cX7_tellBit 19 = .ok (.iastore, 1) := by decide +kernel
theorem dX7_tellBit_20 : decode cX7_tellBit 20 = .ok (.aload_n 0, 1) := by decide +kernel
theorem dX7_tellBit_21 : decode cX7_tellBit 21 = .ok (.getfield 15, 3) := by decide +kernel
theorem dX7_tellBit_24 : decode cX7_tellBit 24 = .ok (.aload_n 0, 1) := by decide +kernel
theorem dX7_tellBit_25 : decode cX7_tellBit 25 = .ok (.getfield 21, 3) := by decide +kernel
theorem dX7_tellBit_28 : decode cX7_tellBit 28 = .ok (.iload_n 2, 1) := by decide +kernel
theorem dX7_tellBit_29 : decode cX7_tellBit 29 = .ok (.iastore, 1) := by decide +kernel
theorem dX7_tellBit_30 : decode cX7_tellBit 30 = .ok (.aload_n 0, 1) := by decide +kernel
theorem dX7_tellBit_31 : decode cX7_tellBit 31 = .ok (.dup, 1) := by decide +kernel
theorem dX7_tellBit_32 : decode cX7_tellBit 32 = .ok (.getfield 21, 3) := by decide +kernel
theorem dX7_tellBit_35 : decode cX7_tellBit 35 = .ok (.iconst 1, 1) := by decide +kernel
theorem dX7_tellBit_36 : decode cX7_tellBit 36 = .ok (.iadd, 1) := by decide +kernel
theorem dX7_tellBit_37 : decode cX7_tellBit 37 = .ok (.putfield 21, 3) := by decide +kernel
theorem dX7_tellBit_40 : decode cX7_tellBit 40 = .ok (.iload_n 2, 1) := by decide +kernel
theorem dX7_tellBit_41 : decode cX7_tellBit 41 = .ok (.ireturn, 1) := by decide +kernel
theorem dX7_endPass_0 : decode cX7_endPass 0 = .ok (.aload_n 0, 1) := by decide +kernel
theorem dX7_endPass_1 : decode cX7_endPass 1 = .ok (.getfield 25, 3) := by decide +kernel
theorem dX7_endPass_4 : decode cX7_endPass 4 = .ok (.bipush 34, 2) := by decide +kernel
theorem dX7_endPass_6 : decode cX7_endPass 6 = .ok (.if_icmp .ge 26, 3) := by decide +kernel
theorem dX7_endPass_9 : decode cX7_endPass 9 = .ok (.aload_n 0, 1) := by decide +kernel
theorem dX7_endPass_10 : decode cX7_endPass 10 = .ok (.getfield 18, 3) := by decide +kernel
theorem dX7_endPass_13 : decode cX7_endPass 13 = .ok (.aload_n 0, 1) := by decide +kernel
theorem dX7_endPass_14 : decode cX7_endPass 14 = .ok (.getfield 25, 3) := by decide +kernel
theorem dX7_endPass_17 : decode cX7_endPass 17 = .ok (.aload_n 0, 1) := by decide +kernel
theorem dX7_endPass_18 : decode cX7_endPass 18 = .ok (.getfield 21, 3) := by decide +kernel
theorem dX7_endPass_21 : decode cX7_endPass 21 = .ok (.iastore, 1) := by decide +kernel
theorem dX7_endPass_22 : decode cX7_endPass 22 = .ok (.aload_n 0, 1) := by decide +kernel
theorem dX7_endPass_23 : decode cX7_endPass 23 = .ok (.dup, 1) := by decide +kernel
theorem dX7_endPass_24 : decode cX7_endPass 24 = .ok (.getfield 25, 3) := by decide +kernel
theorem dX7_endPass_27 : decode cX7_endPass 27 = .ok (.iconst 1, 1) := by decide +kernel
theorem dX7_endPass_28 : decode cX7_endPass 28 = .ok (.iadd, 1) := by decide +kernel
theorem dX7_endPass_29 : decode cX7_endPass 29 = .ok (.putfield 25, 3) := by decide +kernel
theorem dX7_endPass_32 : decode cX7_endPass 32 = .ok (.return_, 1) := by decide +kernel
theorem dX7_tellTo_0 : decode cX7_tellTo 0 = .ok (.iconst 0, 1) := by decide +kernel
theorem dX7_tellTo_1 : decode cX7_tellTo 1 = .ok (.istore_n 2, 1) := by decide +kernel
theorem dX7_tellTo_2 : decode cX7_tellTo 2 = .ok (.iload_n 2, 1) := by decide +kernel
theorem dX7_tellTo_3 : decode cX7_tellTo 3 = .ok (.aload_n 0, 1) := by decide +kernel
theorem dX7_tellTo_4 : decode cX7_tellTo 4 = .ok (.getfield 21, 3) := by decide +kernel
theorem dX7_tellTo_7 : decode cX7_tellTo 7 = .ok (.if_icmp .ge 25, 3) := by decide +kernel
theorem dX7_tellTo_10 : decode cX7_tellTo 10 = .ok (.aload_n 1, 1) := by decide +kernel
theorem dX7_tellTo_11 : decode cX7_tellTo 11 = .ok (.aload_n 0, 1) := by decide +kernel
theorem dX7_tellTo_12 : decode cX7_tellTo 12 = .ok (.getfield 9, 3) := by decide +kernel
theorem dX7_tellTo_15 : decode cX7_tellTo 15 = .ok (.iload_n 2, 1) := by decide +kernel
theorem dX7_tellTo_16 : decode cX7_tellTo 16 = .ok (.iaload, 1) := by decide +kernel
theorem dX7_tellTo_17 : decode cX7_tellTo 17 = .ok (.aload_n 0, 1) := by decide +kernel
theorem dX7_tellTo_18 : decode cX7_tellTo 18 = .ok (.getfield 15, 3) := by decide +kernel
theorem dX7_tellTo_21 : decode cX7_tellTo 21 = .ok (.iload_n 2, 1) := by decide +kernel
theorem dX7_tellTo_22 : decode cX7_tellTo 22 = .ok (.iaload, 1) := by decide +kernel
theorem dX7_tellTo_23 : decode cX7_tellTo 23 = .ok (.invokevirtual 28, 3) := by decide +kernel
theorem dX7_tellTo_26 : decode cX7_tellTo 26 = .ok (.iinc 2 1, 3) := by decide +kernel
theorem dX7_tellTo_29 : decode cX7_tellTo 29 = .ok (.goto (-27), 3) := by decide +kernel
theorem dX7_tellTo_32 : decode cX7_tellTo 32 = .ok (.return_, 1) := by decide +kernel
theorem dX7_passesReadRight_0 : decode cX7_passesReadRight 0 = .ok (.iconst 0, 1) := by decide +kernel
theorem dX7_passesReadRight_1 : decode cX7_passesReadRight 1 = .ok (.istore_n 2, 1) := by decide +kernel
theorem dX7_passesReadRight_2 : decode cX7_passesReadRight 2 = .ok (.iconst 0, 1) := by decide +kernel
theorem dX7_passesReadRight_3 : decode cX7_passesReadRight 3 = .ok (.istore_n 3, 1) := by decide +kernel
theorem dX7_passesReadRight_4 : decode cX7_passesReadRight 4 = .ok (.iload_n 3, 1) := by decide +kernel
theorem dX7_passesReadRight_5 : decode cX7_passesReadRight 5 = .ok (.aload_n 0, 1) := by decide +kernel
theorem dX7_passesReadRight_6 : decode cX7_passesReadRight 6 = .ok (.getfield 25, 3) := by decide +kernel
theorem dX7_passesReadRight_9 : decode cX7_passesReadRight 9 = .ok (.if_icmp .ge 47, 3) := by decide +kernel
theorem dX7_passesReadRight_12 : decode cX7_passesReadRight 12 = .ok (.iload_n 2, 1) := by decide +kernel
theorem dX7_passesReadRight_13 : decode cX7_passesReadRight 13 = .ok (.aload_n 0, 1) := by decide +kernel
theorem dX7_passesReadRight_14 : decode cX7_passesReadRight 14 = .ok (.getfield 18, 3) := by decide +kernel
theorem dX7_passesReadRight_17 : decode cX7_passesReadRight 17 = .ok (.iload_n 3, 1) := by decide +kernel
theorem dX7_passesReadRight_18 : decode cX7_passesReadRight 18 = .ok (.iaload, 1) := by decide +kernel
theorem dX7_passesReadRight_19 : decode cX7_passesReadRight 19 = .ok (.if_icmp .ge 31, 3) := by decide +kernel
theorem dX7_passesReadRight_22 : decode cX7_passesReadRight 22 = .ok (.aload_n 1, 1) := by decide +kernel
theorem dX7_passesReadRight_23 : decode cX7_passesReadRight 23 = .ok (.aload_n 0, 1) := by decide +kernel
theorem dX7_passesReadRight_24 : decode cX7_passesReadRight 24 = .ok (.getfield 9, 3) := by decide +kernel
theorem dX7_passesReadRight_27 : decode cX7_passesReadRight 27 = .ok (.iload_n 2, 1) := by decide +kernel
theorem dX7_passesReadRight_28 : decode cX7_passesReadRight 28 = .ok (.iaload, 1) := by decide +kernel
theorem dX7_passesReadRight_29 : decode cX7_passesReadRight 29 = .ok (.iconst 0, 1) := by decide +kernel
theorem dX7_passesReadRight_30 : decode cX7_passesReadRight 30 = .ok (.invokevirtual 34, 3) := by decide +kernel
theorem dX7_passesReadRight_33 : decode cX7_passesReadRight 33 = .ok (.aload_n 0, 1) := by decide +kernel
theorem dX7_passesReadRight_34 : decode cX7_passesReadRight 34 = .ok (.getfield 15, 3) := by decide +kernel
theorem dX7_passesReadRight_37 : decode cX7_passesReadRight 37 = .ok (.iload_n 2, 1) := by decide +kernel
theorem dX7_passesReadRight_38 : decode cX7_passesReadRight 38 = .ok (.iaload, 1) := by decide +kernel
theorem dX7_passesReadRight_39 : decode cX7_passesReadRight 39 = .ok (.if_icmp .eq 5, 3) := by decide +kernel
theorem dX7_passesReadRight_42 : decode cX7_passesReadRight 42 = .ok (.iload_n 3, 1) := by decide +kernel
theorem dX7_passesReadRight_43 : decode cX7_passesReadRight 43 = .ok (.ireturn, 1) := by decide +kernel
theorem dX7_passesReadRight_44 : decode cX7_passesReadRight 44 = .ok (.iinc 2 1, 3) := by decide +kernel
theorem dX7_passesReadRight_47 : decode cX7_passesReadRight 47 = .ok (.goto (-35), 3) := by decide +kernel
theorem dX7_passesReadRight_50 : decode cX7_passesReadRight 50 = .ok (.iinc 3 1, 3) := by decide +kernel
theorem dX7_passesReadRight_53 : decode cX7_passesReadRight 53 = .ok (.goto (-49), 3) := by decide +kernel
theorem dX7_passesReadRight_56 : decode cX7_passesReadRight 56 = .ok (.aload_n 0, 1) := by decide +kernel
theorem dX7_passesReadRight_57 : decode cX7_passesReadRight 57 = .ok (.getfield 25, 3) := by decide +kernel
theorem dX7_passesReadRight_60 : decode cX7_passesReadRight 60 = .ok (.ireturn, 1) := by decide +kernel
theorem dX8_init_0 : decode cX8_init 0 = .ok (.aload_n 0, 1) := by decide +kernel
theorem dX8_init_1 : decode cX8_init 1 = .ok (.invokespecial 3, 3) := by decide +kernel
theorem dX8_init_4 : decode cX8_init 4 = .ok (.aload_n 0, 1) := by decide +kernel
theorem dX8_init_5 : decode cX8_init 5 = .ok (.new 9, 3) := by decide +kernel
theorem dX8_init_8 : decode cX8_init 8 = .ok (.dup, 1) := by decide +kernel
theorem dX8_init_9 : decode cX8_init 9 = .ok (.invokespecial 11, 3) := by decide +kernel
theorem dX8_init_12 : decode cX8_init 12 = .ok (.putfield 12, 3) := by decide +kernel
theorem dX8_init_15 : decode cX8_init 15 = .ok (.aload_n 0, 1) := by decide +kernel
theorem dX8_init_16 : decode cX8_init 16 = .ok (.sipush 1024, 3) := by decide +kernel
theorem dX8_init_19 : decode cX8_init 19 = .ok (.newarray .int, 2) := by decide +kernel
theorem dX8_init_21 : decode cX8_init 21 = .ok (.putfield 18, 3) := by decide +kernel
theorem dX8_init_24 : decode cX8_init 24 = .ok (.return_, 1) := by decide +kernel
theorem dX8_begin_0 : decode cX8_begin 0 = .ok (.aload_n 0, 1) := by decide +kernel
theorem dX8_begin_1 : decode cX8_begin 1 = .ok (.getfield 12, 3) := by decide +kernel
theorem dX8_begin_4 : decode cX8_begin 4 = .ok (.invokevirtual 22, 3) := by decide +kernel
theorem dX8_begin_7 : decode cX8_begin 7 = .ok (.aload_n 0, 1) := by decide +kernel
theorem dX8_begin_8 : decode cX8_begin 8 = .ok (.getfield 18, 3) := by decide +kernel
theorem dX8_begin_11 : decode cX8_begin 11 = .ok (.iconst 0, 1) := by decide +kernel
theorem dX8_begin_12 : decode cX8_begin 12 = .ok (.iconst 0, 1) := by decide +kernel
theorem dX8_begin_13 : decode cX8_begin 13 = .ok (.iastore, 1) := by decide +kernel
theorem dX8_begin_14 : decode cX8_begin 14 = .ok (.aload_n 0, 1) := by decide +kernel
theorem dX8_begin_15 : decode cX8_begin 15 = .ok (.iconst 1, 1) := by decide +kernel
theorem dX8_begin_16 : decode cX8_begin 16 = .ok (.putfield 25, 3) := by decide +kernel
theorem dX8_begin_19 : decode cX8_begin 19 = .ok (.aload_n 0, 1) := by decide +kernel
theorem dX8_begin_20 : decode cX8_begin 20 = .ok (.ldc 29, 2) := by decide +kernel
theorem dX8_begin_22 : decode cX8_begin 22 = .ok (.putfield 30, 3) := by decide +kernel
theorem dX8_begin_25 : decode cX8_begin 25 = .ok (.aload_n 0, 1) := by decide +kernel
theorem dX8_begin_26 : decode cX8_begin 26 = .ok (.iconst 0, 1) := by decide +kernel
theorem dX8_begin_27 : decode cX8_begin 27 = .ok (.putfield 33, 3) := by decide +kernel
theorem dX8_begin_30 : decode cX8_begin 30 = .ok (.aload_n 0, 1) := by decide +kernel
theorem dX8_begin_31 : decode cX8_begin 31 = .ok (.bipush 12, 2) := by decide +kernel
theorem dX8_begin_33 : decode cX8_begin 33 = .ok (.putfield 36, 3) := by decide +kernel
theorem dX8_begin_36 : decode cX8_begin 36 = .ok (.return_, 1) := by decide +kernel
theorem dX8_tell_0 : decode cX8_tell 0 = .ok (.aload_n 0, 1) := by decide +kernel
theorem dX8_tell_1 : decode cX8_tell 1 = .ok (.getfield 12, 3) := by decide +kernel
theorem dX8_tell_4 : decode cX8_tell 4 = .ok (.iload_n 1, 1) := by decide +kernel
theorem dX8_tell_5 : decode cX8_tell 5 = .ok (.invokevirtual 39, 3) := by decide +kernel
theorem dX8_tell_8 : decode cX8_tell 8 = .ok (.istore_n 3, 1) := by decide +kernel
theorem dX8_tell_9 : decode cX8_tell 9 = .ok (.iload_n 2, 1) := by decide +kernel
theorem dX8_tell_10 : decode cX8_tell 10 = .ok (.aload_n 0, 1) := by decide +kernel
theorem dX8_tell_11 : decode cX8_tell 11 = .ok (.getfield 12, 3) := by decide +kernel
theorem dX8_tell_14 : decode cX8_tell 14 = .ok (.iload_n 1, 1) := by decide +kernel
theorem dX8_tell_15 : decode cX8_tell 15 = .ok (.invokevirtual 43, 3) := by decide +kernel
theorem dX8_tell_18 : decode cX8_tell 18 = .ok (.if_icmp .ne 7, 3) := by decide +kernel
theorem dX8_tell_21 : decode cX8_tell 21 = .ok (.iconst 1, 1) := by decide +kernel
theorem dX8_tell_22 : decode cX8_tell 22 = .ok (.goto 4, 3) := by decide +kernel
theorem dX8_tell_25 : decode cX8_tell 25 = .ok (.iconst 0, 1) := by decide +kernel
theorem dX8_tell_26 : decode cX8_tell 26 = .ok (.istore 4, 2) := by decide +kernel
theorem dX8_tell_28 : decode cX8_tell 28 = .ok (.aload_n 0, 1) := by decide +kernel
theorem dX8_tell_29 : decode cX8_tell 29 = .ok (.dup, 1) := by decide +kernel
theorem dX8_tell_30 : decode cX8_tell 30 = .ok (.getfield 30, 3) := by decide +kernel
theorem dX8_tell_33 : decode cX8_tell 33 = .ok (.iload_n 3, 1) := by decide +kernel
theorem dX8_tell_34 : decode cX8_tell 34 = .ok (.isub, 1) := by decide +kernel
theorem dX8_tell_35 : decode cX8_tell 35 = .ok (.putfield 30, 3) := by decide +kernel
theorem dX8_tell_38 : decode cX8_tell 38 = .ok (.iload 4, 2) := by decide +kernel
theorem dX8_tell_40 : decode cX8_tell 40 = .ok (.ifCond .eq 23, 3) := by decide +kernel
theorem dX8_tell_43 : decode cX8_tell 43 = .ok (.aload_n 0, 1) := by decide +kernel
theorem dX8_tell_44 : decode cX8_tell 44 = .ok (.getfield 30, 3) := by decide +kernel
theorem dX8_tell_47 : decode cX8_tell 47 = .ok (.ldc 29, 2) := by decide +kernel
theorem dX8_tell_49 : decode cX8_tell 49 = .ok (.if_icmp .lt 14, 3) := by decide +kernel
theorem dX8_tell_52 : decode cX8_tell 52 = .ok (.aload_n 0, 1) := by decide +kernel
theorem dX8_tell_53 : decode cX8_tell 53 = .ok (.dup, 1) := by decide +kernel
theorem dX8_tell_54 : decode cX8_tell 54 = .ok (.getfield 33, 3) := by decide +kernel
theorem dX8_tell_57 : decode cX8_tell 57 = .ok (.iload_n 3, 1) := by decide +kernel
theorem dX8_tell_58 : decode cX8_tell 58 = .ok (.iadd, 1) := by decide +kernel
theorem dX8_tell_59 : decode cX8_tell 59 = .ok (.putfield 33, 3) := by decide +kernel
theorem dX8_tell_62 : decode cX8_tell 62 = .ok (.return_, 1) := by decide +kernel
theorem dX8_tell_63 : decode cX8_tell 63 = .ok (.iload 4, 2) := by decide +kernel
theorem dX8_tell_65 : decode cX8_tell 65 = .ok (.aload_n 0, 1) := by decide +kernel
theorem dX8_tell_66 : decode cX8_tell 66 = .ok (.getfield 30, 3) := by decide +kernel
theorem dX8_tell_69 : decode cX8_tell 69 = .ok (.iload_n 3, 1) := by decide +kernel
theorem dX8_tell_70 : decode cX8_tell 70 = .ok (.if_icmp .ge 7, 3) := by decide +kernel
theorem dX8_tell_73 : decode cX8_tell 73 = .ok (.iconst 1, 1) := by decide +kernel
theorem dX8_tell_74 : decode cX8_tell 74 = .ok (.goto 4, 3) := by decide +kernel
theorem dX8_tell_77 : decode cX8_tell 77 = .ok (.iconst 0, 1) := by decide +kernel
theorem dX8_tell_78 : decode cX8_tell 78 = .ok (.if_icmp .ne 11, 3) := by decide +kernel
theorem dX8_tell_81 : decode cX8_tell 81 = .ok (.aload_n 0, 1) := by decide +kernel
theorem dX8_tell_82 : decode cX8_tell 82 = .ok (.iload_n 3, 1) := by decide +kernel
theorem dX8_tell_83 : decode cX8_tell 83 = .ok (.putfield 30, 3) := by decide +kernel
theorem dX8_tell_86 : decode cX8_tell 86 = .ok (.goto 13, 3) := by decide +kernel
theorem dX8_tell_89 : decode cX8_tell 89 = .ok (.aload_n 0, 1) := by decide +kernel
theorem dX8_tell_90 : decode cX8_tell 90 = .ok (.dup, 1) := by decide +kernel
theorem dX8_tell_91 : decode cX8_tell 91 = .ok (.getfield 33, 3) := by decide +kernel
theorem dX8_tell_94 : decode cX8_tell 94 = .ok (.iload_n 3, 1) := by decide +kernel
theorem dX8_tell_95 : decode cX8_tell 95 = .ok (.iadd, 1) := by decide +kernel
theorem dX8_tell_96 : decode cX8_tell 96 = .ok (.putfield 33, 3) := by decide +kernel
theorem dX8_tell_99 : decode cX8_tell 99 = .ok (.aload_n 0, 1) := by decide +kernel
theorem dX8_tell_100 : decode cX8_tell 100 = .ok (.getfield 12, 3) := by decide +kernel
theorem dX8_tell_103 : decode cX8_tell 103 = .ok (.iload_n 1, 1) := by decide +kernel
theorem dX8_tell_104 : decode cX8_tell 104 = .ok (.iload_n 2, 1) := by decide +kernel
theorem dX8_tell_105 : decode cX8_tell 105 = .ok (.invokevirtual 46, 3) := by decide +kernel
theorem dX8_tell_108 : decode cX8_tell 108 = .ok (.aload_n 0, 1) := by decide +kernel
theorem dX8_tell_109 : decode cX8_tell 109 = .ok (.invokevirtual 50, 3) := by decide +kernel
theorem dX8_tell_112 : decode cX8_tell 112 = .ok (.return_, 1) := by decide +kernel
theorem dX8_mend_0 : decode cX8_mend 0 = .ok (.iconst 0, 1) := by decide +kernel
theorem dX8_mend_1 : decode cX8_mend 1 = .ok (.istore_n 1, 1) := by decide +kernel
theorem dX8_mend_2 : decode cX8_mend 2 = .ok (.iload_n 1, 1) := by decide +kernel
theorem dX8_mend_3 : decode cX8_mend 3 = .ok (.bipush 15, 2) := by decide +kernel
theorem dX8_mend_5 : decode cX8_mend 5 = .ok (.if_icmp .ge 59, 3) := by decide +kernel
theorem dX8_mend_8 : decode cX8_mend 8 = .ok (.aload_n 0, 1) := by decide +kernel
theorem dX8_mend_9 : decode cX8_mend 9 = .ok (.getfield 30, 3) := by decide +kernel
theorem dX8_mend_12 : decode cX8_mend 12 = .ok (.ldc 29, 2) := by decide +kernel
theorem dX8_mend_14 : decode cX8_mend 14 = .ok (.if_icmp .ge 50, 3) := by decide +kernel
theorem dX8_mend_17 : decode cX8_mend 17 = .ok (.aload_n 0, 1) := by decide +kernel
theorem dX8_mend_18 : decode cX8_mend 18 = .ok (.dup, 1) := by decide +kernel
theorem dX8_mend_19 : decode cX8_mend 19 = .ok (.getfield 30, 3) := by decide +kernel
theorem dX8_mend_22 : decode cX8_mend 22 = .ok (.iconst 1, 1) := by decide +kernel
theorem dX8_mend_23 : decode cX8_mend 23 = .ok (.ishl, 1) := by decide +kernel
theorem dX8_mend_24 : decode cX8_mend 24 = .ok (.putfield 30, 3) := by decide +kernel
theorem dX8_mend_27 : decode cX8_mend 27 = .ok (.aload_n 0, 1) := by decide +kernel
theorem dX8_mend_28 : decode cX8_mend 28 = .ok (.dup, 1) := by decide +kernel
theorem dX8_mend_29 : decode cX8_mend 29 = .ok (.getfield 33, 3) := by decide +kernel
theorem dX8_mend_32 : decode cX8_mend 32 = .ok (.iconst 1, 1) := by decide +kernel
theorem dX8_mend_33 : decode cX8_mend 33 = .ok (.ishl, 1) := by decide +kernel
theorem dX8_mend_34 : decode cX8_mend 34 = .ok (.putfield 33, 3) := by decide +kernel
theorem dX8_mend_37 : decode cX8_mend 37 = .ok (.aload_n 0, 1) := by decide +kernel
theorem dX8_mend_38 : decode cX8_mend 38 = .ok (.dup, 1) := by decide +kernel
theorem dX8_mend_39 : decode cX8_mend 39 = .ok (.getfield 36, 3) := by decide +kernel
theorem dX8_mend_42 : decode cX8_mend 42 = .ok (.iconst 1, 1) := by decide +kernel
theorem dX8_mend_43 : decode cX8_mend 43 = .ok (.isub, 1) := by decide +kernel
theorem dX8_mend_44 : decode cX8_mend 44 = .ok (.putfield 36, 3) := by decide +kernel
theorem dX8_mend_47 : decode cX8_mend 47 = .ok (.aload_n 0, 1) := by decide +kernel
theorem dX8_mend_48 : decode cX8_mend 48 = .ok (.getfield 36, 3) := by decide +kernel
theorem dX8_mend_51 : decode cX8_mend 51 = .ok (.ifCond .ne 7, 3) := by decide +kernel
theorem dX8_mend_54 : decode cX8_mend 54 = .ok (.aload_n 0, 1) := by decide +kernel
theorem dX8_mend_55 : decode cX8_mend 55 = .ok (.invokevirtual 53, 3) := by decide +kernel
theorem dX8_mend_58 : decode cX8_mend 58 = .ok (.iinc 1 1, 3) := by decide +kernel
theorem dX8_mend_61 : decode cX8_mend 61 = .ok (.goto (-59), 3) := by decide +kernel
theorem dX8_mend_64 : decode cX8_mend 64 = .ok (.return_, 1) := by decide +kernel
theorem dX8_goOut_0 : decode cX8_goOut 0 = .ok (.aload_n 0, 1) := by decide +kernel
theorem dX8_goOut_1 : decode cX8_goOut 1 = .ok (.getfield 18, 3) := by decide +kernel
theorem dX8_goOut_4 : decode cX8_goOut 4 = .ok (.aload_n 0, 1) := by decide +kernel
theorem dX8_goOut_5 : decode cX8_goOut 5 = .ok (.getfield 25, 3) := by decide +kernel
theorem dX8_goOut_8 : decode cX8_goOut 8 = .ok (.iconst 1, 1) := by decide +kernel
theorem dX8_goOut_9 : decode cX8_goOut 9 = .ok (.isub, 1) := by decide +kernel
theorem dX8_goOut_10 : decode cX8_goOut 10 = .ok (.iaload, 1) := by decide +kernel
theorem dX8_goOut_11 : decode cX8_goOut 11 = .ok (.istore_n 1, 1) := by decide +kernel
theorem dX8_goOut_12 : decode cX8_goOut 12 = .ok (.iload_n 1, 1) := by decide +kernel
theorem dX8_goOut_13 : decode cX8_goOut 13 = .ok (.sipush 255, 3) := by decide +kernel
theorem dX8_goOut_16 : decode cX8_goOut 16 = .ok (.if_icmp .eq 45, 3) := by decide +kernel
theorem dX8_goOut_19 : decode cX8_goOut 19 = .ok (.aload_n 0, 1) := by decide +kernel
theorem dX8_goOut_20 : decode cX8_goOut 20 = .ok (.getfield 33, 3) := by decide +kernel
theorem dX8_goOut_23 : decode cX8_goOut 23 = .ok (.ldc 56, 2) := by decide +kernel
theorem dX8_goOut_25 : decode cX8_goOut 25 = .ok (.if_icmp .lt 36, 3) := by decide +kernel
theorem dX8_goOut_28 : decode cX8_goOut 28 = .ok (.iinc 1 1, 3) := by decide +kernel
theorem dX8_goOut_31 : decode cX8_goOut 31 = .ok (.aload_n 0, 1) := by decide +kernel
theorem dX8_goOut_32 : decode cX8_goOut 32 = .ok (.getfield 18, 3) := by decide +kernel
theorem dX8_goOut_35 : decode cX8_goOut 35 = .ok (.aload_n 0, 1) := by decide +kernel
theorem dX8_goOut_36 : decode cX8_goOut 36 = .ok (.getfield 25, 3) := by decide +kernel
theorem dX8_goOut_39 : decode cX8_goOut 39 = .ok (.iconst 1, 1) := by decide +kernel
theorem dX8_goOut_40 : decode cX8_goOut 40 = .ok (.isub, 1) := by decide +kernel
theorem dX8_goOut_41 : decode cX8_goOut 41 = .ok (.iload_n 1, 1) := by decide +kernel
theorem dX8_goOut_42 : decode cX8_goOut 42 = .ok (.iastore, 1) := by decide +kernel
theorem dX8_goOut_43 : decode cX8_goOut 43 = .ok (.iload_n 1, 1) := by decide +kernel
theorem dX8_goOut_44 : decode cX8_goOut 44 = .ok (.sipush 255, 3) := by decide +kernel
theorem dX8_goOut_47 : decode cX8_goOut 47 = .ok (.if_icmp .ne 14, 3) := by decide +kernel
theorem dX8_goOut_50 : decode cX8_goOut 50 = .ok (.aload_n 0, 1) := by decide +kernel
theorem dX8_goOut_51 : decode cX8_goOut 51 = .ok (.dup, 1) := by decide +kernel
theorem dX8_goOut_52 : decode cX8_goOut 52 = .ok (.getfield 33, 3) := by decide +kernel
theorem dX8_goOut_55 : decode cX8_goOut 55 = .ok (.ldc 57, 2) := by decide +kernel
theorem dX8_goOut_57 : decode cX8_goOut 57 = .ok (.iand, 1) := by decide +kernel
theorem dX8_goOut_58 : decode cX8_goOut 58 = .ok (.putfield 33, 3) := by decide +kernel
theorem dX8_goOut_61 : decode cX8_goOut 61 = .ok (.iload_n 1, 1) := by decide +kernel
theorem dX8_goOut_62 : decode cX8_goOut 62 = .ok (.sipush 255, 3) := by decide +kernel
theorem dX8_goOut_65 : decode cX8_goOut 65 = .ok (.if_icmp .ne 8, 3) := by decide +kernel
theorem dX8_goOut_68 : decode cX8_goOut 68 = .ok (.ldc 58, 2) := by decide +kernel
theorem dX8_goOut_70 : decode cX8_goOut 70 = .ok (.goto 5, 3) := by decide +kernel
theorem dX8_goOut_73 : decode cX8_goOut 73 = .ok (.ldc 59, 2) := by decide +kernel
theorem dX8_goOut_75 : decode cX8_goOut 75 = .ok (.istore_n 2, 1) := by decide +kernel
theorem dX8_goOut_76 : decode cX8_goOut 76 = .ok (.aload_n 0, 1) := by decide +kernel
theorem dX8_goOut_77 : decode cX8_goOut 77 = .ok (.getfield 25, 3) := by decide +kernel
theorem dX8_goOut_80 : decode cX8_goOut 80 = .ok (.sipush 1024, 3) := by decide +kernel
theorem dX8_goOut_83 : decode cX8_goOut 83 = .ok (.if_icmp .ge 32, 3) := by decide +kernel
theorem dX8_goOut_86 : decode cX8_goOut 86 = .ok (.aload_n 0, 1) := by decide +kernel
theorem dX8_goOut_87 : decode cX8_goOut 87 = .ok (.getfield 18, 3) := by decide +kernel
theorem dX8_goOut_90 : decode cX8_goOut 90 = .ok (.aload_n 0, 1) := by decide +kernel
theorem dX8_goOut_91 : decode cX8_goOut 91 = .ok (.getfield 25, 3) := by decide +kernel
theorem dX8_goOut_94 : decode cX8_goOut 94 = .ok (.aload_n 0, 1) := by decide +kernel
theorem dX8_goOut_95 : decode cX8_goOut 95 = .ok (.getfield 33, 3) := by decide +kernel
theorem dX8_goOut_98 : decode cX8_goOut 98 = .ok (.iload_n 2, 1) := by decide +kernel
theorem dX8_goOut_99 : decode cX8_goOut 99 = .ok (.idiv, 1) := by decide +kernel
theorem dX8_goOut_100 : decode cX8_goOut 100 = .ok (.sipush 255, 3) := by decide +kernel
theorem dX8_goOut_103 : decode cX8_goOut 103 = .ok (.iand, 1) := by decide +kernel
theorem dX8_goOut_104 : decode cX8_goOut 104 = .ok (.iastore, 1) := by decide +kernel
theorem dX8_goOut_105 : decode cX8_goOut 105 = .ok (.aload_n 0, 1) := by decide +kernel
theorem dX8_goOut_106 : decode cX8_goOut 106 = .ok (.dup, 1) := by decide +kernel
theorem dX8_goOut_107 : decode cX8_goOut 107 = .ok (.getfield 25, 3) := by decide +kernel
theorem dX8_goOut_110 : decode cX8_goOut 110 = .ok (.iconst 1, 1) := by decide +kernel
theorem dX8_goOut_111 : decode cX8_goOut 111 = .ok (.iadd, 1) := by decide +kernel
theorem dX8_goOut_112 : decode cX8_goOut 112 = .ok (.putfield 25, 3) := by decide +kernel
theorem dX8_goOut_115 : decode cX8_goOut 115 = .ok (.aload_n 0, 1) := by decide +kernel
theorem dX8_goOut_116 : decode cX8_goOut 116 = .ok (.dup, 1) := by decide +kernel
theorem dX8_goOut_117 : decode cX8_goOut 117 = .ok (.getfield 33, 3) := by decide +kernel
theorem dX8_goOut_120 : decode cX8_goOut 120 = .ok (.iload_n 2, 1) := by decide +kernel
theorem dX8_goOut_121 : decode cX8_goOut 121 = .ok (.irem, 1) := by decide +kernel
theorem dX8_goOut_122 : decode cX8_goOut 122 = .ok (.putfield 33, 3) := by decide +kernel
theorem dX8_goOut_125 : decode cX8_goOut 125 = .ok (.aload_n 0, 1) := by decide +kernel
theorem dX8_goOut_126 : decode cX8_goOut 126 = .ok (.iload_n 1, 1) := by decide +kernel
theorem dX8_goOut_127 : decode cX8_goOut 127 = .ok (.sipush 255, 3) := by decide +kernel
theorem dX8_goOut_130 : decode cX8_goOut 130 = .ok (.if_icmp .ne 8, 3) := by decide +kernel
theorem dX8_goOut_133 : decode cX8_goOut 133 = .ok (.bipush 7, 2) := by decide +kernel
theorem dX8_goOut_135 : decode cX8_goOut 135 = .ok (.goto 5, 3) := by decide +kernel
theorem dX8_goOut_138 : decode cX8_goOut 138 = .ok (.bipush 8, 2) := by decide +kernel
theorem dX8_goOut_140 : decode cX8_goOut 140 = .ok (.putfield 36, 3) := by decide +kernel
theorem dX8_goOut_143 : decode cX8_goOut 143 = .ok (.return_, 1) := by decide +kernel
theorem dX8_end_0 : decode cX8_end 0 = .ok (.aload_n 0, 1) := by decide +kernel
theorem dX8_end_1 : decode cX8_end 1 = .ok (.getfield 33, 3) := by decide +kernel
theorem dX8_end_4 : decode cX8_end 4 = .ok (.aload_n 0, 1) := by decide +kernel
theorem dX8_end_5 : decode cX8_end 5 = .ok (.getfield 30, 3) := by decide +kernel
theorem dX8_end_8 : decode cX8_end 8 = .ok (.iadd, 1) := by decide +kernel
theorem dX8_end_9 : decode cX8_end 9 = .ok (.istore_n 1, 1) := by decide +kernel
theorem dX8_end_10 : decode cX8_end 10 = .ok (.aload_n 0, 1) := by decide +kernel
theorem dX8_end_11 : decode cX8_end 11 = .ok (.dup, 1) := by decide +kernel
theorem dX8_end_12 : decode cX8_end 12 = .ok (.getfield 33, 3) := by decide +kernel
theorem dX8_end_15 : decode cX8_end 15 = .ok (.ldc 60, 2) := by decide +kernel
theorem dX8_end_17 : decode cX8_end 17 = .ok (.ior, 1) := by decide +kernel
theorem dX8_end_18 : decode cX8_end 18 = .ok (.putfield 33, 3) := by decide +kernel
theorem dX8_end_21 : decode cX8_end 21 = .ok (.aload_n 0, 1) := by decide +kernel
theorem dX8_end_22 : decode cX8_end 22 = .ok (.getfield 33, 3) := by decide +kernel
theorem dX8_end_25 : decode cX8_end 25 = .ok (.iload_n 1, 1) := by decide +kernel
theorem dX8_end_26 : decode cX8_end 26 = .ok (.if_icmp .lt 14, 3) := by decide +kernel
theorem dX8_end_29 : decode cX8_end 29 = .ok (.aload_n 0, 1) := by decide +kernel
theorem dX8_end_30 : decode cX8_end 30 = .ok (.dup, 1) := by decide +kernel
theorem dX8_end_31 : decode cX8_end 31 = .ok (.getfield 33, 3) := by decide +kernel
theorem dX8_end_34 : decode cX8_end 34 = .ok (.ldc 29, 2) := by decide +kernel
theorem dX8_end_36 : decode cX8_end 36 = .ok (.isub, 1) := by decide +kernel
theorem dX8_end_37 : decode cX8_end 37 = .ok (.putfield 33, 3) := by decide +kernel
theorem dX8_end_40 : decode cX8_end 40 = .ok (.aload_n 0, 1) := by decide +kernel
theorem dX8_end_41 : decode cX8_end 41 = .ok (.dup, 1) := by decide +kernel
theorem dX8_end_42 : decode cX8_end 42 = .ok (.getfield 33, 3) := by decide +kernel
theorem dX8_end_45 : decode cX8_end 45 = .ok (.aload_n 0, 1) := by decide +kernel
theorem dX8_end_46 : decode cX8_end 46 = .ok (.getfield 36, 3) := by decide +kernel
theorem dX8_end_49 : decode cX8_end 49 = .ok (.ishl, 1) := by decide +kernel
theorem dX8_end_50 : decode cX8_end 50 = .ok (.putfield 33, 3) := by decide +kernel
theorem dX8_end_53 : decode cX8_end 53 = .ok (.aload_n 0, 1) := by decide +kernel
theorem dX8_end_54 : decode cX8_end 54 = .ok (.invokevirtual 53, 3) := by decide +kernel
theorem dX8_end_57 : decode cX8_end 57 = .ok (.aload_n 0, 1) := by decide +kernel
theorem dX8_end_58 : decode cX8_end 58 = .ok (.dup, 1) := by decide +kernel
theorem dX8_end_59 : decode cX8_end 59 = .ok (.getfield 33, 3) := by decide +kernel
theorem dX8_end_62 : decode cX8_end 62 = .ok (.aload_n 0, 1) := by decide +kernel
theorem dX8_end_63 : decode cX8_end 63 = .ok (.getfield 36, 3) := by decide +kernel
theorem dX8_end_66 : decode cX8_end 66 = .ok (.ishl, 1) := by decide +kernel
theorem dX8_end_67 : decode cX8_end 67 = .ok (.putfield 33, 3) := by decide +kernel
theorem dX8_end_70 : decode cX8_end 70 = .ok (.aload_n 0, 1) := by decide +kernel
theorem dX8_end_71 : decode cX8_end 71 = .ok (.invokevirtual 53, 3) := by decide +kernel
theorem dX8_end_74 : decode cX8_end 74 = .ok (.return_, 1) := by decide +kernel
theorem dX8_addBytesTo_0 : decode cX8_addBytesTo 0 = .ok (.aload_n 0, 1) := by decide +kernel
theorem dX8_addBytesTo_1 : decode cX8_addBytesTo 1 = .ok (.getfield 18, 3) := by decide +kernel
theorem dX8_addBytesTo_4 : decode cX8_addBytesTo 4 = .ok (.aload_n 0, 1) := by decide +kernel
theorem dX8_addBytesTo_5 : decode cX8_addBytesTo 5 = .ok (.getfield 25, 3) := by decide +kernel
theorem dX8_addBytesTo_8 : decode cX8_addBytesTo 8 = .ok (.iconst 1, 1) := by decide +kernel
theorem dX8_addBytesTo_9 : decode cX8_addBytesTo 9 = .ok (.isub, 1) := by decide +kernel
theorem dX8_addBytesTo_10 : decode cX8_addBytesTo 10 = .ok (.iaload, 1) := by decide +kernel
theorem dX8_addBytesTo_11 : decode cX8_addBytesTo 11 = .ok (.sipush 255, 3) := by decide +kernel
theorem dX8_addBytesTo_14 : decode cX8_addBytesTo 14 = .ok (.if_icmp .ne 12, 3) := by decide +kernel
theorem dX8_addBytesTo_17 : decode cX8_addBytesTo 17 = .ok (.aload_n 0, 1) := by decide +kernel
theorem dX8_addBytesTo_18 : decode cX8_addBytesTo 18 = .ok (.getfield 25, 3) := by decide +kernel
theorem dX8_addBytesTo_21 : decode cX8_addBytesTo 21 = .ok (.iconst 1, 1) := by decide +kernel
theorem dX8_addBytesTo_22 : decode cX8_addBytesTo 22 = .ok (.isub, 1) := by decide +kernel
theorem dX8_addBytesTo_23 : decode cX8_addBytesTo 23 = .ok (.goto 7, 3) := by decide +kernel
theorem dX8_addBytesTo_26 : decode cX8_addBytesTo 26 = .ok (.aload_n 0, 1) := by decide +kernel
theorem dX8_addBytesTo_27 : decode cX8_addBytesTo 27 = .ok (.getfield 25, 3) := by decide +kernel
theorem dX8_addBytesTo_30 : decode cX8_addBytesTo 30 = .ok (.istore_n 2, 1) := by decide +kernel
theorem dX8_addBytesTo_31 : decode cX8_addBytesTo 31 = .ok (.iconst 1, 1) := by decide +kernel
theorem dX8_addBytesTo_32 : decode cX8_addBytesTo 32 = .ok (.istore_n 3, 1) := by decide +kernel
theorem dX8_addBytesTo_33 : decode cX8_addBytesTo 33 = .ok (.iload_n 3, 1) := by decide +kernel
theorem dX8_addBytesTo_34 : decode cX8_addBytesTo 34 = .ok (.iload_n 2, 1) := by decide +kernel
theorem dX8_addBytesTo_35 : decode cX8_addBytesTo 35 = .ok (.if_icmp .ge 19, 3) := by decide +kernel
theorem dX8_addBytesTo_38 : decode cX8_addBytesTo 38 = .ok (.aload_n 1, 1) := by decide +kernel
theorem dX8_addBytesTo_39 : decode cX8_addBytesTo 39 = .ok (.aload_n 0, 1) := by decide +kernel
theorem dX8_addBytesTo_40 : decode cX8_addBytesTo 40 = .ok (.getfield 18, 3) := by decide +kernel
theorem dX8_addBytesTo_43 : decode cX8_addBytesTo 43 = .ok (.iload_n 3, 1) := by decide +kernel
theorem dX8_addBytesTo_44 : decode cX8_addBytesTo 44 = .ok (.iaload, 1) := by decide +kernel
theorem dX8_addBytesTo_45 : decode cX8_addBytesTo 45 = .ok (.invokevirtual 61, 3) := by decide +kernel
theorem dX8_addBytesTo_48 : decode cX8_addBytesTo 48 = .ok (.iinc 3 1, 3) := by decide +kernel
theorem dX8_addBytesTo_51 : decode cX8_addBytesTo 51 = .ok (.goto (-18), 3) := by decide +kernel
theorem dX8_addBytesTo_54 : decode cX8_addBytesTo 54 = .ok (.iload_n 2, 1) := by decide +kernel
theorem dX8_addBytesTo_55 : decode cX8_addBytesTo 55 = .ok (.iconst 1, 1) := by decide +kernel
theorem dX8_addBytesTo_56 : decode cX8_addBytesTo 56 = .ok (.isub, 1) := by decide +kernel
theorem dX8_addBytesTo_57 : decode cX8_addBytesTo 57 = .ok (.ireturn, 1) := by decide +kernel
theorem dX10_init_0 : decode cX10_init 0 = .ok (.aload_n 0, 1) := by decide +kernel
theorem dX10_init_1 : decode cX10_init 1 = .ok (.invokespecial 3, 3) := by decide +kernel
theorem dX10_init_4 : decode cX10_init 4 = .ok (.aload_n 0, 1) := by decide +kernel
theorem dX10_init_5 : decode cX10_init 5 = .ok (.new 9, 3) := by decide +kernel
theorem dX10_init_8 : decode cX10_init 8 = .ok (.dup, 1) := by decide +kernel
theorem dX10_init_9 : decode cX10_init 9 = .ok (.invokespecial 11, 3) := by decide +kernel
theorem dX10_init_12 : decode cX10_init 12 = .ok (.putfield 12, 3) := by decide +kernel
theorem dX10_init_15 : decode cX10_init 15 = .ok (.aload_n 0, 1) := by decide +kernel
theorem dX10_init_16 : decode cX10_init 16 = .ok (.bipush 10, 2) := by decide +kernel
theorem dX10_init_18 : decode cX10_init 18 = .ok (.newarray .int, 2) := by decide +kernel
theorem dX10_init_20 : decode cX10_init 20 = .ok (.putfield 18, 3) := by decide +kernel
theorem dX10_init_23 : decode cX10_init 23 = .ok (.aload_n 0, 1) := by decide +kernel
theorem dX10_init_24 : decode cX10_init 24 = .ok (.bipush 10, 2) := by decide +kernel
theorem dX10_init_26 : decode cX10_init 26 = .ok (.newarray .int, 2) := by decide +kernel
theorem dX10_init_28 : decode cX10_init 28 = .ok (.putfield 22, 3) := by decide +kernel
theorem dX10_init_31 : decode cX10_init 31 = .ok (.aload_n 0, 1) := by decide +kernel
theorem dX10_init_32 : decode cX10_init 32 = .ok (.bipush 10, 2) := by decide +kernel
theorem dX10_init_34 : decode cX10_init 34 = .ok (.newarray .int, 2) := by decide +kernel
theorem dX10_init_36 : decode cX10_init 36 = .ok (.putfield 25, 3) := by decide +kernel
theorem dX10_init_39 : decode cX10_init 39 = .ok (.aload_n 0, 1) := by decide +kernel
theorem dX10_init_40 : decode cX10_init 40 = .ok (.bipush 10, 2) := by decide +kernel
theorem dX10_init_42 : decode cX10_init 42 = .ok (.newarray .int, 2) := by decide +kernel
theorem dX10_init_44 : decode cX10_init 44 = .ok (.putfield 28, 3) := by decide +kernel
theorem dX10_init_47 : decode cX10_init 47 = .ok (.aload_n 0, 1) := by decide +kernel
theorem dX10_init_48 : decode cX10_init 48 = .ok (.bipush 10, 2) := by decide +kernel
theorem dX10_init_50 : decode cX10_init 50 = .ok (.newarray .int, 2) := by decide +kernel
theorem dX10_init_52 : decode cX10_init 52 = .ok (.putfield 31, 3) := by decide +kernel
theorem dX10_init_55 : decode cX10_init 55 = .ok (.aload_n 0, 1) := by decide +kernel
theorem dX10_init_56 : decode cX10_init 56 = .ok (.bipush 10, 2) := by decide +kernel
theorem dX10_init_58 : decode cX10_init 58 = .ok (.newarray .int, 2) := by decide +kernel
theorem dX10_init_60 : decode cX10_init 60 = .ok (.putfield 34, 3) := by decide +kernel
theorem dX10_init_63 : decode cX10_init 63 = .ok (.aload_n 0, 1) := by decide +kernel
theorem dX10_init_64 : decode cX10_init 64 = .ok (.bipush 30, 2) := by decide +kernel
theorem dX10_init_66 : decode cX10_init 66 = .ok (.newarray .int, 2) := by decide +kernel
theorem dX10_init_68 : decode cX10_init 68 = .ok (.putfield 37, 3) := by decide +kernel
theorem dX10_init_71 : decode cX10_init 71 = .ok (.aload_n 0, 1) := by decide +kernel
theorem dX10_init_72 : decode cX10_init 72 = .ok (.bipush 30, 2) := by decide +kernel
theorem dX10_init_74 : decode cX10_init 74 = .ok (.newarray .int, 2) := by decide +kernel
theorem dX10_init_76 : decode cX10_init 76 = .ok (.putfield 40, 3) := by decide +kernel
theorem dX10_init_79 : decode cX10_init 79 = .ok (.aload_n 0, 1) := by decide +kernel
theorem dX10_init_80 : decode cX10_init 80 = .ok (.bipush 10, 2) := by decide +kernel
theorem dX10_init_82 : decode cX10_init 82 = .ok (.newarray .int, 2) := by decide +kernel
theorem dX10_init_84 : decode cX10_init 84 = .ok (.putfield 43, 3) := by decide +kernel
theorem dX10_init_87 : decode cX10_init 87 = .ok (.aload_n 0, 1) := by decide +kernel
theorem dX10_init_88 : decode cX10_init 88 = .ok (.new 46, 3) := by decide +kernel
theorem dX10_init_91 : decode cX10_init 91 = .ok (.dup, 1) := by decide +kernel
theorem dX10_init_92 : decode cX10_init 92 = .ok (.invokespecial 48, 3) := by decide +kernel
theorem dX10_init_95 : decode cX10_init 95 = .ok (.putfield 49, 3) := by decide +kernel
theorem dX10_init_98 : decode cX10_init 98 = .ok (.aload_n 0, 1) := by decide +kernel
theorem dX10_init_99 : decode cX10_init 99 = .ok (.new 53, 3) := by decide +kernel
theorem dX10_init_102 : decode cX10_init 102 = .ok (.dup, 1) := by decide +kernel
theorem dX10_init_103 : decode cX10_init 103 = .ok (.aload_n 0, 1) := by decide +kernel
theorem dX10_init_104 : decode cX10_init 104 = .ok (.getfield 49, 3) := by decide +kernel
theorem dX10_init_107 : decode cX10_init 107 = .ok (.invokespecial 55, 3) := by decide +kernel
theorem dX10_init_110 : decode cX10_init 110 = .ok (.putfield 58, 3) := by decide +kernel
theorem dX10_init_113 : decode cX10_init 113 = .ok (.return_, 1) := by decide +kernel
theorem dX10_passesTaken_0 : decode cX10_passesTaken 0 = .ok (.iload_n 1, 1) := by decide +kernel
theorem dX10_passesTaken_1 : decode cX10_passesTaken 1 = .ok (.ifCond .lt 20, 3) := by decide +kernel
theorem dX10_passesTaken_4 : decode cX10_passesTaken 4 = .ok (.iload_n 1, 1) := by decide +kernel
theorem dX10_passesTaken_5 : decode cX10_passesTaken 5 = .ok (.aload_n 0, 1) := by decide +kernel
theorem dX10_passesTaken_6 : decode cX10_passesTaken 6 = .ok (.getfield 62, 3) := by decide +kernel
theorem dX10_passesTaken_9 : decode cX10_passesTaken 9 = .ok (.if_icmp .ge 12, 3) := by decide +kernel
theorem dX10_passesTaken_12 : decode cX10_passesTaken 12 = .ok (.aload_n 0, 1) := by decide +kernel
theorem dX10_passesTaken_13 : decode cX10_passesTaken 13 = .ok (.getfield 43, 3) := by decide +kernel
theorem dX10_passesTaken_16 : decode cX10_passesTaken 16 = .ok (.iload_n 1, 1) := by decide +kernel
theorem dX10_passesTaken_17 : decode cX10_passesTaken 17 = .ok (.iaload, 1) := by decide +kernel
theorem dX10_passesTaken_18 : decode cX10_passesTaken 18 = .ok (.goto 5, 3) := by decide +kernel
theorem dX10_passesTaken_21 : decode cX10_passesTaken 21 = .ok (.ldc 66, 2) := by decide +kernel
theorem dX10_passesTaken_23 : decode cX10_passesTaken 23 = .ok (.ireturn, 1) := by decide +kernel
theorem dX10_takePackets_0 : decode cX10_takePackets 0 = .ok (.aload_n 1, 1) := by decide +kernel
theorem dX10_takePackets_1 : decode cX10_takePackets 1 = .ok (.iconst 2, 1) := by decide +kernel
theorem dX10_takePackets_2 : decode cX10_takePackets 2 = .ok (.invokevirtual 67, 3) := by decide +kernel
theorem dX10_takePackets_5 : decode cX10_takePackets 5 = .ok (.istore_n 3, 1) := by decide +kernel
theorem dX10_takePackets_6 : decode cX10_takePackets 6 = .ok (.aload_n 1, 1) := by decide +kernel
theorem dX10_takePackets_7 : decode cX10_takePackets 7 = .ok (.iconst 3, 1) := by decide +kernel
theorem dX10_takePackets_8 : decode cX10_takePackets 8 = .ok (.invokevirtual 67, 3) := by decide +kernel
theorem dX10_takePackets_11 : decode cX10_takePackets 11 = .ok (.istore 4, 2) := by decide +kernel
theorem dX10_takePackets_13 : decode cX10_takePackets 13 = .ok (.aload_n 1, 1) := by decide +kernel
theorem dX10_takePackets_14 : decode cX10_takePackets 14 = .ok (.iconst 0, 1) := by decide +kernel
theorem dX10_takePackets_15 : decode cX10_takePackets 15 = .ok (.invokevirtual 67, 3) := by decide +kernel
theorem dX10_takePackets_18 : decode cX10_takePackets 18 = .ok (.invokestatic 73, 3) := by decide +kernel
theorem dX10_takePackets_21 : decode cX10_takePackets 21 = .ok (.ifCond .eq 29, 3) := by decide +kernel
theorem dX10_takePackets_24 : decode cX10_takePackets 24 = .ok (.aload_n 1, 1) := by decide +kernel
theorem dX10_takePackets_25 : decode cX10_takePackets 25 = .ok (.iconst 1, 1) := by decide +kernel
theorem dX10_takePackets_26 : decode cX10_takePackets 26 = .ok (.invokevirtual 67, 3) := by decide +kernel
theorem dX10_takePackets_29 : decode cX10_takePackets 29 = .ok (.invokestatic 73, 3) := by decide +kernel
theorem dX10_takePackets_32 : decode cX10_takePackets 32 = .ok (.ifCond .eq 18, 3) := by decide +kernel
theorem dX10_takePackets_35 : decode cX10_takePackets 35 = .ok (.iload_n 3, 1) := by decide +kernel
theorem dX10_takePackets_36 : decode cX10_takePackets 36 = .ok (.invokestatic 77, 3) := by decide +kernel
theorem dX10_takePackets_39 : decode cX10_takePackets 39 = .ok (.ifCond .eq 11, 3) := by decide +kernel
theorem dX10_takePackets_42 : decode cX10_takePackets 42 = .ok (.iload 4, 2) := by decide +kernel
theorem dX10_takePackets_44 : decode cX10_takePackets 44 = .ok (.invokestatic 80, 3) := by decide +kernel
theorem dX10_takePackets_47 : decode cX10_takePackets 47 = .ok (.ifCond .ne 5, 3) := by decide +kernel
theorem dX10_takePackets_50 : decode cX10_takePackets 50 = .ok (.iconst (-1), 1) := by decide +kernel
theorem dX10_takePackets_51 : decode cX10_takePackets 51 = .ok (.ireturn, 1) := by decide +kernel
theorem dX10_takePackets_52 : decode cX10_takePackets 52 = .ok (.aload_n 0, 1) := by decide +kernel
theorem dX10_takePackets_53 : decode cX10_takePackets 53 = .ok (.getfield 12, 3) := by decide +kernel
theorem dX10_takePackets_56 : decode cX10_takePackets 56 = .ok (.aload_n 1, 1) := by decide +kernel
theorem dX10_takePackets_57 : decode cX10_takePackets 57 = .ok (.iconst 0, 1) := by decide +kernel
theorem dX10_takePackets_58 : decode cX10_takePackets 58 = .ok (.invokevirtual 67, 3) := by decide +kernel
theorem dX10_takePackets_61 : decode cX10_takePackets 61 = .ok (.aload_n 1, 1) := by decide +kernel
theorem dX10_takePackets_62 : decode cX10_takePackets 62 = .ok (.iconst 1, 1) := by decide +kernel
theorem dX10_takePackets_63 : decode cX10_takePackets 63 = .ok (.invokevirtual 67, 3) := by decide +kernel
theorem dX10_takePackets_66 : decode cX10_takePackets 66 = .ok (.iload_n 3, 1) := by decide +kernel
theorem dX10_takePackets_67 : decode cX10_takePackets 67 = .ok (.invokevirtual 83, 3) := by decide +kernel
theorem dX10_takePackets_70 : decode cX10_takePackets 70 = .ok (.aload_n 0, 1) := by decide +kernel
theorem dX10_takePackets_71 : decode cX10_takePackets 71 = .ok (.getfield 22, 3) := by decide +kernel
theorem dX10_takePackets_74 : decode cX10_takePackets 74 = .ok (.iconst 0, 1) := by decide +kernel
theorem dX10_takePackets_75 : decode cX10_takePackets 75 = .ok (.invokestatic 87, 3) := by decide +kernel
theorem dX10_takePackets_78 : decode cX10_takePackets 78 = .ok (.aload_n 0, 1) := by decide +kernel
theorem dX10_takePackets_79 : decode cX10_takePackets 79 = .ok (.getfield 25, 3) := by decide +kernel
theorem dX10_takePackets_82 : decode cX10_takePackets 82 = .ok (.iconst 3, 1) := by decide +kernel
theorem dX10_takePackets_83 : decode cX10_takePackets 83 = .ok (.invokestatic 87, 3) := by decide +kernel
theorem dX10_takePackets_86 : decode cX10_takePackets 86 = .ok (.aload_n 0, 1) := by decide +kernel
theorem dX10_takePackets_87 : decode cX10_takePackets 87 = .ok (.getfield 34, 3) := by decide +kernel
theorem dX10_takePackets_90 : decode cX10_takePackets 90 = .ok (.iconst 0, 1) := by decide +kernel
theorem dX10_takePackets_91 : decode cX10_takePackets 91 = .ok (.invokestatic 87, 3) := by decide +kernel
theorem dX10_takePackets_94 : decode cX10_takePackets 94 = .ok (.aload_n 1, 1) := by decide +kernel
theorem dX10_takePackets_95 : decode cX10_takePackets 95 = .ok (.iconst 4, 1) := by decide +kernel
theorem dX10_takePackets_96 : decode cX10_takePackets 96 = .ok (.iload_n 2, 1) := by decide +kernel
theorem dX10_takePackets_97 : decode cX10_takePackets 97 = .ok (.invokevirtual 93, 3) := by decide +kernel
theorem dX10_takePackets_100 : decode cX10_takePackets 100 = .ok (.iconst 0, 1) := by decide +kernel
theorem dX10_takePackets_101 : decode cX10_takePackets 101 = .ok (.istore 5, 2) := by decide +kernel
theorem dX10_takePackets_103 : decode cX10_takePackets 103 = .ok (.iload 5, 2) := by decide +kernel
theorem dX10_takePackets_105 : decode cX10_takePackets 105 = .ok (.iload 4, 2) := by decide +kernel
theorem dX10_takePackets_107 : decode cX10_takePackets 107 = .ok (.iload_n 3, 1) := by decide +kernel
theorem dX10_takePackets_108 : decode cX10_takePackets 108 = .ok (.iconst 1, 1) := by decide +kernel
theorem dX10_takePackets_109 : decode cX10_takePackets 109 = .ok (.iadd, 1) := by decide +kernel
theorem dX10_takePackets_110 : decode cX10_takePackets 110 = .ok (.imul, 1) := by decide +kernel
theorem dX10_takePackets_111 : decode cX10_takePackets 111 = .ok (.if_icmp .ge 41, 3) := by decide +kernel
theorem dX10_takePackets_114 : decode cX10_takePackets 114 = .ok (.aload_n 0, 1) := by decide +kernel
theorem dX10_takePackets_115 : decode cX10_takePackets 115 = .ok (.aload_n 1, 1) := by decide +kernel
theorem dX10_takePackets_116 : decode cX10_takePackets 116 = .ok (.iload_n 2, 1) := by decide +kernel
theorem dX10_takePackets_117 : decode cX10_takePackets 117 = .ok (.iload 5, 2) := by decide +kernel
theorem dX10_takePackets_119 : decode cX10_takePackets 119 = .ok (.iload_n 3, 1) := by decide +kernel
theorem dX10_takePackets_120 : decode cX10_takePackets 120 = .ok (.iconst 1, 1) := by decide +kernel
theorem dX10_takePackets_121 : decode cX10_takePackets 121 = .ok (.iadd, 1) := by decide +kernel
theorem dX10_takePackets_122 : decode cX10_takePackets 122 = .ok (.irem, 1) := by decide +kernel
theorem dX10_takePackets_123 : decode cX10_takePackets 123 = .ok (.invokevirtual 97, 3) := by decide +kernel
theorem dX10_takePackets_126 : decode cX10_takePackets 126 = .ok (.istore 6, 2) := by decide +kernel
theorem dX10_takePackets_128 : decode cX10_takePackets 128 = .ok (.iload 6, 2) := by decide +kernel
theorem dX10_takePackets_130 : decode cX10_takePackets 130 = .ok (.ifCond .eq 16, 3) := by decide +kernel
theorem dX10_takePackets_133 : decode cX10_takePackets 133 = .ok (.iload 6, 2) := by decide +kernel
theorem dX10_takePackets_135 : decode cX10_takePackets 135 = .ok (.iconst 1, 1) := by decide +kernel
theorem dX10_takePackets_136 : decode cX10_takePackets 136 = .ok (.if_icmp .ne 8, 3) := by decide +kernel
theorem dX10_takePackets_139 : decode cX10_takePackets 139 = .ok (.iload 5, 2) := by decide +kernel
theorem dX10_takePackets_141 : decode cX10_takePackets 141 = .ok (.goto 4, 3) := by decide +kernel
theorem dX10_takePackets_144 : decode cX10_takePackets 144 = .ok (.iconst (-1), 1) := by decide +kernel
theorem dX10_takePackets_145 : decode cX10_takePackets 145 = .ok (.ireturn, 1) := by decide +kernel
theorem dX10_takePackets_146 : decode cX10_takePackets 146 = .ok (.iinc 5 1, 3) := by decide +kernel
theorem dX10_takePackets_149 : decode cX10_takePackets 149 = .ok (.goto (-46), 3) := by decide +kernel
theorem dX10_takePackets_152 : decode cX10_takePackets 152 = .ok (.iload 4, 2) := by decide +kernel
theorem dX10_takePackets_154 : decode cX10_takePackets 154 = .ok (.iload_n 3, 1) := by decide +kernel
theorem dX10_takePackets_155 : decode cX10_takePackets 155 = .ok (.iconst 1, 1) := by decide +kernel
theorem dX10_takePackets_156 : decode cX10_takePackets 156 = .ok (.iadd, 1) := by decide +kernel
theorem dX10_takePackets_157 : decode cX10_takePackets 157 = .ok (.imul, 1) := by decide +kernel
theorem dX10_takePackets_158 : decode cX10_takePackets 158 = .ok (.ireturn, 1) := by decide +kernel
theorem dX10_takePacket_0 : decode cX10_takePacket 0 = .ok (.aload_n 0, 1) := by decide +kernel
theorem dX10_takePacket_1 : decode cX10_takePacket 1 = .ok (.aload_n 1, 1) := by decide +kernel
theorem dX10_takePacket_2 : decode cX10_takePacket 2 = .ok (.iload_n 3, 1) := by decide +kernel
theorem dX10_takePacket_3 : decode cX10_takePacket 3 = .ok (.invokevirtual 101, 3) := by decide +kernel
theorem dX10_takePacket_6 : decode cX10_takePacket 6 = .ok (.istore 4, 2) := by decide +kernel
theorem dX10_takePacket_8 : decode cX10_takePacket 8 = .ok (.iload 4, 2) := by decide +kernel
theorem dX10_takePacket_10 : decode cX10_takePacket 10 = .ok (.ifCond .eq 6, 3) := by decide +kernel
theorem dX10_takePacket_13 : decode cX10_takePacket 13 = .ok (.iload 4, 2) := by decide +kernel
theorem dX10_takePacket_15 : decode cX10_takePacket 15 = .ok (.ireturn, 1) := by decide +kernel
theorem dX10_takePacket_16 : decode cX10_takePacket 16 = .ok (.aload_n 1, 1) := by decide +kernel
theorem dX10_takePacket_17 : decode cX10_takePacket 17 = .ok (.invokevirtual 105, 3) := by decide +kernel
theorem dX10_takePacket_20 : decode cX10_takePacket 20 = .ok (.istore 5, 2) := by decide +kernel
theorem dX10_takePacket_22 : decode cX10_takePacket 22 = .ok (.iconst 0, 1) := by decide +kernel
theorem dX10_takePacket_23 : decode cX10_takePacket 23 = .ok (.istore 6, 2) := by decide +kernel
theorem dX10_takePacket_25 : decode cX10_takePacket 25 = .ok (.iload_n 3, 1) := by decide +kernel
theorem dX10_takePacket_26 : decode cX10_takePacket 26 = .ok (.invokestatic 109, 3) := by decide +kernel
theorem dX10_takePacket_29 : decode cX10_takePacket 29 = .ok (.istore 7, 2) := by decide +kernel
theorem dX10_takePacket_31 : decode cX10_takePacket 31 = .ok (.iload 7, 2) := by decide +kernel
theorem dX10_takePacket_33 : decode cX10_takePacket 33 = .ok (.iload_n 3, 1) := by decide +kernel
theorem dX10_takePacket_34 : decode cX10_takePacket 34 = .ok (.invokestatic 112, 3) := by decide +kernel
theorem dX10_takePacket_37 : decode cX10_takePacket 37 = .ok (.if_icmp .gt 21, 3) := by decide +kernel
theorem dX10_takePacket_40 : decode cX10_takePacket 40 = .ok (.iload 6, 2) := by decide +kernel
theorem dX10_takePacket_42 : decode cX10_takePacket 42 = .ok (.aload_n 0, 1) := by decide +kernel
theorem dX10_takePacket_43 : decode cX10_takePacket 43 = .ok (.getfield 31, 3) := by decide +kernel
theorem dX10_takePacket_46 : decode cX10_takePacket 46 = .ok (.iload 7, 2) := by decide +kernel
theorem dX10_takePacket_48 : decode cX10_takePacket 48 = .ok (.iaload, 1) := by decide +kernel
theorem dX10_takePacket_49 : decode cX10_takePacket 49 = .ok (.iadd, 1) := by decide +kernel
theorem dX10_takePacket_50 : decode cX10_takePacket 50 = .ok (.istore 6, 2) := by decide +kernel
theorem dX10_takePacket_52 : decode cX10_takePacket 52 = .ok (.iinc 7 1, 3) := by decide +kernel
theorem dX10_takePacket_55 : decode cX10_takePacket 55 = .ok (.goto (-24), 3) := by decide +kernel
theorem dX10_takePacket_58 : decode cX10_takePacket 58 = .ok (.iload 6, 2) := by decide +kernel
theorem dX10_takePacket_60 : decode cX10_takePacket 60 = .ok (.iload_n 2, 1) := by decide +kernel
theorem dX10_takePacket_61 : decode cX10_takePacket 61 = .ok (.iload 5, 2) := by decide +kernel
theorem dX10_takePacket_63 : decode cX10_takePacket 63 = .ok (.isub, 1) := by decide +kernel
theorem dX10_takePacket_64 : decode cX10_takePacket 64 = .ok (.if_icmp .le 5, 3) := by decide +kernel
theorem dX10_takePacket_67 : decode cX10_takePacket 67 = .ok (.iconst 1, 1) := by decide +kernel
theorem dX10_takePacket_68 : decode cX10_takePacket 68 = .ok (.ireturn, 1) := by decide +kernel
theorem dX10_takePacket_69 : decode cX10_takePacket 69 = .ok (.iload_n 3, 1) := by decide +kernel
theorem dX10_takePacket_70 : decode cX10_takePacket 70 = .ok (.invokestatic 109, 3) := by decide +kernel
theorem dX10_takePacket_73 : decode cX10_takePacket 73 = .ok (.istore 7, 2) := by decide +kernel
theorem dX10_takePacket_75 : decode cX10_takePacket 75 = .ok (.iload 7, 2) := by decide +kernel
theorem dX10_takePacket_77 : decode cX10_takePacket 77 = .ok (.iload_n 3, 1) := by decide +kernel
theorem dX10_takePacket_78 : decode cX10_takePacket 78 = .ok (.invokestatic 112, 3) := by decide +kernel
theorem dX10_takePacket_81 : decode cX10_takePacket 81 = .ok (.if_icmp .gt 53, 3) := by decide +kernel
theorem dX10_takePacket_84 : decode cX10_takePacket 84 = .ok (.aload_n 0, 1) := by decide +kernel
theorem dX10_takePacket_85 : decode cX10_takePacket 85 = .ok (.getfield 22, 3) := by decide +kernel
theorem dX10_takePacket_88 : decode cX10_takePacket 88 = .ok (.iload 7, 2) := by decide +kernel
theorem dX10_takePacket_90 : decode cX10_takePacket 90 = .ok (.dup2, 1) := by decide +kernel
theorem dX10_takePacket_91 : decode cX10_takePacket 91 = .ok (.iaload, 1) := by decide +kernel
theorem dX10_takePacket_92 : decode cX10_takePacket 92 = .ok (.aload_n 0, 1) := by decide +kernel
theorem dX10_takePacket_93 : decode cX10_takePacket 93 = .ok (.getfield 28, 3) := by decide +kernel
theorem dX10_takePacket_96 : decode cX10_takePacket 96 = .ok (.iload 7, 2) := by decide +kernel
theorem dX10_takePacket_98 : decode cX10_takePacket 98 = .ok (.iaload, 1) := by decide +kernel
theorem dX10_takePacket_99 : decode cX10_takePacket 99 = .ok (.iadd, 1) := by decide +kernel
theorem dX10_takePacket_100 : decode cX10_takePacket 100 = .ok (.iastore, 1) := by decide +kernel
theorem dX10_takePacket_101 : decode cX10_takePacket 101 = .ok (.aload_n 0, 1) := by decide +kernel
theorem dX10_takePacket_102 : decode cX10_takePacket 102 = .ok (.iload 7, 2) := by decide +kernel
theorem dX10_takePacket_104 : decode cX10_takePacket 104 = .ok (.iload 5, 2) := by decide +kernel
theorem dX10_takePacket_106 : decode cX10_takePacket 106 = .ok (.aload_n 0, 1) := by decide +kernel
theorem dX10_takePacket_107 : decode cX10_takePacket 107 = .ok (.getfield 31, 3) := by decide +kernel
theorem dX10_takePacket_110 : decode cX10_takePacket 110 = .ok (.iload 7, 2) := by decide +kernel
theorem dX10_takePacket_112 : decode cX10_takePacket 112 = .ok (.iaload, 1) := by decide +kernel
theorem dX10_takePacket_113 : decode cX10_takePacket 113 = .ok (.invokevirtual 115, 3) := by decide +kernel
theorem dX10_takePacket_116 : decode cX10_takePacket 116 = .ok (.iload 5, 2) := by decide +kernel
theorem dX10_takePacket_118 : decode cX10_takePacket 118 = .ok (.aload_n 0, 1) := by decide +kernel
theorem dX10_takePacket_119 : decode cX10_takePacket 119 = .ok (.getfield 31, 3) := by decide +kernel
theorem dX10_takePacket_122 : decode cX10_takePacket 122 = .ok (.iload 7, 2) := by decide +kernel
theorem dX10_takePacket_124 : decode cX10_takePacket 124 = .ok (.iaload, 1) := by decide +kernel
theorem dX10_takePacket_125 : decode cX10_takePacket 125 = .ok (.iadd, 1) := by decide +kernel
theorem dX10_takePacket_126 : decode cX10_takePacket 126 = .ok (.istore 5, 2) := by decide +kernel
theorem dX10_takePacket_128 : decode cX10_takePacket 128 = .ok (.iinc 7 1, 3) := by decide +kernel
theorem dX10_takePacket_131 : decode cX10_takePacket 131 = .ok (.goto (-56), 3) := by decide +kernel
theorem dX10_takePacket_134 : decode cX10_takePacket 134 = .ok (.aload_n 1, 1) := by decide +kernel
theorem dX10_takePacket_135 : decode cX10_takePacket 135 = .ok (.iload 5, 2) := by decide +kernel
theorem dX10_takePacket_137 : decode cX10_takePacket 137 = .ok (.iload_n 2, 1) := by decide +kernel
theorem dX10_takePacket_138 : decode cX10_takePacket 138 = .ok (.invokevirtual 93, 3) := by decide +kernel
theorem dX10_takePacket_141 : decode cX10_takePacket 141 = .ok (.iconst 0, 1) := by decide +kernel
theorem dX10_takePacket_142 : decode cX10_takePacket 142 = .ok (.ireturn, 1) := by decide +kernel
theorem dX10_addPart_0 : decode cX10_addPart 0 = .ok (.aload_n 0, 1) := by decide +kernel
theorem dX10_addPart_1 : decode cX10_addPart 1 = .ok (.getfield 34, 3) := by decide +kernel
theorem dX10_addPart_4 : decode cX10_addPart 4 = .ok (.iload_n 1, 1) := by decide +kernel
theorem dX10_addPart_5 : decode cX10_addPart 5 = .ok (.iaload, 1) := by decide +kernel
theorem dX10_addPart_6 : decode cX10_addPart 6 = .ok (.iconst 3, 1) := by decide +kernel
theorem dX10_addPart_7 : decode cX10_addPart 7 = .ok (.if_icmp .ge 45, 3) := by decide +kernel
theorem dX10_addPart_10 : decode cX10_addPart 10 = .ok (.aload_n 0, 1) := by decide +kernel
theorem dX10_addPart_11 : decode cX10_addPart 11 = .ok (.getfield 37, 3) := by decide +kernel
theorem dX10_addPart_14 : decode cX10_addPart 14 = .ok (.iload_n 1, 1) := by decide +kernel
theorem dX10_addPart_15 : decode cX10_addPart 15 = .ok (.iconst 3, 1) := by decide +kernel
theorem dX10_addPart_16 : decode cX10_addPart 16 = .ok (.imul, 1) := by decide +kernel
theorem dX10_addPart_17 : decode cX10_addPart 17 = .ok (.aload_n 0, 1) := by decide +kernel
theorem dX10_addPart_18 : decode cX10_addPart 18 = .ok (.getfield 34, 3) := by decide +kernel
theorem dX10_addPart_21 : decode cX10_addPart 21 = .ok (.iload_n 1, 1) := by decide +kernel
theorem dX10_addPart_22 : decode cX10_addPart 22 = .ok (.iaload, 1) := by decide +kernel
theorem dX10_addPart_23 : decode cX10_addPart 23 = .ok (.iadd, 1) := by decide +kernel
theorem dX10_addPart_24 : decode cX10_addPart 24 = .ok (.iload_n 2, 1) := by decide +kernel
theorem dX10_addPart_25 : decode cX10_addPart 25 = .ok (.iastore, 1) := by decide +kernel
theorem dX10_addPart_26 : decode cX10_addPart 26 = .ok (.aload_n 0, 1) := by decide +kernel
theorem dX10_addPart_27 : decode cX10_addPart 27 = .ok (.getfield 40, 3) := by decide +kernel
theorem dX10_addPart_30 : decode cX10_addPart 30 = .ok (.iload_n 1, 1) := by decide +kernel
theorem dX10_addPart_31 : decode cX10_addPart 31 = .ok (.iconst 3, 1) := by decide +kernel
theorem dX10_addPart_32 : decode cX10_addPart 32 = .ok (.imul, 1) := by decide +kernel
theorem dX10_addPart_33 : decode cX10_addPart 33 = .ok (.aload_n 0, 1) := by decide +kernel
theorem dX10_addPart_34 : decode cX10_addPart 34 = .ok (.getfield 34, 3) := by decide +kernel
theorem dX10_addPart_37 : decode cX10_addPart 37 = .ok (.iload_n 1, 1) := by decide +kernel
theorem dX10_addPart_38 : decode cX10_addPart 38 = .ok (.iaload, 1) := by decide +kernel
theorem dX10_addPart_39 : decode cX10_addPart 39 = .ok (.iadd, 1) := by decide +kernel
theorem dX10_addPart_40 : decode cX10_addPart 40 = .ok (.iload_n 3, 1) := by decide +kernel
theorem dX10_addPart_41 : decode cX10_addPart 41 = .ok (.iastore, 1) := by decide +kernel
theorem dX10_addPart_42 : decode cX10_addPart 42 = .ok (.aload_n 0, 1) := by decide +kernel
theorem dX10_addPart_43 : decode cX10_addPart 43 = .ok (.getfield 34, 3) := by decide +kernel
theorem dX10_addPart_46 : decode cX10_addPart 46 = .ok (.iload_n 1, 1) := by decide +kernel
theorem dX10_addPart_47 : decode cX10_addPart 47 = .ok (.dup2, 1) := by decide +kernel
theorem dX10_addPart_48 : decode cX10_addPart 48 = .ok (.iaload, 1) := by decide +kernel
theorem dX10_addPart_49 : decode cX10_addPart 49 = .ok (.iconst 1, 1) := by decide +kernel
theorem dX10_addPart_50 : decode cX10_addPart 50 = .ok (.iadd, 1) := by decide +kernel
theorem dX10_addPart_51 : decode cX10_addPart 51 = .ok (.iastore, 1) := by decide +kernel
theorem dX10_addPart_52 : decode cX10_addPart 52 = .ok (.return_, 1) := by decide +kernel
theorem dX10_readHead_0 : decode cX10_readHead 0 = .ok (.iload_n 2, 1) := by decide +kernel
theorem dX10_readHead_1 : decode cX10_readHead 1 = .ok (.invokestatic 109, 3) := by decide +kernel
theorem dX10_readHead_4 : decode cX10_readHead 4 = .ok (.istore_n 3, 1) := by decide +kernel
theorem dX10_readHead_5 : decode cX10_readHead 5 = .ok (.iload_n 3, 1) := by decide +kernel
theorem dX10_readHead_6 : decode cX10_readHead 6 = .ok (.iload_n 2, 1) := by decide +kernel
theorem dX10_readHead_7 : decode cX10_readHead 7 = .ok (.invokestatic 112, 3) := by decide +kernel
theorem dX10_readHead_10 : decode cX10_readHead 10 = .ok (.if_icmp .gt 23, 3) := by decide +kernel
theorem dX10_readHead_13 : decode cX10_readHead 13 = .ok (.aload_n 0, 1) := by decide +kernel
theorem dX10_readHead_14 : decode cX10_readHead 14 = .ok (.getfield 28, 3) := by decide +kernel
theorem dX10_readHead_17 : decode cX10_readHead 17 = .ok (.iload_n 3, 1) := by decide +kernel
theorem dX10_readHead_18 : decode cX10_readHead 18 = .ok (.iconst 0, 1) := by decide +kernel
theorem dX10_readHead_19 : decode cX10_readHead 19 = .ok (.iastore, 1) := by decide +kernel
theorem dX10_readHead_20 : decode cX10_readHead 20 = .ok (.aload_n 0, 1) := by decide +kernel
theorem dX10_readHead_21 : decode cX10_readHead 21 = .ok (.getfield 31, 3) := by decide +kernel
theorem dX10_readHead_24 : decode cX10_readHead 24 = .ok (.iload_n 3, 1) := by decide +kernel
theorem dX10_readHead_25 : decode cX10_readHead 25 = .ok (.iconst 0, 1) := by decide +kernel
theorem dX10_readHead_26 : decode cX10_readHead 26 = .ok (.iastore, 1) := by decide +kernel
theorem dX10_readHead_27 : decode cX10_readHead 27 = .ok (.iinc 3 1, 3) := by decide +kernel
theorem dX10_readHead_30 : decode cX10_readHead 30 = .ok (.goto (-25), 3) := by decide +kernel
theorem dX10_readHead_33 : decode cX10_readHead 33 = .ok (.aload_n 1, 1) := by decide +kernel
theorem dX10_readHead_34 : decode cX10_readHead 34 = .ok (.iconst 1, 1) := by decide +kernel
theorem dX10_readHead_35 : decode cX10_readHead 35 = .ok (.invokevirtual 118, 3) := by decide +kernel
theorem dX10_readHead_38 : decode cX10_readHead 38 = .ok (.istore_n 3, 1) := by decide +kernel
theorem dX10_readHead_39 : decode cX10_readHead 39 = .ok (.iload_n 3, 1) := by decide +kernel
theorem dX10_readHead_40 : decode cX10_readHead 40 = .ok (.iconst 1, 1) := by decide +kernel
theorem dX10_readHead_41 : decode cX10_readHead 41 = .ok (.if_icmp .eq 13, 3) := by decide +kernel
theorem dX10_readHead_44 : decode cX10_readHead 44 = .ok (.iload_n 3, 1) := by decide +kernel
theorem dX10_readHead_45 : decode cX10_readHead 45 = .ok (.ifCond .ne 7, 3) := by decide +kernel
theorem dX10_readHead_48 : decode cX10_readHead 48 = .ok (.iconst 0, 1) := by decide +kernel
theorem dX10_readHead_49 : decode cX10_readHead 49 = .ok (.goto 4, 3) := by decide +kernel
theorem dX10_readHead_52 : decode cX10_readHead 52 = .ok (.iconst 1, 1) := by decide +kernel
theorem dX10_readHead_53 : decode cX10_readHead 53 = .ok (.ireturn, 1) := by decide +kernel
theorem dX10_readHead_54 : decode cX10_readHead 54 = .ok (.iload_n 2, 1) := by decide +kernel
theorem dX10_readHead_55 : decode cX10_readHead 55 = .ok (.invokestatic 109, 3) := by decide +kernel
theorem dX10_readHead_58 : decode cX10_readHead 58 = .ok (.istore 4, 2) := by decide +kernel
theorem dX10_readHead_60 : decode cX10_readHead 60 = .ok (.iload 4, 2) := by decide +kernel
theorem dX10_readHead_62 : decode cX10_readHead 62 = .ok (.iload_n 2, 1) := by decide +kernel
theorem dX10_readHead_63 : decode cX10_readHead 63 = .ok (.invokestatic 112, 3) := by decide +kernel
theorem dX10_readHead_66 : decode cX10_readHead 66 = .ok (.if_icmp .gt 42, 3) := by decide +kernel
theorem dX10_readHead_69 : decode cX10_readHead 69 = .ok (.aload_n 0, 1) := by decide +kernel
theorem dX10_readHead_70 : decode cX10_readHead 70 = .ok (.getfield 12, 3) := by decide +kernel
theorem dX10_readHead_73 : decode cX10_readHead 73 = .ok (.iload 4, 2) := by decide +kernel
theorem dX10_readHead_75 : decode cX10_readHead 75 = .ok (.invokevirtual 121, 3) := by decide +kernel
theorem dX10_readHead_78 : decode cX10_readHead 78 = .ok (.ifCond .eq 7, 3) := by decide +kernel
theorem dX10_readHead_81 : decode cX10_readHead 81 = .ok (.iconst 0, 1) := by decide +kernel
theorem dX10_readHead_82 : decode cX10_readHead 82 = .ok (.goto 10, 3) := by decide +kernel
theorem dX10_readHead_85 : decode cX10_readHead 85 = .ok (.aload_n 0, 1) := by decide +kernel
theorem dX10_readHead_86 : decode cX10_readHead 86 = .ok (.aload_n 1, 1) := by decide +kernel
theorem dX10_readHead_87 : decode cX10_readHead 87 = .ok (.iload 4, 2) := by decide +kernel
theorem dX10_readHead_89 : decode cX10_readHead 89 = .ok (.invokevirtual 124, 3) := by decide +kernel
theorem dX10_readHead_92 : decode cX10_readHead 92 = .ok (.istore 5, 2) := by decide +kernel
theorem dX10_readHead_94 : decode cX10_readHead 94 = .ok (.iload 5, 2) := by decide +kernel
theorem dX10_readHead_96 : decode cX10_readHead 96 = .ok (.ifCond .eq 6, 3) := by decide +kernel
theorem dX10_readHead_99 : decode cX10_readHead 99 = .ok (.iload 5, 2) := by decide +kernel
theorem dX10_readHead_101 : decode cX10_readHead 101 = .ok (.ireturn, 1) := by decide +kernel
theorem dX10_readHead_102 : decode cX10_readHead 102 = .ok (.iinc 4 1, 3) := by decide +kernel
theorem dX10_readHead_105 : decode cX10_readHead 105 = .ok (.goto (-45), 3) := by decide +kernel
theorem dX10_readHead_108 : decode cX10_readHead 108 = .ok (.iconst 0, 1) := by decide +kernel
theorem dX10_readHead_109 : decode cX10_readHead 109 = .ok (.ireturn, 1) := by decide +kernel
theorem dX10_readBandHead_0 : decode cX10_readBandHead 0 = .ok (.aload_n 1, 1) := by decide +kernel
theorem dX10_readBandHead_1 : decode cX10_readBandHead 1 = .ok (.iconst 1, 1) := by decide +kernel
theorem dX10_readBandHead_2 : decode cX10_readBandHead 2 = .ok (.invokevirtual 118, 3) := by decide +kernel
theorem dX10_readBandHead_5 : decode cX10_readBandHead 5 = .ok (.istore_n 3, 1) := by decide +kernel
theorem dX10_readBandHead_6 : decode cX10_readBandHead 6 = .ok (.iload_n 3, 1) := by decide +kernel
theorem dX10_readBandHead_7 : decode cX10_readBandHead 7 = .ok (.iconst 1, 1) := by decide +kernel
theorem dX10_readBandHead_8 : decode cX10_readBandHead 8 = .ok (.if_icmp .eq 13, 3) := by decide +kernel
theorem dX10_readBandHead_11 : decode cX10_readBandHead 11 = .ok (.iload_n 3, 1) := by decide +kernel
theorem dX10_readBandHead_12 : decode cX10_readBandHead 12 = .ok (.ifCond .ne 7, 3) := by decide +kernel
theorem dX10_readBandHead_15 : decode cX10_readBandHead 15 = .ok (.iconst 0, 1) := by decide +kernel
theorem dX10_readBandHead_16 : decode cX10_readBandHead 16 = .ok (.goto 4, 3) := by decide +kernel
theorem dX10_readBandHead_19 : decode cX10_readBandHead 19 = .ok (.iconst 1, 1) := by decide +kernel
theorem dX10_readBandHead_20 : decode cX10_readBandHead 20 = .ok (.ireturn, 1) := by decide +kernel
theorem dX10_readBandHead_21 : decode cX10_readBandHead 21 = .ok (.aload_n 0, 1) := by decide +kernel
theorem dX10_readBandHead_22 : decode cX10_readBandHead 22 = .ok (.getfield 22, 3) := by decide +kernel
theorem dX10_readBandHead_25 : decode cX10_readBandHead 25 = .ok (.iload_n 2, 1) := by decide +kernel
theorem dX10_readBandHead_26 : decode cX10_readBandHead 26 = .ok (.iaload, 1) := by decide +kernel
theorem dX10_readBandHead_27 : decode cX10_readBandHead 27 = .ok (.ifCond .ne 39, 3) := by decide +kernel
theorem dX10_readBandHead_30 : decode cX10_readBandHead 30 = .ok (.aload_n 1, 1) := by decide +kernel
theorem dX10_readBandHead_31 : decode cX10_readBandHead 31 = .ok (.iconst 4, 1) := by decide +kernel
theorem dX10_readBandHead_32 : decode cX10_readBandHead 32 = .ok (.invokevirtual 118, 3) := by decide +kernel
theorem dX10_readBandHead_35 : decode cX10_readBandHead 35 = .ok (.istore 4, 2) := by decide +kernel
theorem dX10_readBandHead_37 : decode cX10_readBandHead 37 = .ok (.iload 4, 2) := by decide +kernel
theorem dX10_readBandHead_39 : decode cX10_readBandHead 39 = .ok (.ifCond .ge 5, 3) := by decide +kernel
theorem dX10_readBandHead_42 : decode cX10_readBandHead 42 = .ok (.iconst 1, 1) := by decide +kernel
theorem dX10_readBandHead_43 : decode cX10_readBandHead 43 = .ok (.ireturn, 1) := by decide +kernel
theorem dX10_readBandHead_44 : decode cX10_readBandHead 44 = .ok (.iload 4, 2) := by decide +kernel
theorem dX10_readBandHead_46 : decode cX10_readBandHead 46 = .ok (.ifCond .eq 10, 3) := by decide +kernel
theorem dX10_readBandHead_49 : decode cX10_readBandHead 49 = .ok (.iload 4, 2) := by decide +kernel
theorem dX10_readBandHead_51 : decode cX10_readBandHead 51 = .ok (.bipush 12, 2) := by decide +kernel
theorem dX10_readBandHead_53 : decode cX10_readBandHead 53 = .ok (.if_icmp .le 5, 3) := by decide +kernel
theorem dX10_readBandHead_56 : decode cX10_readBandHead 56 = .ok (.iconst (-1), 1) := by decide +kernel
theorem dX10_readBandHead_57 : decode cX10_readBandHead 57 = .ok (.ireturn, 1) := by decide +kernel
theorem dX10_readBandHead_58 : decode cX10_readBandHead 58 = .ok (.aload_n 0, 1) := by decide +kernel
theorem dX10_readBandHead_59 : decode cX10_readBandHead 59 = .ok (.getfield 18, 3) := by decide +kernel
theorem dX10_readBandHead_62 : decode cX10_readBandHead 62 = .ok (.iload_n 2, 1) := by decide +kernel
theorem dX10_readBandHead_63 : decode cX10_readBandHead 63 = .ok (.iload 4, 2) := by decide +kernel
theorem dX10_readBandHead_65 : decode cX10_readBandHead 65 = .ok (.iastore, 1) := by decide +kernel
theorem dX10_readBandHead_66 : decode cX10_readBandHead 66 = .ok (.aload_n 1, 1) := by decide +kernel
theorem dX10_readBandHead_67 : decode cX10_readBandHead 67 = .ok (.invokestatic 127, 3) := by decide +kernel
theorem dX10_readBandHead_70 : decode cX10_readBandHead 70 = .ok (.istore 4, 2) := by decide +kernel
theorem dX10_readBandHead_72 : decode cX10_readBandHead 72 = .ok (.iload 4, 2) := by decide +kernel
theorem dX10_readBandHead_74 : decode cX10_readBandHead 74 = .ok (.ifCond .ge 5, 3) := by decide +kernel
theorem dX10_readBandHead_77 : decode cX10_readBandHead 77 = .ok (.iconst 1, 1) := by decide +kernel
theorem dX10_readBandHead_78 : decode cX10_readBandHead 78 = .ok (.ireturn, 1) := by decide +kernel
theorem dX10_readBandHead_79 : decode cX10_readBandHead 79 = .ok (.aload_n 0, 1) := by decide +kernel
theorem dX10_readBandHead_80 : decode cX10_readBandHead 80 = .ok (.getfield 22, 3) := by decide +kernel
theorem dX10_readBandHead_83 : decode cX10_readBandHead 83 = .ok (.iload_n 2, 1) := by decide +kernel
theorem dX10_readBandHead_84 : decode cX10_readBandHead 84 = .ok (.iaload, 1) := by decide +kernel
theorem dX10_readBandHead_85 : decode cX10_readBandHead 85 = .ok (.iload 4, 2) := by decide +kernel
theorem dX10_readBandHead_87 : decode cX10_readBandHead 87 = .ok (.iadd, 1) := by decide +kernel
theorem dX10_readBandHead_88 : decode cX10_readBandHead 88 = .ok (.aload_n 0, 1) := by decide +kernel
theorem dX10_readBandHead_89 : decode cX10_readBandHead 89 = .ok (.getfield 18, 3) := by decide +kernel
theorem dX10_readBandHead_92 : decode cX10_readBandHead 92 = .ok (.iload_n 2, 1) := by decide +kernel
theorem dX10_readBandHead_93 : decode cX10_readBandHead 93 = .ok (.iaload, 1) := by decide +kernel
theorem dX10_readBandHead_94 : decode cX10_readBandHead 94 = .ok (.invokestatic 131, 3) := by decide +kernel
theorem dX10_readBandHead_97 : decode cX10_readBandHead 97 = .ok (.if_icmp .le 5, 3) := by decide +kernel
theorem dX10_readBandHead_100 : decode cX10_readBandHead 100 = .ok (.iconst (-1), 1) := by decide +kernel
theorem dX10_readBandHead_101 : decode cX10_readBandHead 101 = .ok (.ireturn, 1) := by decide +kernel
theorem dX10_readBandHead_102 : decode cX10_readBandHead 102 = .ok (.aload_n 0, 1) := by decide +kernel
theorem dX10_readBandHead_103 : decode cX10_readBandHead 103 = .ok (.aload_n 1, 1) := by decide +kernel
theorem dX10_readBandHead_104 : decode cX10_readBandHead 104 = .ok (.iload_n 2, 1) := by decide +kernel
theorem dX10_readBandHead_105 : decode cX10_readBandHead 105 = .ok (.invokevirtual 134, 3) := by decide +kernel
theorem dX10_readBandHead_108 : decode cX10_readBandHead 108 = .ok (.aload_n 1, 1) := by decide +kernel
theorem dX10_readBandHead_109 : decode cX10_readBandHead 109 = .ok (.aload_n 0, 1) := by decide +kernel
theorem dX10_readBandHead_110 : decode cX10_readBandHead 110 = .ok (.getfield 25, 3) := by decide +kernel
theorem dX10_readBandHead_113 : decode cX10_readBandHead 113 = .ok (.iload_n 2, 1) := by decide +kernel
theorem dX10_readBandHead_114 : decode cX10_readBandHead 114 = .ok (.iaload, 1) := by decide +kernel
theorem dX10_readBandHead_115 : decode cX10_readBandHead 115 = .ok (.iload 4, 2) := by decide +kernel
theorem dX10_readBandHead_117 : decode cX10_readBandHead 117 = .ok (.invokestatic 138, 3) := by decide +kernel
theorem dX10_readBandHead_120 : decode cX10_readBandHead 120 = .ok (.iadd, 1) := by decide +kernel
theorem dX10_readBandHead_121 : decode cX10_readBandHead 121 = .ok (.iconst 1, 1) := by decide +kernel
theorem dX10_readBandHead_122 : decode cX10_readBandHead 122 = .ok (.isub, 1) := by decide +kernel
theorem dX10_readBandHead_123 : decode cX10_readBandHead 123 = .ok (.invokevirtual 118, 3) := by decide +kernel
theorem dX10_readBandHead_126 : decode cX10_readBandHead 126 = .ok (.istore 5, 2) := by decide +kernel
theorem dX10_readBandHead_128 : decode cX10_readBandHead 128 = .ok (.iload 5, 2) := by decide +kernel
theorem dX10_readBandHead_130 : decode cX10_readBandHead 130 = .ok (.ifCond .ge 5, 3) := by decide +kernel
theorem dX10_readBandHead_133 : decode cX10_readBandHead 133 = .ok (.iconst 1, 1) := by decide +kernel
theorem dX10_readBandHead_134 : decode cX10_readBandHead 134 = .ok (.ireturn, 1) := by decide +kernel
theorem dX10_readBandHead_135 : decode cX10_readBandHead 135 = .ok (.aload_n 0, 1) := by decide +kernel
theorem dX10_readBandHead_136 : decode cX10_readBandHead 136 = .ok (.getfield 28, 3) := by decide +kernel
theorem dX10_readBandHead_139 : decode cX10_readBandHead 139 = .ok (.iload_n 2, 1) := by decide +kernel
theorem dX10_readBandHead_140 : decode cX10_readBandHead 140 = .ok (.iload 4, 2) := by decide +kernel
theorem dX10_readBandHead_142 : decode cX10_readBandHead 142 = .ok (.iastore, 1) := by decide +kernel
theorem dX10_readBandHead_143 : decode cX10_readBandHead 143 = .ok (.aload_n 0, 1) := by decide +kernel
theorem dX10_readBandHead_144 : decode cX10_readBandHead 144 = .ok (.getfield 31, 3) := by decide +kernel
theorem dX10_readBandHead_147 : decode cX10_readBandHead 147 = .ok (.iload_n 2, 1) := by decide +kernel
theorem dX10_readBandHead_148 : decode cX10_readBandHead 148 = .ok (.iload 5, 2) := by decide +kernel
theorem dX10_readBandHead_150 : decode cX10_readBandHead 150 = .ok (.iastore, 1) := by decide +kernel
theorem dX10_readBandHead_151 : decode cX10_readBandHead 151 = .ok (.iconst 0, 1) := by decide +kernel
theorem dX10_readBandHead_152 : decode cX10_readBandHead 152 = .ok (.ireturn, 1) := by decide +kernel
theorem dX10_readCount_0 : decode cX10_readCount 0 = .ok (.aload_n 0, 1) := by decide +kernel
theorem dX10_readCount_1 : decode cX10_readCount 1 = .ok (.iconst 1, 1) := by decide +kernel
theorem dX10_readCount_2 : decode cX10_readCount 2 = .ok (.invokevirtual 118, 3) := by decide +kernel
theorem dX10_readCount_5 : decode cX10_readCount 5 = .ok (.istore_n 1, 1) := by decide +kernel
theorem dX10_readCount_6 : decode cX10_readCount 6 = .ok (.iload_n 1, 1) := by decide +kernel
theorem dX10_readCount_7 : decode cX10_readCount 7 = .ok (.iconst 1, 1) := by decide +kernel
theorem dX10_readCount_8 : decode cX10_readCount 8 = .ok (.if_icmp .eq 13, 3) := by decide +kernel
theorem dX10_readCount_11 : decode cX10_readCount 11 = .ok (.iload_n 1, 1) := by decide +kernel
theorem dX10_readCount_12 : decode cX10_readCount 12 = .ok (.ifCond .ne 7, 3) := by decide +kernel
theorem dX10_readCount_15 : decode cX10_readCount 15 = .ok (.iconst 1, 1) := by decide +kernel
theorem dX10_readCount_16 : decode cX10_readCount 16 = .ok (.goto 4, 3) := by decide +kernel
theorem dX10_readCount_19 : decode cX10_readCount 19 = .ok (.iload_n 1, 1) := by decide +kernel
theorem dX10_readCount_20 : decode cX10_readCount 20 = .ok (.ireturn, 1) := by decide +kernel
theorem dX10_readCount_21 : decode cX10_readCount 21 = .ok (.aload_n 0, 1) := by decide +kernel
theorem dX10_readCount_22 : decode cX10_readCount 22 = .ok (.iconst 1, 1) := by decide +kernel
theorem dX10_readCount_23 : decode cX10_readCount 23 = .ok (.invokevirtual 118, 3) := by decide +kernel
theorem dX10_readCount_26 : decode cX10_readCount 26 = .ok (.istore_n 1, 1) := by decide +kernel
theorem dX10_readCount_27 : decode cX10_readCount 27 = .ok (.iload_n 1, 1) := by decide +kernel
theorem dX10_readCount_28 : decode cX10_readCount 28 = .ok (.iconst 1, 1) := by decide +kernel
theorem dX10_readCount_29 : decode cX10_readCount 29 = .ok (.if_icmp .eq 13, 3) := by decide +kernel
theorem dX10_readCount_32 : decode cX10_readCount 32 = .ok (.iload_n 1, 1) := by decide +kernel
theorem dX10_readCount_33 : decode cX10_readCount 33 = .ok (.ifCond .ne 7, 3) := by decide +kernel
theorem dX10_readCount_36 : decode cX10_readCount 36 = .ok (.iconst 2, 1) := by decide +kernel
theorem dX10_readCount_37 : decode cX10_readCount 37 = .ok (.goto 4, 3) := by decide +kernel
theorem dX10_readCount_40 : decode cX10_readCount 40 = .ok (.iload_n 1, 1) := by decide +kernel
theorem dX10_readCount_41 : decode cX10_readCount 41 = .ok (.ireturn, 1) := by decide +kernel
theorem dX10_readCount_42 : decode cX10_readCount 42 = .ok (.aload_n 0, 1) := by decide +kernel
theorem dX10_readCount_43 : decode cX10_readCount 43 = .ok (.iconst 2, 1) := by decide +kernel
theorem dX10_readCount_44 : decode cX10_readCount 44 = .ok (.invokevirtual 118, 3) := by decide +kernel
theorem dX10_readCount_47 : decode cX10_readCount 47 = .ok (.istore_n 2, 1) := by decide +kernel
theorem dX10_readCount_48 : decode cX10_readCount 48 = .ok (.iload_n 2, 1) := by decide +kernel
theorem dX10_readCount_49 : decode cX10_readCount 49 = .ok (.iconst 3, 1) := by decide +kernel
theorem dX10_readCount_50 : decode cX10_readCount 50 = .ok (.if_icmp .eq 15, 3) := by decide +kernel
theorem dX10_readCount_53 : decode cX10_readCount 53 = .ok (.iload_n 2, 1) := by decide +kernel
theorem dX10_readCount_54 : decode cX10_readCount 54 = .ok (.ifCond .ge 7, 3) := by decide +kernel
theorem dX10_readCount_57 : decode cX10_readCount 57 = .ok (.iload_n 2, 1) := by decide +kernel
theorem dX10_readCount_58 : decode cX10_readCount 58 = .ok (.goto 6, 3) := by decide +kernel
theorem dX10_readCount_61 : decode cX10_readCount 61 = .ok (.iconst 3, 1) := by decide +kernel
theorem dX10_readCount_62 : decode cX10_readCount 62 = .ok (.iload_n 2, 1) := by decide +kernel
theorem dX10_readCount_63 : decode cX10_readCount 63 = .ok (.iadd, 1) := by decide +kernel
theorem dX10_readCount_64 : decode cX10_readCount 64 = .ok (.ireturn, 1) := by decide +kernel
theorem dX10_readCount_65 : decode cX10_readCount 65 = .ok (.aload_n 0, 1) := by decide +kernel
theorem dX10_readCount_66 : decode cX10_readCount 66 = .ok (.iconst 5, 1) := by decide +kernel
theorem dX10_readCount_67 : decode cX10_readCount 67 = .ok (.invokevirtual 118, 3) := by decide +kernel
theorem dX10_readCount_70 : decode cX10_readCount 70 = .ok (.istore_n 3, 1) := by decide +kernel
theorem dX10_readCount_71 : decode cX10_readCount 71 = .ok (.iload_n 3, 1) := by decide +kernel
theorem dX10_readCount_72 : decode cX10_readCount 72 = .ok (.ifCond .ge 7, 3) := by decide +kernel
theorem dX10_readCount_75 : decode cX10_readCount 75 = .ok (.iload_n 3, 1) := by decide +kernel
theorem dX10_readCount_76 : decode cX10_readCount 76 = .ok (.goto 7, 3) := by decide +kernel
theorem dX10_readCount_79 : decode cX10_readCount 79 = .ok (.bipush 6, 2) := by decide +kernel
theorem dX10_readCount_81 : decode cX10_readCount 81 = .ok (.iload_n 3, 1) := by decide +kernel
theorem dX10_readCount_82 : decode cX10_readCount 82 = .ok (.iadd, 1) := by decide +kernel
theorem dX10_readCount_83 : decode cX10_readCount 83 = .ok (.ireturn, 1) := by decide +kernel
theorem dX10_growWidth_0 : decode cX10_growWidth 0 = .ok (.iconst 0, 1) := by decide +kernel
theorem dX10_growWidth_1 : decode cX10_growWidth 1 = .ok (.istore_n 3, 1) := by decide +kernel
theorem dX10_growWidth_2 : decode cX10_growWidth 2 = .ok (.iload_n 3, 1) := by decide +kernel
theorem dX10_growWidth_3 : decode cX10_growWidth 3 = .ok (.sipush 8192, 3) := by decide +kernel
theorem dX10_growWidth_6 : decode cX10_growWidth 6 = .ok (.if_icmp .ge 28, 3) := by decide +kernel
theorem dX10_growWidth_9 : decode cX10_growWidth 9 = .ok (.aload_n 1, 1) := by decide +kernel
theorem dX10_growWidth_10 : decode cX10_growWidth 10 = .ok (.iconst 1, 1) := by decide +kernel
theorem dX10_growWidth_11 : decode cX10_growWidth 11 = .ok (.invokevirtual 118, 3) := by decide +kernel
theorem dX10_growWidth_14 : decode cX10_growWidth 14 = .ok (.iconst 1, 1) := by decide +kernel
theorem dX10_growWidth_15 : decode cX10_growWidth 15 = .ok (.if_icmp .ne 19, 3) := by decide +kernel
theorem dX10_growWidth_18 : decode cX10_growWidth 18 = .ok (.aload_n 0, 1) := by decide +kernel
theorem dX10_growWidth_19 : decode cX10_growWidth 19 = .ok (.getfield 25, 3) := by decide +kernel
theorem dX10_growWidth_22 : decode cX10_growWidth 22 = .ok (.iload_n 2, 1) := by decide +kernel
theorem dX10_growWidth_23 : decode cX10_growWidth 23 = .ok (.dup2, 1) := by decide +kernel
theorem dX10_growWidth_24 : decode cX10_growWidth 24 = .ok (.iaload, 1) := by decide +kernel
theorem dX10_growWidth_25 : decode cX10_growWidth 25 = .ok (.iconst 1, 1) := by decide +kernel
theorem dX10_growWidth_26 : decode cX10_growWidth 26 = .ok (.iadd, 1) := by decide +kernel
theorem dX10_growWidth_27 : decode cX10_growWidth 27 = .ok (.iastore, 1) := by decide +kernel
theorem dX10_growWidth_28 : decode cX10_growWidth 28 = .ok (.iinc 3 1, 3) := by decide +kernel
theorem dX10_growWidth_31 : decode cX10_growWidth 31 = .ok (.goto (-29), 3) := by decide +kernel
theorem dX10_growWidth_34 : decode cX10_growWidth 34 = .ok (.return_, 1) := by decide +kernel
theorem dX10_restore_0 : decode cX10_restore 0 = .ok (.iconst 0, 1) := by decide +kernel
theorem dX10_restore_1 : decode cX10_restore 1 = .ok (.istore_n 3, 1) := by decide +kernel
theorem dX10_restore_2 : decode cX10_restore 2 = .ok (.iload_n 3, 1) := by decide +kernel
theorem dX10_restore_3 : decode cX10_restore 3 = .ok (.aload_n 0, 1) := by decide +kernel
theorem dX10_restore_4 : decode cX10_restore 4 = .ok (.getfield 12, 3) := by decide +kernel
theorem dX10_restore_7 : decode cX10_restore 7 = .ok (.getfield 141, 3) := by decide +kernel
theorem dX10_restore_10 : decode cX10_restore 10 = .ok (.if_icmp .ge 100, 3) := by decide +kernel
theorem dX10_restore_13 : decode cX10_restore 13 = .ok (.aload_n 0, 1) := by decide +kernel
theorem dX10_restore_14 : decode cX10_restore 14 = .ok (.aload_n 1, 1) := by decide +kernel
theorem dX10_restore_15 : decode cX10_restore 15 = .ok (.iload_n 3, 1) := by decide +kernel
theorem dX10_restore_16 : decode cX10_restore 16 = .ok (.invokevirtual 144, 3) := by decide +kernel
theorem dX10_restore_19 : decode cX10_restore 19 = .ok (.aload_n 0, 1) := by decide +kernel
theorem dX10_restore_20 : decode cX10_restore 20 = .ok (.getfield 58, 3) := by decide +kernel
theorem dX10_restore_23 : decode cX10_restore 23 = .ok (.aload_n 0, 1) := by decide +kernel
theorem dX10_restore_24 : decode cX10_restore 24 = .ok (.getfield 12, 3) := by decide +kernel
theorem dX10_restore_27 : decode cX10_restore 27 = .ok (.getfield 147, 3) := by decide +kernel
theorem dX10_restore_30 : decode cX10_restore 30 = .ok (.iload_n 3, 1) := by decide +kernel
theorem dX10_restore_31 : decode cX10_restore 31 = .ok (.iaload, 1) := by decide +kernel
theorem dX10_restore_32 : decode cX10_restore 32 = .ok (.aload_n 0, 1) := by decide +kernel
theorem dX10_restore_33 : decode cX10_restore 33 = .ok (.getfield 12, 3) := by decide +kernel
theorem dX10_restore_36 : decode cX10_restore 36 = .ok (.getfield 150, 3) := by decide +kernel
theorem dX10_restore_39 : decode cX10_restore 39 = .ok (.iload_n 3, 1) := by decide +kernel
theorem dX10_restore_40 : decode cX10_restore 40 = .ok (.iaload, 1) := by decide +kernel
theorem dX10_restore_41 : decode cX10_restore 41 = .ok (.aload_n 0, 1) := by decide +kernel
theorem dX10_restore_42 : decode cX10_restore 42 = .ok (.getfield 12, 3) := by decide +kernel
theorem dX10_restore_45 : decode cX10_restore 45 = .ok (.iload_n 3, 1) := by decide +kernel
theorem dX10_restore_46 : decode cX10_restore 46 = .ok (.invokevirtual 153, 3) := by decide +kernel
theorem dX10_restore_49 : decode cX10_restore 49 = .ok (.invokevirtual 156, 3) := by decide +kernel
theorem dX10_restore_52 : decode cX10_restore 52 = .ok (.iconst 0, 1) := by decide +kernel
theorem dX10_restore_53 : decode cX10_restore 53 = .ok (.istore 4, 2) := by decide +kernel
theorem dX10_restore_55 : decode cX10_restore 55 = .ok (.iload 4, 2) := by decide +kernel
theorem dX10_restore_57 : decode cX10_restore 57 = .ok (.aload_n 0, 1) := by decide +kernel
theorem dX10_restore_58 : decode cX10_restore 58 = .ok (.getfield 22, 3) := by decide +kernel
theorem dX10_restore_61 : decode cX10_restore 61 = .ok (.iload_n 3, 1) := by decide +kernel
theorem dX10_restore_62 : decode cX10_restore 62 = .ok (.iaload, 1) := by decide +kernel
theorem dX10_restore_63 : decode cX10_restore 63 = .ok (.if_icmp .ge 24, 3) := by decide +kernel
theorem dX10_restore_66 : decode cX10_restore 66 = .ok (.aload_n 0, 1) := by decide +kernel
theorem dX10_restore_67 : decode cX10_restore 67 = .ok (.getfield 58, 3) := by decide +kernel
theorem dX10_restore_70 : decode cX10_restore 70 = .ok (.iload 4, 2) := by decide +kernel
theorem dX10_restore_72 : decode cX10_restore 72 = .ok (.aload_n 0, 1) := by decide +kernel
theorem dX10_restore_73 : decode cX10_restore 73 = .ok (.getfield 18, 3) := by decide +kernel
theorem dX10_restore_76 : decode cX10_restore 76 = .ok (.iload_n 3, 1) := by decide +kernel
theorem dX10_restore_77 : decode cX10_restore 77 = .ok (.iaload, 1) := by decide +kernel
theorem dX10_restore_78 : decode cX10_restore 78 = .ok (.invokevirtual 159, 3) := by decide +kernel
theorem dX10_restore_81 : decode cX10_restore 81 = .ok (.iinc 4 1, 3) := by decide +kernel
theorem dX10_restore_84 : decode cX10_restore 84 = .ok (.goto (-29), 3) := by decide +kernel
theorem dX10_restore_87 : decode cX10_restore 87 = .ok (.aload_n 0, 1) := by decide +kernel
theorem dX10_restore_88 : decode cX10_restore 88 = .ok (.iload_n 3, 1) := by decide +kernel
theorem dX10_restore_89 : decode cX10_restore 89 = .ok (.invokevirtual 162, 3) := by decide +kernel
theorem dX10_restore_92 : decode cX10_restore 92 = .ok (.aload_n 0, 1) := by decide +kernel
theorem dX10_restore_93 : decode cX10_restore 93 = .ok (.getfield 43, 3) := by decide +kernel
theorem dX10_restore_96 : decode cX10_restore 96 = .ok (.iload_n 3, 1) := by decide +kernel
theorem dX10_restore_97 : decode cX10_restore 97 = .ok (.aload_n 0, 1) := by decide +kernel
theorem dX10_restore_98 : decode cX10_restore 98 = .ok (.getfield 22, 3) := by decide +kernel
theorem dX10_restore_101 : decode cX10_restore 101 = .ok (.iload_n 3, 1) := by decide +kernel
theorem dX10_restore_102 : decode cX10_restore 102 = .ok (.iaload, 1) := by decide +kernel
theorem dX10_restore_103 : decode cX10_restore 103 = .ok (.iastore, 1) := by decide +kernel
theorem dX10_restore_104 : decode cX10_restore 104 = .ok (.iinc 3 1, 3) := by decide +kernel
theorem dX10_restore_107 : decode cX10_restore 107 = .ok (.goto (-105), 3) := by decide +kernel
theorem dX10_restore_110 : decode cX10_restore 110 = .ok (.aload_n 0, 1) := by decide +kernel
theorem dX10_restore_111 : decode cX10_restore 111 = .ok (.aload_n 0, 1) := by decide +kernel
theorem dX10_restore_112 : decode cX10_restore 112 = .ok (.getfield 12, 3) := by decide +kernel
theorem dX10_restore_115 : decode cX10_restore 115 = .ok (.getfield 141, 3) := by decide +kernel
theorem dX10_restore_118 : decode cX10_restore 118 = .ok (.putfield 62, 3) := by decide +kernel
theorem dX10_restore_121 : decode cX10_restore 121 = .ok (.aload_n 0, 1) := by decide +kernel
theorem dX10_restore_122 : decode cX10_restore 122 = .ok (.getfield 12, 3) := by decide +kernel
theorem dX10_restore_125 : decode cX10_restore 125 = .ok (.invokevirtual 166, 3) := by decide +kernel
theorem dX10_restore_128 : decode cX10_restore 128 = .ok (.aload_n 0, 1) := by decide +kernel
theorem dX10_restore_129 : decode cX10_restore 129 = .ok (.getfield 12, 3) := by decide +kernel
theorem dX10_restore_132 : decode cX10_restore 132 = .ok (.aload_n 2, 1) := by decide +kernel
theorem dX10_restore_133 : decode cX10_restore 133 = .ok (.invokevirtual 169, 3) := by decide +kernel
theorem dX10_restore_136 : decode cX10_restore 136 = .ok (.return_, 1) := by decide +kernel
theorem dX10_gatherBytes_0 : decode cX10_gatherBytes 0 = .ok (.aload_n 0, 1) := by decide +kernel
theorem dX10_gatherBytes_1 : decode cX10_gatherBytes 1 = .ok (.getfield 49, 3) := by decide +kernel
theorem dX10_gatherBytes_4 : decode cX10_gatherBytes 4 = .ok (.invokevirtual 173, 3) := by decide +kernel
theorem dX10_gatherBytes_7 : decode cX10_gatherBytes 7 = .ok (.iconst 0, 1) := by decide +kernel
theorem dX10_gatherBytes_8 : decode cX10_gatherBytes 8 = .ok (.istore_n 3, 1) := by decide +kernel
theorem dX10_gatherBytes_9 : decode cX10_gatherBytes 9 = .ok (.iload_n 3, 1) := by decide +kernel
theorem dX10_gatherBytes_10 : decode cX10_gatherBytes 10 = .ok (.aload_n 0, 1) := by decide +kernel
theorem dX10_gatherBytes_11 : decode cX10_gatherBytes 11 = .ok (.getfield 34, 3) := by decide +kernel
theorem dX10_gatherBytes_14 : decode cX10_gatherBytes 14 = .ok (.iload_n 2, 1) := by decide +kernel
theorem dX10_gatherBytes_15 : decode cX10_gatherBytes 15 = .ok (.iaload, 1) := by decide +kernel
theorem dX10_gatherBytes_16 : decode cX10_gatherBytes 16 = .ok (.if_icmp .ge 38, 3) := by decide +kernel
theorem dX10_gatherBytes_19 : decode cX10_gatherBytes 19 = .ok (.iload_n 2, 1) := by decide +kernel
theorem dX10_gatherBytes_20 : decode cX10_gatherBytes 20 = .ok (.iconst 3, 1) := by decide +kernel
theorem dX10_gatherBytes_21 : decode cX10_gatherBytes 21 = .ok (.imul, 1) := by decide +kernel
theorem dX10_gatherBytes_22 : decode cX10_gatherBytes 22 = .ok (.iload_n 3, 1) := by decide +kernel
theorem dX10_gatherBytes_23 : decode cX10_gatherBytes 23 = .ok (.iadd, 1) := by decide +kernel
theorem dX10_gatherBytes_24 : decode cX10_gatherBytes 24 = .ok (.istore 4, 2) := by decide +kernel
theorem dX10_gatherBytes_26 : decode cX10_gatherBytes 26 = .ok (.aload_n 0, 1) := by decide +kernel
theorem dX10_gatherBytes_27 : decode cX10_gatherBytes 27 = .ok (.getfield 49, 3) := by decide +kernel
theorem dX10_gatherBytes_30 : decode cX10_gatherBytes 30 = .ok (.aload_n 1, 1) := by decide +kernel
theorem dX10_gatherBytes_31 : decode cX10_gatherBytes 31 = .ok (.aload_n 0, 1) := by decide +kernel
theorem dX10_gatherBytes_32 : decode cX10_gatherBytes 32 = .ok (.getfield 37, 3) := by decide +kernel
theorem dX10_gatherBytes_35 : decode cX10_gatherBytes 35 = .ok (.iload 4, 2) := by decide +kernel
theorem dX10_gatherBytes_37 : decode cX10_gatherBytes 37 = .ok (.iaload, 1) := by decide +kernel
theorem dX10_gatherBytes_38 : decode cX10_gatherBytes 38 = .ok (.aload_n 0, 1) := by decide +kernel
theorem dX10_gatherBytes_39 : decode cX10_gatherBytes 39 = .ok (.getfield 40, 3) := by decide +kernel
theorem dX10_gatherBytes_42 : decode cX10_gatherBytes 42 = .ok (.iload 4, 2) := by decide +kernel
theorem dX10_gatherBytes_44 : decode cX10_gatherBytes 44 = .ok (.iaload, 1) := by decide +kernel
theorem dX10_gatherBytes_45 : decode cX10_gatherBytes 45 = .ok (.invokevirtual 176, 3) := by decide +kernel
theorem dX10_gatherBytes_48 : decode cX10_gatherBytes 48 = .ok (.iinc 3 1, 3) := by decide +kernel
theorem dX10_gatherBytes_51 : decode cX10_gatherBytes 51 = .ok (.goto (-42), 3) := by decide +kernel
theorem dX10_gatherBytes_54 : decode cX10_gatherBytes 54 = .ok (.aload_n 0, 1) := by decide +kernel
theorem dX10_gatherBytes_55 : decode cX10_gatherBytes 55 = .ok (.getfield 49, 3) := by decide +kernel
theorem dX10_gatherBytes_58 : decode cX10_gatherBytes 58 = .ok (.aload_n 0, 1) := by decide +kernel
theorem dX10_gatherBytes_59 : decode cX10_gatherBytes 59 = .ok (.getfield 49, 3) := by decide +kernel
theorem dX10_gatherBytes_62 : decode cX10_gatherBytes 62 = .ok (.invokevirtual 180, 3) := by decide +kernel
theorem dX10_gatherBytes_65 : decode cX10_gatherBytes 65 = .ok (.invokevirtual 183, 3) := by decide +kernel
theorem dX10_gatherBytes_68 : decode cX10_gatherBytes 68 = .ok (.return_, 1) := by decide +kernel
theorem dX10_keepNumbers_0 : decode cX10_keepNumbers 0 = .ok (.iconst 0, 1) := by decide +kernel
theorem dX10_keepNumbers_1 : decode cX10_keepNumbers 1 = .ok (.istore_n 2, 1) := by decide +kernel
theorem dX10_keepNumbers_2 : decode cX10_keepNumbers 2 = .ok (.iload_n 2, 1) := by decide +kernel
theorem dX10_keepNumbers_3 : decode cX10_keepNumbers 3 = .ok (.aload_n 0, 1) := by decide +kernel
theorem dX10_keepNumbers_4 : decode cX10_keepNumbers 4 = .ok (.getfield 12, 3) := by decide +kernel
theorem dX10_keepNumbers_7 : decode cX10_keepNumbers 7 = .ok (.getfield 150, 3) := by decide +kernel
theorem dX10_keepNumbers_10 : decode cX10_keepNumbers 10 = .ok (.iload_n 1, 1) := by decide +kernel
theorem dX10_keepNumbers_11 : decode cX10_keepNumbers 11 = .ok (.iaload, 1) := by decide +kernel
theorem dX10_keepNumbers_12 : decode cX10_keepNumbers 12 = .ok (.if_icmp .ge 49, 3) := by decide +kernel
theorem dX10_keepNumbers_15 : decode cX10_keepNumbers 15 = .ok (.iconst 0, 1) := by decide +kernel
theorem dX10_keepNumbers_16 : decode cX10_keepNumbers 16 = .ok (.istore_n 3, 1) := by decide +kernel
theorem dX10_keepNumbers_17 : decode cX10_keepNumbers 17 = .ok (.iload_n 3, 1) := by decide +kernel
theorem dX10_keepNumbers_18 : decode cX10_keepNumbers 18 = .ok (.aload_n 0, 1) := by decide +kernel
theorem dX10_keepNumbers_19 : decode cX10_keepNumbers 19 = .ok (.getfield 12, 3) := by decide +kernel
theorem dX10_keepNumbers_22 : decode cX10_keepNumbers 22 = .ok (.getfield 147, 3) := by decide +kernel
theorem dX10_keepNumbers_25 : decode cX10_keepNumbers 25 = .ok (.iload_n 1, 1) := by decide +kernel
theorem dX10_keepNumbers_26 : decode cX10_keepNumbers 26 = .ok (.iaload, 1) := by decide +kernel
theorem dX10_keepNumbers_27 : decode cX10_keepNumbers 27 = .ok (.if_icmp .ge 28, 3) := by decide +kernel
theorem dX10_keepNumbers_30 : decode cX10_keepNumbers 30 = .ok (.aload_n 0, 1) := by decide +kernel
theorem dX10_keepNumbers_31 : decode cX10_keepNumbers 31 = .ok (.getfield 12, 3) := by decide +kernel
theorem dX10_keepNumbers_34 : decode cX10_keepNumbers 34 = .ok (.iload_n 1, 1) := by decide +kernel
theorem dX10_keepNumbers_35 : decode cX10_keepNumbers 35 = .ok (.iload_n 3, 1) := by decide +kernel
theorem dX10_keepNumbers_36 : decode cX10_keepNumbers 36 = .ok (.iload_n 2, 1) := by decide +kernel
theorem dX10_keepNumbers_37 : decode cX10_keepNumbers 37 = .ok (.aload_n 0, 1) := by decide +kernel
theorem dX10_keepNumbers_38 : decode cX10_keepNumbers 38 = .ok (.getfield 58, 3) := by decide +kernel
theorem dX10_keepNumbers_41 : decode cX10_keepNumbers 41 = .ok (.iload_n 3, 1) := by decide +kernel
theorem dX10_keepNumbers_42 : decode cX10_keepNumbers 42 = .ok (.iload_n 2, 1) := by decide +kernel
theorem dX10_keepNumbers_43 : decode cX10_keepNumbers 43 = .ok (.invokevirtual 185, 3) := by decide +kernel
theorem dX10_keepNumbers_46 : decode cX10_keepNumbers 46 = .ok (.invokevirtual 189, 3) := by decide +kernel
theorem dX10_keepNumbers_49 : decode cX10_keepNumbers 49 = .ok (.iinc 3 1, 3) := by decide +kernel
theorem dX10_keepNumbers_52 : decode cX10_keepNumbers 52 = .ok (.goto (-35), 3) := by decide +kernel
theorem dX10_keepNumbers_55 : decode cX10_keepNumbers 55 = .ok (.iinc 2 1, 3) := by decide +kernel
theorem dX10_keepNumbers_58 : decode cX10_keepNumbers 58 = .ok (.goto (-56), 3) := by decide +kernel
theorem dX10_keepNumbers_61 : decode cX10_keepNumbers 61 = .ok (.return_, 1) := by decide +kernel
theorem dX11_init_0 : decode cX11_init 0 = .ok (.aload_n 0, 1) := by decide +kernel
theorem dX11_init_1 : decode cX11_init 1 = .ok (.invokespecial 1, 3) := by decide +kernel
theorem dX11_init_4 : decode cX11_init 4 = .ok (.aload_n 0, 1) := by decide +kernel
theorem dX11_init_5 : decode cX11_init 5 = .ok (.new 7, 3) := by decide +kernel
theorem dX11_init_8 : decode cX11_init 8 = .ok (.dup, 1) := by decide +kernel
theorem dX11_init_9 : decode cX11_init 9 = .ok (.invokespecial 9, 3) := by decide +kernel
theorem dX11_init_12 : decode cX11_init 12 = .ok (.putfield 10, 3) := by decide +kernel
theorem dX11_init_15 : decode cX11_init 15 = .ok (.aload_n 0, 1) := by decide +kernel
theorem dX11_init_16 : decode cX11_init 16 = .ok (.new 7, 3) := by decide +kernel
theorem dX11_init_19 : decode cX11_init 19 = .ok (.dup, 1) := by decide +kernel
theorem dX11_init_20 : decode cX11_init 20 = .ok (.invokespecial 9, 3) := by decide +kernel
theorem dX11_init_23 : decode cX11_init 23 = .ok (.putfield 16, 3) := by decide +kernel
theorem dX11_init_26 : decode cX11_init 26 = .ok (.aload_n 0, 1) := by decide +kernel
theorem dX11_init_27 : decode cX11_init 27 = .ok (.new 19, 3) := by decide +kernel
theorem dX11_init_30 : decode cX11_init 30 = .ok (.dup, 1) := by decide +kernel
theorem dX11_init_31 : decode cX11_init 31 = .ok (.invokespecial 21, 3) := by decide +kernel
theorem dX11_init_34 : decode cX11_init 34 = .ok (.putfield 22, 3) := by decide +kernel
theorem dX11_init_37 : decode cX11_init 37 = .ok (.aload_n 0, 1) := by decide +kernel
theorem dX11_init_38 : decode cX11_init 38 = .ok (.new 26, 3) := by decide +kernel
theorem dX11_init_41 : decode cX11_init 41 = .ok (.dup, 1) := by decide +kernel
theorem dX11_init_42 : decode cX11_init 42 = .ok (.invokespecial 28, 3) := by decide +kernel
theorem dX11_init_45 : decode cX11_init 45 = .ok (.putfield 29, 3) := by decide +kernel
theorem dX11_init_48 : decode cX11_init 48 = .ok (.aload_n 0, 1) := by decide +kernel
theorem dX11_init_49 : decode cX11_init 49 = .ok (.new 33, 3) := by decide +kernel
theorem dX11_init_52 : decode cX11_init 52 = .ok (.dup, 1) := by decide +kernel
theorem dX11_init_53 : decode cX11_init 53 = .ok (.invokespecial 35, 3) := by decide +kernel
theorem dX11_init_56 : decode cX11_init 56 = .ok (.putfield 36, 3) := by decide +kernel
theorem dX11_init_59 : decode cX11_init 59 = .ok (.aload_n 0, 1) := by decide +kernel
theorem dX11_init_60 : decode cX11_init 60 = .ok (.getfield 10, 3) := by decide +kernel
theorem dX11_init_63 : decode cX11_init 63 = .ok (.iconst 1, 1) := by decide +kernel
theorem dX11_init_64 : decode cX11_init 64 = .ok (.iconst 1, 1) := by decide +kernel
theorem dX11_init_65 : decode cX11_init 65 = .ok (.invokevirtual 40, 3) := by decide +kernel
theorem dX11_init_68 : decode cX11_init 68 = .ok (.return_, 1) := by decide +kernel
theorem dX11_picture_0 : decode cX11_picture 0 = .ok (.iload_n 1, 1) := by decide +kernel
theorem dX11_picture_1 : decode cX11_picture 1 = .ok (.invokestatic 44, 3) := by decide +kernel
theorem dX11_picture_4 : decode cX11_picture 4 = .ok (.ifCond .eq 10, 3) := by decide +kernel
theorem dX11_picture_7 : decode cX11_picture 7 = .ok (.iload_n 2, 1) := by decide +kernel
theorem dX11_picture_8 : decode cX11_picture 8 = .ok (.invokestatic 44, 3) := by decide +kernel
theorem dX11_picture_11 : decode cX11_picture 11 = .ok (.ifCond .ne 13, 3) := by decide +kernel
theorem dX11_picture_14 : decode cX11_picture 14 = .ok (.new 48, 3) := by decide +kernel
theorem dX11_picture_17 : decode cX11_picture 17 = .ok (.dup, 1) := by decide +kernel
theorem dX11_picture_18 : decode cX11_picture 18 = .ok (.ldc 50, 2) := by decide +kernel
theorem dX11_picture_20 : decode cX11_picture 20 = .ok (.invokespecial 52, 3) := by decide +kernel
theorem dX11_picture_23 : decode cX11_picture 23 = .ok (.athrow, 1) := by decide +kernel
theorem dX11_picture_24 : decode cX11_picture 24 = .ok (.aload_n 0, 1) := by decide +kernel
theorem dX11_picture_25 : decode cX11_picture 25 = .ok (.getfield 10, 3) := by decide +kernel
theorem dX11_picture_28 : decode cX11_picture 28 = .ok (.iload_n 1, 1) := by decide +kernel
theorem dX11_picture_29 : decode cX11_picture 29 = .ok (.iload_n 2, 1) := by decide +kernel
theorem dX11_picture_30 : decode cX11_picture 30 = .ok (.invokevirtual 40, 3) := by decide +kernel
theorem dX11_picture_33 : decode cX11_picture 33 = .ok (.return_, 1) := by decide +kernel
theorem dX11_paint_0 : decode cX11_paint 0 = .ok (.aload_n 0, 1) := by decide +kernel
theorem dX11_paint_1 : decode cX11_paint 1 = .ok (.getfield 10, 3) := by decide +kernel
theorem dX11_paint_4 : decode cX11_paint 4 = .ok (.iload_n 1, 1) := by decide +kernel
theorem dX11_paint_5 : decode cX11_paint 5 = .ok (.iload_n 2, 1) := by decide +kernel
theorem dX11_paint_6 : decode cX11_paint 6 = .ok (.invokevirtual 55, 3) := by decide +kernel
theorem dX11_paint_9 : decode cX11_paint 9 = .ok (.ifCond .eq 14, 3) := by decide +kernel
theorem dX11_paint_12 : decode cX11_paint 12 = .ok (.iload_n 3, 1) := by decide +kernel
theorem dX11_paint_13 : decode cX11_paint 13 = .ok (.ifCond .lt 10, 3) := by decide +kernel
theorem dX11_paint_16 : decode cX11_paint 16 = .ok (.iload_n 3, 1) := by decide +kernel
theorem dX11_paint_17 : decode cX11_paint 17 = .ok (.sipush 255, 3) := by decide +kernel
theorem dX11_paint_20 : decode cX11_paint 20 = .ok (.if_icmp .le 13, 3) := by decide +kernel
theorem dX11_paint_23 : decode cX11_paint 23 = .ok (.new 48, 3) := by decide +kernel
theorem dX11_paint_26 : decode cX11_paint 26 = .ok (.dup, 1) := by decide +kernel
theorem dX11_paint_27 : decode cX11_paint 27 = .ok (.ldc 59, 2) := by decide +kernel
theorem dX11_paint_29 : decode cX11_paint 29 = .ok (.invokespecial 52, 3) := by decide +kernel
theorem dX11_paint_32 : decode cX11_paint 32 = .ok (.athrow, 1) := by decide +kernel
theorem dX11_paint_33 : decode cX11_paint 33 = .ok (.aload_n 0, 1) := by decide +kernel
theorem dX11_paint_34 : decode cX11_paint 34 = .ok (.getfield 10, 3) := by decide +kernel
theorem dX11_paint_37 : decode cX11_paint 37 = .ok (.iload_n 1, 1) := by decide +kernel
theorem dX11_paint_38 : decode cX11_paint 38 = .ok (.iload_n 2, 1) := by decide +kernel
theorem dX11_paint_39 : decode cX11_paint 39 = .ok (.iload_n 3, 1) := by decide +kernel
theorem dX11_paint_40 : decode cX11_paint 40 = .ok (.invokevirtual 61, 3) := by decide +kernel
theorem dX11_paint_43 : decode cX11_paint 43 = .ok (.return_, 1) := by decide +kernel
theorem dX11_pixel_0 : decode cX11_pixel 0 = .ok (.aload_n 0, 1) := by decide +kernel
theorem dX11_pixel_1 : decode cX11_pixel 1 = .ok (.getfield 10, 3) := by decide +kernel
theorem dX11_pixel_4 : decode cX11_pixel 4 = .ok (.iload_n 1, 1) := by decide +kernel
theorem dX11_pixel_5 : decode cX11_pixel 5 = .ok (.iload_n 2, 1) := by decide +kernel
theorem dX11_pixel_6 : decode cX11_pixel 6 = .ok (.invokevirtual 65, 3) := by decide +kernel
theorem dX11_pixel_9 : decode cX11_pixel 9 = .ok (.ireturn, 1) := by decide +kernel
theorem dX11_encode_0 : decode cX11_encode 0 = .ok (.iload_n 1, 1) := by decide +kernel
theorem dX11_encode_1 : decode cX11_encode 1 = .ok (.invokestatic 69, 3) := by decide +kernel
theorem dX11_encode_4 : decode cX11_encode 4 = .ok (.ifCond .eq 10, 3) := by decide +kernel
theorem dX11_encode_7 : decode cX11_encode 7 = .ok (.iload_n 2, 1) := by decide +kernel
theorem dX11_encode_8 : decode cX11_encode 8 = .ok (.invokestatic 72, 3) := by decide +kernel
theorem dX11_encode_11 : decode cX11_encode 11 = .ok (.ifCond .ne 13, 3) := by decide +kernel
theorem dX11_encode_14 : decode cX11_encode 14 = .ok (.new 48, 3) := by decide +kernel
theorem dX11_encode_17 : decode cX11_encode 17 = .ok (.dup, 1) := by decide +kernel
theorem dX11_encode_18 : decode cX11_encode 18 = .ok (.ldc 75, 2) := by decide +kernel
theorem dX11_encode_20 : decode cX11_encode 20 = .ok (.invokespecial 52, 3) := by decide +kernel
theorem dX11_encode_23 : decode cX11_encode 23 = .ok (.athrow, 1) := by decide +kernel
theorem dX11_encode_24 : decode cX11_encode 24 = .ok (.aload_n 0, 1) := by decide +kernel
theorem dX11_encode_25 : decode cX11_encode 25 = .ok (.getfield 29, 3) := by decide +kernel
theorem dX11_encode_28 : decode cX11_encode 28 = .ok (.aload_n 0, 1) := by decide +kernel
theorem dX11_encode_29 : decode cX11_encode 29 = .ok (.getfield 10, 3) := by decide +kernel
theorem dX11_encode_32 : decode cX11_encode 32 = .ok (.iload_n 1, 1) := by decide +kernel
theorem dX11_encode_33 : decode cX11_encode 33 = .ok (.iload_n 2, 1) := by decide +kernel
theorem dX11_encode_34 : decode cX11_encode 34 = .ok (.aload_n 0, 1) := by decide +kernel
theorem dX11_encode_35 : decode cX11_encode 35 = .ok (.getfield 22, 3) := by decide +kernel
theorem dX11_encode_38 : decode cX11_encode 38 = .ok (.invokevirtual 77, 3) := by decide +kernel
theorem dX11_encode_41 : decode cX11_encode 41 = .ok (.aload_n 0, 1) := by decide +kernel
theorem dX11_encode_42 : decode cX11_encode 42 = .ok (.getfield 22, 3) := by decide +kernel
theorem dX11_encode_45 : decode cX11_encode 45 = .ok (.invokevirtual 81, 3) := by decide +kernel
theorem dX11_encode_48 : decode cX11_encode 48 = .ok (.ireturn, 1) := by decide +kernel
theorem dX11_stream_0 : decode cX11_stream 0 = .ok (.aload_n 0, 1) := by decide +kernel
theorem dX11_stream_1 : decode cX11_stream 1 = .ok (.getfield 22, 3) := by decide +kernel
theorem dX11_stream_4 : decode cX11_stream 4 = .ok (.iload_n 1, 1) := by decide +kernel
theorem dX11_stream_5 : decode cX11_stream 5 = .ok (.invokevirtual 85, 3) := by decide +kernel
theorem dX11_stream_8 : decode cX11_stream 8 = .ok (.ifCond .eq 14, 3) := by decide +kernel
theorem dX11_stream_11 : decode cX11_stream 11 = .ok (.aload_n 0, 1) := by decide +kernel
theorem dX11_stream_12 : decode cX11_stream 12 = .ok (.getfield 22, 3) := by decide +kernel
theorem dX11_stream_15 : decode cX11_stream 15 = .ok (.iload_n 1, 1) := by decide +kernel
theorem dX11_stream_16 : decode cX11_stream 16 = .ok (.invokevirtual 87, 3) := by decide +kernel
theorem dX11_stream_19 : decode cX11_stream 19 = .ok (.goto 5, 3) := by decide +kernel
theorem dX11_stream_22 : decode cX11_stream 22 = .ok (.ldc 90, 2) := by decide +kernel
theorem dX11_stream_24 : decode cX11_stream 24 = .ok (.ireturn, 1) := by decide +kernel
theorem dX11_poke_0 : decode cX11_poke 0 = .ok (.aload_n 0, 1) := by decide +kernel
theorem dX11_poke_1 : decode cX11_poke 1 = .ok (.getfield 22, 3) := by decide +kernel
theorem dX11_poke_4 : decode cX11_poke 4 = .ok (.iload_n 1, 1) := by decide +kernel
theorem dX11_poke_5 : decode cX11_poke 5 = .ok (.invokevirtual 85, 3) := by decide +kernel
theorem dX11_poke_8 : decode cX11_poke 8 = .ok (.ifCond .eq 14, 3) := by decide +kernel
theorem dX11_poke_11 : decode cX11_poke 11 = .ok (.iload_n 2, 1) := by decide +kernel
theorem dX11_poke_12 : decode cX11_poke 12 = .ok (.ifCond .lt 10, 3) := by decide +kernel
theorem dX11_poke_15 : decode cX11_poke 15 = .ok (.iload_n 2, 1) := by decide +kernel
theorem dX11_poke_16 : decode cX11_poke 16 = .ok (.sipush 255, 3) := by decide +kernel
theorem dX11_poke_19 : decode cX11_poke 19 = .ok (.if_icmp .le 5, 3) := by decide +kernel
theorem dX11_poke_22 : decode cX11_poke 22 = .ok (.iconst 0, 1) := by decide +kernel
theorem dX11_poke_23 : decode cX11_poke 23 = .ok (.ireturn, 1) := by decide +kernel
theorem dX11_poke_24 : decode cX11_poke 24 = .ok (.aload_n 0, 1) := by decide +kernel
theorem dX11_poke_25 : decode cX11_poke 25 = .ok (.getfield 22, 3) := by decide +kernel
theorem dX11_poke_28 : decode cX11_poke 28 = .ok (.iload_n 1, 1) := by decide +kernel
theorem dX11_poke_29 : decode cX11_poke 29 = .ok (.iload_n 2, 1) := by decide +kernel
theorem dX11_poke_30 : decode cX11_poke 30 = .ok (.invokevirtual 91, 3) := by decide +kernel
theorem dX11_poke_33 : decode cX11_poke 33 = .ok (.iconst 1, 1) := by decide +kernel
theorem dX11_poke_34 : decode cX11_poke 34 = .ok (.ireturn, 1) := by decide +kernel
theorem dX11_band_0 : decode cX11_band 0 = .ok (.aload_n 0, 1) := by decide +kernel
theorem dX11_band_1 : decode cX11_band 1 = .ok (.getfield 29, 3) := by decide +kernel
theorem dX11_band_4 : decode cX11_band 4 = .ok (.iload_n 1, 1) := by decide +kernel
theorem dX11_band_5 : decode cX11_band 5 = .ok (.iload_n 2, 1) := by decide +kernel
theorem dX11_band_6 : decode cX11_band 6 = .ok (.invokevirtual 93, 3) := by decide +kernel
theorem dX11_band_9 : decode cX11_band 9 = .ok (.ireturn, 1) := by decide +kernel
theorem dX11_number_0 : decode cX11_number 0 = .ok (.aload_n 0, 1) := by decide +kernel
theorem dX11_number_1 : decode cX11_number 1 = .ok (.getfield 29, 3) := by decide +kernel
theorem dX11_number_4 : decode cX11_number 4 = .ok (.iload_n 1, 1) := by decide +kernel
theorem dX11_number_5 : decode cX11_number 5 = .ok (.iload_n 2, 1) := by decide +kernel
theorem dX11_number_6 : decode cX11_number 6 = .ok (.iload_n 3, 1) := by decide +kernel
theorem dX11_number_7 : decode cX11_number 7 = .ok (.invokevirtual 96, 3) := by decide +kernel
theorem dX11_number_10 : decode cX11_number 10 = .ok (.ireturn, 1) := by decide +kernel
theorem dX11_codeword_0 : decode cX11_codeword 0 = .ok (.aload_n 0, 1) := by decide +kernel
theorem dX11_codeword_1 : decode cX11_codeword 1 = .ok (.getfield 29, 3) := by decide +kernel
theorem dX11_codeword_4 : decode cX11_codeword 4 = .ok (.iload_n 1, 1) := by decide +kernel
theorem dX11_codeword_5 : decode cX11_codeword 5 = .ok (.iload_n 2, 1) := by decide +kernel
theorem dX11_codeword_6 : decode cX11_codeword 6 = .ok (.invokevirtual 100, 3) := by decide +kernel
theorem dX11_codeword_9 : decode cX11_codeword 9 = .ok (.ireturn, 1) := by decide +kernel
theorem dX11_least_0 : decode cX11_least 0 = .ok (.aload_n 0, 1) := by decide +kernel
theorem dX11_least_1 : decode cX11_least 1 = .ok (.getfield 29, 3) := by decide +kernel
theorem dX11_least_4 : decode cX11_least 4 = .ok (.iload_n 1, 1) := by decide +kernel
theorem dX11_least_5 : decode cX11_least 5 = .ok (.iload_n 2, 1) := by decide +kernel
theorem dX11_least_6 : decode cX11_least 6 = .ok (.invokevirtual 103, 3) := by decide +kernel
theorem dX11_least_9 : decode cX11_least 9 = .ok (.ireturn, 1) := by decide +kernel
theorem dX11_decode_0 : decode cX11_decode 0 = .ok (.iload_n 1, 1) := by decide +kernel
theorem dX11_decode_1 : decode cX11_decode 1 = .ok (.iconst 4, 1) := by decide +kernel
theorem dX11_decode_2 : decode cX11_decode 2 = .ok (.if_icmp .lt 14, 3) := by decide +kernel
theorem dX11_decode_5 : decode cX11_decode 5 = .ok (.iload_n 1, 1) := by decide +kernel
theorem dX11_decode_6 : decode cX11_decode 6 = .ok (.aload_n 0, 1) := by decide +kernel
theorem dX11_decode_7 : decode cX11_decode 7 = .ok (.getfield 22, 3) := by decide +kernel
theorem dX11_decode_10 : decode cX11_decode 10 = .ok (.invokevirtual 81, 3) := by decide +kernel
theorem dX11_decode_13 : decode cX11_decode 13 = .ok (.if_icmp .le 13, 3) := by decide +kernel
theorem dX11_decode_16 : decode cX11_decode 16 = .ok (.new 48, 3) := by decide +kernel
theorem dX11_decode_19 : decode cX11_decode 19 = .ok (.dup, 1) := by decide +kernel
theorem dX11_decode_20 : decode cX11_decode 20 = .ok (.ldc 106, 2) := by decide +kernel
theorem dX11_decode_22 : decode cX11_decode 22 = .ok (.invokespecial 52, 3) := by decide +kernel
theorem dX11_decode_25 : decode cX11_decode 25 = .ok (.athrow, 1) := by decide +kernel
theorem dX11_decode_26 : decode cX11_decode 26 = .ok (.aload_n 0, 1) := by decide +kernel
theorem dX11_decode_27 : decode cX11_decode 27 = .ok (.getfield 36, 3) := by decide +kernel
theorem dX11_decode_30 : decode cX11_decode 30 = .ok (.aload_n 0, 1) := by decide +kernel
theorem dX11_decode_31 : decode cX11_decode 31 = .ok (.getfield 22, 3) := by decide +kernel
theorem dX11_decode_34 : decode cX11_decode 34 = .ok (.iload_n 1, 1) := by decide +kernel
theorem dX11_decode_35 : decode cX11_decode 35 = .ok (.invokevirtual 108, 3) := by decide +kernel
theorem dX11_decode_38 : decode cX11_decode 38 = .ok (.istore_n 2, 1) := by decide +kernel
theorem dX11_decode_39 : decode cX11_decode 39 = .ok (.iload_n 2, 1) := by decide +kernel
theorem dX11_decode_40 : decode cX11_decode 40 = .ok (.ifCond .ge 13, 3) := by decide +kernel
theorem dX11_decode_43 : decode cX11_decode 43 = .ok (.new 48, 3) := by decide +kernel
theorem dX11_decode_46 : decode cX11_decode 46 = .ok (.dup, 1) := by decide +kernel
theorem dX11_decode_47 : decode cX11_decode 47 = .ok (.ldc 112, 2) := by decide +kernel
theorem dX11_decode_49 : decode cX11_decode 49 = .ok (.invokespecial 52, 3) := by decide +kernel
theorem dX11_decode_52 : decode cX11_decode 52 = .ok (.athrow, 1) := by decide +kernel
theorem dX11_decode_53 : decode cX11_decode 53 = .ok (.aload_n 0, 1) := by decide +kernel
theorem dX11_decode_54 : decode cX11_decode 54 = .ok (.getfield 36, 3) := by decide +kernel
theorem dX11_decode_57 : decode cX11_decode 57 = .ok (.aload_n 0, 1) := by decide +kernel
theorem dX11_decode_58 : decode cX11_decode 58 = .ok (.getfield 22, 3) := by decide +kernel
theorem dX11_decode_61 : decode cX11_decode 61 = .ok (.aload_n 0, 1) := by decide +kernel
theorem dX11_decode_62 : decode cX11_decode 62 = .ok (.getfield 16, 3) := by decide +kernel
theorem dX11_decode_65 : decode cX11_decode 65 = .ok (.invokevirtual 114, 3) := by decide +kernel
theorem dX11_decode_68 : decode cX11_decode 68 = .ok (.iload_n 2, 1) := by decide +kernel
theorem dX11_decode_69 : decode cX11_decode 69 = .ok (.ireturn, 1) := by decide +kernel
theorem dX11_decoded_0 : decode cX11_decoded 0 = .ok (.aload_n 0, 1) := by decide +kernel
theorem dX11_decoded_1 : decode cX11_decoded 1 = .ok (.getfield 16, 3) := by decide +kernel
theorem dX11_decoded_4 : decode cX11_decoded 4 = .ok (.iload_n 1, 1) := by decide +kernel
theorem dX11_decoded_5 : decode cX11_decoded 5 = .ok (.iload_n 2, 1) := by decide +kernel
theorem dX11_decoded_6 : decode cX11_decoded 6 = .ok (.invokevirtual 65, 3) := by decide +kernel
theorem dX11_decoded_9 : decode cX11_decoded 9 = .ok (.ireturn, 1) := by decide +kernel
theorem dX11_taken_0 : decode cX11_taken 0 = .ok (.aload_n 0, 1) := by decide +kernel
theorem dX11_taken_1 : decode cX11_taken 1 = .ok (.getfield 36, 3) := by decide +kernel
theorem dX11_taken_4 : decode cX11_taken 4 = .ok (.iload_n 1, 1) := by decide +kernel
theorem dX11_taken_5 : decode cX11_taken 5 = .ok (.invokevirtual 118, 3) := by decide +kernel
theorem dX11_taken_8 : decode cX11_taken 8 = .ok (.ireturn, 1) := by decide +kernel
theorem dX11_difference_0 : decode cX11_difference 0 = .ok (.aload_n 0, 1) := by decide +kernel
theorem dX11_difference_1 : decode cX11_difference 1 = .ok (.getfield 10, 3) := by decide +kernel
theorem dX11_difference_4 : decode cX11_difference 4 = .ok (.aload_n 0, 1) := by decide +kernel
theorem dX11_difference_5 : decode cX11_difference 5 = .ok (.getfield 16, 3) := by decide +kernel
theorem dX11_difference_8 : decode cX11_difference 8 = .ok (.invokevirtual 121, 3) := by decide +kernel
theorem dX11_difference_11 : decode cX11_difference 11 = .ok (.ireturn, 1) := by decide +kernel
theorem dX11_isSide_0 : decode cX11_isSide 0 = .ok (.iload_n 0, 1) := by decide +kernel
theorem dX11_isSide_1 : decode cX11_isSide 1 = .ok (.iconst 1, 1) := by decide +kernel
theorem dX11_isSide_2 : decode cX11_isSide 2 = .ok (.if_icmp .lt 13, 3) := by decide +kernel
theorem dX11_isSide_5 : decode cX11_isSide 5 = .ok (.iload_n 0, 1) := by decide +kernel
theorem dX11_isSide_6 : decode cX11_isSide 6 = .ok (.bipush 8, 2) := by decide +kernel
theorem dX11_isSide_8 : decode cX11_isSide 8 = .ok (.if_icmp .gt 7, 3) := by decide +kernel
theorem dX11_isSide_11 : decode cX11_isSide 11 = .ok (.iconst 1, 1) := by decide +kernel
theorem dX11_isSide_12 : decode cX11_isSide 12 = .ok (.goto 4, 3) := by decide +kernel
theorem dX11_isSide_15 : decode cX11_isSide 15 = .ok (.iconst 0, 1) := by decide +kernel
theorem dX11_isSide_16 : decode cX11_isSide 16 = .ok (.ireturn, 1) := by decide +kernel
theorem dX11_areLevels_0 : decode cX11_areLevels 0 = .ok (.iload_n 0, 1) := by decide +kernel
theorem dX11_areLevels_1 : decode cX11_areLevels 1 = .ok (.ifCond .lt 12, 3) := by decide +kernel
theorem dX11_areLevels_4 : decode cX11_areLevels 4 = .ok (.iload_n 0, 1) := by decide +kernel
theorem dX11_areLevels_5 : decode cX11_areLevels 5 = .ok (.iconst 3, 1) := by decide +kernel
theorem dX11_areLevels_6 : decode cX11_areLevels 6 = .ok (.if_icmp .gt 7, 3) := by decide +kernel
theorem dX11_areLevels_9 : decode cX11_areLevels 9 = .ok (.iconst 1, 1) := by decide +kernel
theorem dX11_areLevels_10 : decode cX11_areLevels 10 = .ok (.goto 4, 3) := by decide +kernel
theorem dX11_areLevels_13 : decode cX11_areLevels 13 = .ok (.iconst 0, 1) := by decide +kernel
theorem dX11_areLevels_14 : decode cX11_areLevels 14 = .ok (.ireturn, 1) := by decide +kernel
theorem dX11_areLayers_0 : decode cX11_areLayers 0 = .ok (.iload_n 0, 1) := by decide +kernel
theorem dX11_areLayers_1 : decode cX11_areLayers 1 = .ok (.iconst 1, 1) := by decide +kernel
theorem dX11_areLayers_2 : decode cX11_areLayers 2 = .ok (.if_icmp .lt 12, 3) := by decide +kernel
theorem dX11_areLayers_5 : decode cX11_areLayers 5 = .ok (.iload_n 0, 1) := by decide +kernel
theorem dX11_areLayers_6 : decode cX11_areLayers 6 = .ok (.iconst 3, 1) := by decide +kernel
theorem dX11_areLayers_7 : decode cX11_areLayers 7 = .ok (.if_icmp .gt 7, 3) := by decide +kernel
theorem dX11_areLayers_10 : decode cX11_areLayers 10 = .ok (.iconst 1, 1) := by decide +kernel
theorem dX11_areLayers_11 : decode cX11_areLayers 11 = .ok (.goto 4, 3) := by decide +kernel
theorem dX11_areLayers_14 : decode cX11_areLayers 14 = .ok (.iconst 0, 1) := by decide +kernel
theorem dX11_areLayers_15 : decode cX11_areLayers 15 = .ok (.ireturn, 1) := by decide +kernel
theorem dX11_firstBandOf_0 : decode cX11_firstBandOf 0 = .ok (.iload_n 0, 1) := by decide +kernel
theorem dX11_firstBandOf_1 : decode cX11_firstBandOf 1 = .ok (.ifCond .ne 7, 3) := by decide +kernel
theorem dX11_firstBandOf_4 : decode cX11_firstBandOf 4 = .ok (.iconst 0, 1) := by decide +kernel
theorem dX11_firstBandOf_5 : decode cX11_firstBandOf 5 = .ok (.goto 8, 3) := by decide +kernel
theorem dX11_firstBandOf_8 : decode cX11_firstBandOf 8 = .ok (.iconst 3, 1) := by decide +kernel
theorem dX11_firstBandOf_9 : decode cX11_firstBandOf 9 = .ok (.iload_n 0, 1) := by decide +kernel
theorem dX11_firstBandOf_10 : decode cX11_firstBandOf 10 = .ok (.imul, 1) := by decide +kernel
theorem dX11_firstBandOf_11 : decode cX11_firstBandOf 11 = .ok (.iconst 2, 1) := by decide +kernel
theorem dX11_firstBandOf_12 : decode cX11_firstBandOf 12 = .ok (.isub, 1) := by decide +kernel
theorem dX11_firstBandOf_13 : decode cX11_firstBandOf 13 = .ok (.ireturn, 1) := by decide +kernel
theorem dX11_lastBandOf_0 : decode cX11_lastBandOf 0 = .ok (.iconst 3, 1) := by decide +kernel
theorem dX11_lastBandOf_1 : decode cX11_lastBandOf 1 = .ok (.iload_n 0, 1) := by decide +kernel
theorem dX11_lastBandOf_2 : decode cX11_lastBandOf 2 = .ok (.imul, 1) := by decide +kernel
theorem dX11_lastBandOf_3 : decode cX11_lastBandOf 3 = .ok (.ireturn, 1) := by decide +kernel
theorem dX11_passesOf_0 : decode cX11_passesOf 0 = .ok (.iload_n 0, 1) := by decide +kernel
theorem dX11_passesOf_1 : decode cX11_passesOf 1 = .ok (.ifCond .ne 7, 3) := by decide +kernel
theorem dX11_passesOf_4 : decode cX11_passesOf 4 = .ok (.iconst 0, 1) := by decide +kernel
theorem dX11_passesOf_5 : decode cX11_passesOf 5 = .ok (.goto 8, 3) := by decide +kernel
theorem dX11_passesOf_8 : decode cX11_passesOf 8 = .ok (.iconst 3, 1) := by decide +kernel
theorem dX11_passesOf_9 : decode cX11_passesOf 9 = .ok (.iload_n 0, 1) := by decide +kernel
theorem dX11_passesOf_10 : decode cX11_passesOf 10 = .ok (.imul, 1) := by decide +kernel
theorem dX11_passesOf_11 : decode cX11_passesOf 11 = .ok (.iconst 2, 1) := by decide +kernel
theorem dX11_passesOf_12 : decode cX11_passesOf 12 = .ok (.isub, 1) := by decide +kernel
theorem dX11_passesOf_13 : decode cX11_passesOf 13 = .ok (.ireturn, 1) := by decide +kernel
theorem dX11_bitsOf_0 : decode cX11_bitsOf 0 = .ok (.bipush 32, 2) := by decide +kernel
theorem dX11_bitsOf_2 : decode cX11_bitsOf 2 = .ok (.iload_n 0, 1) := by decide +kernel
theorem dX11_bitsOf_3 : decode cX11_bitsOf 3 = .ok (.invokestatic 125, 3) := by decide +kernel
theorem dX11_bitsOf_6 : decode cX11_bitsOf 6 = .ok (.isub, 1) := by decide +kernel
theorem dX11_bitsOf_7 : decode cX11_bitsOf 7 = .ok (.ireturn, 1) := by decide +kernel
theorem dJ6_numberOfLeadingZeros_0f7a4_0 : decode cJ6_numberOfLeadingZeros_0f7a4 0 = .ok (.iload_n 0, 1) := by decide +kernel
theorem dJ6_numberOfLeadingZeros_0f7a4_1 : decode cJ6_numberOfLeadingZeros_0f7a4 1 = .ok (.ifCond .gt 14, 3) := by decide +kernel
theorem dJ6_numberOfLeadingZeros_0f7a4_4 : decode cJ6_numberOfLeadingZeros_0f7a4 4 = .ok (.iload_n 0, 1) := by decide +kernel
theorem dJ6_numberOfLeadingZeros_0f7a4_5 : decode cJ6_numberOfLeadingZeros_0f7a4 5 = .ok (.ifCond .ne 8, 3) := by decide +kernel
theorem dJ6_numberOfLeadingZeros_0f7a4_8 : decode cJ6_numberOfLeadingZeros_0f7a4 8 = .ok (.bipush 32, 2) := by decide +kernel
theorem dJ6_numberOfLeadingZeros_0f7a4_10 : decode cJ6_numberOfLeadingZeros_0f7a4 10 = .ok (.goto 4, 3) := by decide +kernel
theorem dJ6_numberOfLeadingZeros_0f7a4_13 : decode cJ6_numberOfLeadingZeros_0f7a4 13 = .ok (.iconst 0, 1) := by decide +kernel
theorem dJ6_numberOfLeadingZeros_0f7a4_14 : decode cJ6_numberOfLeadingZeros_0f7a4 14 = .ok (.ireturn, 1) := by decide +kernel
theorem dJ6_numberOfLeadingZeros_0f7a4_15 : decode cJ6_numberOfLeadingZeros_0f7a4 15 = .ok (.bipush 31, 2) := by decide +kernel
theorem dJ6_numberOfLeadingZeros_0f7a4_17 : decode cJ6_numberOfLeadingZeros_0f7a4 17 = .ok (.istore_n 1, 1) := by decide +kernel
theorem dJ6_numberOfLeadingZeros_0f7a4_18 : decode cJ6_numberOfLeadingZeros_0f7a4 18 = .ok (.iload_n 0, 1) := by decide +kernel
theorem dJ6_numberOfLeadingZeros_0f7a4_19 : decode cJ6_numberOfLeadingZeros_0f7a4 19 = .ok (.ldc_w 264, 3) := by decide +kernel
theorem dJ6_numberOfLeadingZeros_0f7a4_22 : decode cJ6_numberOfLeadingZeros_0f7a4 22 = .ok (.if_icmp .lt 11, 3) := by decide +kernel
theorem dJ6_numberOfLeadingZeros_0f7a4_25 : decode cJ6_numberOfLeadingZeros_0f7a4 25 = .ok (.iinc 1 (-16), 3) := by decide +kernel
theorem dJ6_numberOfLeadingZeros_0f7a4_28 : decode cJ6_numberOfLeadingZeros_0f7a4 28 = .ok (.iload_n 0, 1) := by decide +kernel
theorem dJ6_numberOfLeadingZeros_0f7a4_29 : decode cJ6_numberOfLeadingZeros_0f7a4 29 = .ok (.bipush 16, 2) := by decide +kernel
theorem dJ6_numberOfLeadingZeros_0f7a4_31 : decode cJ6_numberOfLeadingZeros_0f7a4 31 = .ok (.iushr, 1) := by decide +kernel
theorem dJ6_numberOfLeadingZeros_0f7a4_32 : decode cJ6_numberOfLeadingZeros_0f7a4 32 = .ok (.istore_n 0, 1) := by decide +kernel
theorem dJ6_numberOfLeadingZeros_0f7a4_33 : decode cJ6_numberOfLeadingZeros_0f7a4 33 = .ok (.iload_n 0, 1) := by decide +kernel
theorem dJ6_numberOfLeadingZeros_0f7a4_34 : decode cJ6_numberOfLeadingZeros_0f7a4 34 = .ok (.sipush 256, 3) := by decide +kernel
theorem dJ6_numberOfLeadingZeros_0f7a4_37 : decode cJ6_numberOfLeadingZeros_0f7a4 37 = .ok (.if_icmp .lt 11, 3) := by decide +kernel
theorem dJ6_numberOfLeadingZeros_0f7a4_40 : decode cJ6_numberOfLeadingZeros_0f7a4 40 = .ok (.iinc 1 (-8), 3) := by decide +kernel
theorem dJ6_numberOfLeadingZeros_0f7a4_43 : decode cJ6_numberOfLeadingZeros_0f7a4 43 = .ok (.iload_n 0, 1) := by decide +kernel
theorem dJ6_numberOfLeadingZeros_0f7a4_44 : decode cJ6_numberOfLeadingZeros_0f7a4 44 = .ok (.bipush 8, 2) := by decide +kernel
theorem dJ6_numberOfLeadingZeros_0f7a4_46 : decode cJ6_numberOfLeadingZeros_0f7a4 46 = .ok (.iushr, 1) := by decide +kernel
theorem dJ6_numberOfLeadingZeros_0f7a4_47 : decode cJ6_numberOfLeadingZeros_0f7a4 47 = .ok (.istore_n 0, 1) := by decide +kernel
theorem dJ6_numberOfLeadingZeros_0f7a4_48 : decode cJ6_numberOfLeadingZeros_0f7a4 48 = .ok (.iload_n 0, 1) := by decide +kernel
theorem dJ6_numberOfLeadingZeros_0f7a4_49 : decode cJ6_numberOfLeadingZeros_0f7a4 49 = .ok (.bipush 16, 2) := by decide +kernel
theorem dJ6_numberOfLeadingZeros_0f7a4_51 : decode cJ6_numberOfLeadingZeros_0f7a4 51 = .ok (.if_icmp .lt 10, 3) := by decide +kernel
theorem dJ6_numberOfLeadingZeros_0f7a4_54 : decode cJ6_numberOfLeadingZeros_0f7a4 54 = .ok (.iinc 1 (-4), 3) := by decide +kernel
theorem dJ6_numberOfLeadingZeros_0f7a4_57 : decode cJ6_numberOfLeadingZeros_0f7a4 57 = .ok (.iload_n 0, 1) := by decide +kernel
theorem dJ6_numberOfLeadingZeros_0f7a4_58 : decode cJ6_numberOfLeadingZeros_0f7a4 58 = .ok (.iconst 4, 1) := by decide +kernel
theorem dJ6_numberOfLeadingZeros_0f7a4_59 : decode cJ6_numberOfLeadingZeros_0f7a4 59 = .ok (.iushr, 1) := by decide +kernel
theorem dJ6_numberOfLeadingZeros_0f7a4_60 : decode cJ6_numberOfLeadingZeros_0f7a4 60 = .ok (.istore_n 0, 1) := by decide +kernel
theorem dJ6_numberOfLeadingZeros_0f7a4_61 : decode cJ6_numberOfLeadingZeros_0f7a4 61 = .ok (.iload_n 0, 1) := by decide +kernel
theorem dJ6_numberOfLeadingZeros_0f7a4_62 : decode cJ6_numberOfLeadingZeros_0f7a4 62 = .ok (.iconst 4, 1) := by decide +kernel
theorem dJ6_numberOfLeadingZeros_0f7a4_63 : decode cJ6_numberOfLeadingZeros_0f7a4 63 = .ok (.if_icmp .lt 10, 3) := by decide +kernel
theorem dJ6_numberOfLeadingZeros_0f7a4_66 : decode cJ6_numberOfLeadingZeros_0f7a4 66 = .ok (.iinc 1 (-2), 3) := by decide +kernel
theorem dJ6_numberOfLeadingZeros_0f7a4_69 : decode cJ6_numberOfLeadingZeros_0f7a4 69 = .ok (.iload_n 0, 1) := by decide +kernel
theorem dJ6_numberOfLeadingZeros_0f7a4_70 : decode cJ6_numberOfLeadingZeros_0f7a4 70 = .ok (.iconst 2, 1) := by decide +kernel
theorem dJ6_numberOfLeadingZeros_0f7a4_71 : decode cJ6_numberOfLeadingZeros_0f7a4 71 = .ok (.iushr, 1) := by decide +kernel
theorem dJ6_numberOfLeadingZeros_0f7a4_72 : decode cJ6_numberOfLeadingZeros_0f7a4 72 = .ok (.istore_n 0, 1) := by decide +kernel
theorem dJ6_numberOfLeadingZeros_0f7a4_73 : decode cJ6_numberOfLeadingZeros_0f7a4 73 = .ok (.iload_n 1, 1) := by decide +kernel
theorem dJ6_numberOfLeadingZeros_0f7a4_74 : decode cJ6_numberOfLeadingZeros_0f7a4 74 = .ok (.iload_n 0, 1) := by decide +kernel
theorem dJ6_numberOfLeadingZeros_0f7a4_75 : decode cJ6_numberOfLeadingZeros_0f7a4 75 = .ok (.iconst 1, 1) := by decide +kernel
theorem dJ6_numberOfLeadingZeros_0f7a4_76 : decode cJ6_numberOfLeadingZeros_0f7a4 76 = .ok (.iushr, 1) := by decide +kernel
theorem dJ6_numberOfLeadingZeros_0f7a4_77 : decode cJ6_numberOfLeadingZeros_0f7a4 77 = .ok (.isub, 1) := by decide +kernel
theorem dJ6_numberOfLeadingZeros_0f7a4_78 : decode cJ6_numberOfLeadingZeros_0f7a4 78 = .ok (.ireturn, 1) := by decide +kernel
theorem dJ9_abs_0f7a4_0 : decode cJ9_abs_0f7a4 0 = .ok (.iload_n 0, 1) := by decide +kernel
theorem dJ9_abs_0f7a4_1 : decode cJ9_abs_0f7a4 1 = .ok (.ifCond .ge 8, 3) := by decide +kernel
theorem dJ9_abs_0f7a4_4 : decode cJ9_abs_0f7a4 4 = .ok (.iload_n 0, 1) := by decide +kernel
theorem dJ9_abs_0f7a4_5 : decode cJ9_abs_0f7a4 5 = .ok (.ineg, 1) := by decide +kernel
theorem dJ9_abs_0f7a4_6 : decode cJ9_abs_0f7a4 6 = .ok (.goto 4, 3) := by decide +kernel
theorem dJ9_abs_0f7a4_9 : decode cJ9_abs_0f7a4 9 = .ok (.iload_n 0, 1) := by decide +kernel
theorem dJ9_abs_0f7a4_10 : decode cJ9_abs_0f7a4 10 = .ok (.ireturn, 1) := by decide +kernel
theorem dJ9_max_7cf53_0 : decode cJ9_max_7cf53 0 = .ok (.iload_n 0, 1) := by decide +kernel
theorem dJ9_max_7cf53_1 : decode cJ9_max_7cf53 1 = .ok (.iload_n 1, 1) := by decide +kernel
theorem dJ9_max_7cf53_2 : decode cJ9_max_7cf53 2 = .ok (.if_icmp .lt 7, 3) := by decide +kernel
theorem dJ9_max_7cf53_5 : decode cJ9_max_7cf53 5 = .ok (.iload_n 0, 1) := by decide +kernel
theorem dJ9_max_7cf53_6 : decode cJ9_max_7cf53 6 = .ok (.goto 4, 3) := by decide +kernel
theorem dJ9_max_7cf53_9 : decode cJ9_max_7cf53 9 = .ok (.iload_n 1, 1) := by decide +kernel
theorem dJ9_max_7cf53_10 : decode cJ9_max_7cf53 10 = .ok (.ireturn, 1) := by decide +kernel
theorem dJ9_min_7cf53_0 : decode cJ9_min_7cf53 0 = .ok (.iload_n 0, 1) := by decide +kernel
theorem dJ9_min_7cf53_1 : decode cJ9_min_7cf53 1 = .ok (.iload_n 1, 1) := by decide +kernel
theorem dJ9_min_7cf53_2 : decode cJ9_min_7cf53 2 = .ok (.if_icmp .gt 7, 3) := by decide +kernel
theorem dJ9_min_7cf53_5 : decode cJ9_min_7cf53 5 = .ok (.iload_n 0, 1) := by decide +kernel
theorem dJ9_min_7cf53_6 : decode cJ9_min_7cf53 6 = .ok (.goto 4, 3) := by decide +kernel
theorem dJ9_min_7cf53_9 : decode cJ9_min_7cf53 9 = .ok (.iload_n 1, 1) := by decide +kernel
theorem dJ9_min_7cf53_10 : decode cJ9_min_7cf53 10 = .ok (.ireturn, 1) := by decide +kernel
theorem dJ9_min_f86c9_0 : decode cJ9_min_f86c9 0 = .ok (.lload_n 0, 1) := by decide +kernel
theorem dJ9_min_f86c9_1 : decode cJ9_min_f86c9 1 = .ok (.lload_n 2, 1) := by decide +kernel
theorem dJ9_min_f86c9_2 : decode cJ9_min_f86c9 2 = .ok (.lcmp, 1) := by decide +kernel
theorem dJ9_min_f86c9_3 : decode cJ9_min_f86c9 3 = .ok (.ifCond .gt 7, 3) := by decide +kernel
theorem dJ9_min_f86c9_6 : decode cJ9_min_f86c9 6 = .ok (.lload_n 0, 1) := by decide +kernel
theorem dJ9_min_f86c9_7 : decode cJ9_min_f86c9 7 = .ok (.goto 4, 3) := by decide +kernel
theorem dJ9_min_f86c9_10 : decode cJ9_min_f86c9 10 = .ok (.lload_n 2, 1) := by decide +kernel
theorem dJ9_min_f86c9_11 : decode cJ9_min_f86c9 11 = .ok (.lreturn, 1) := by decide +kernel
theorem dJ7_fill_53178_0 : decode cJ7_fill_53178 0 = .ok (.iconst 0, 1) := by decide +kernel
theorem dJ7_fill_53178_1 : decode cJ7_fill_53178 1 = .ok (.istore_n 2, 1) := by decide +kernel
theorem dJ7_fill_53178_2 : decode cJ7_fill_53178 2 = .ok (.aload_n 0, 1) := by decide +kernel
theorem dJ7_fill_53178_3 : decode cJ7_fill_53178 3 = .ok (.arraylength, 1) := by decide +kernel
theorem dJ7_fill_53178_4 : decode cJ7_fill_53178 4 = .ok (.istore_n 3, 1) := by decide +kernel
theorem dJ7_fill_53178_5 : decode cJ7_fill_53178 5 = .ok (.iload_n 2, 1) := by decide +kernel
theorem dJ7_fill_53178_6 : decode cJ7_fill_53178 6 = .ok (.iload_n 3, 1) := by decide +kernel
theorem dJ7_fill_53178_7 : decode cJ7_fill_53178 7 = .ok (.if_icmp .ge 13, 3) := by decide +kernel
theorem dJ7_fill_53178_10 : decode cJ7_fill_53178 10 = .ok (.aload_n 0, 1) := by decide +kernel
theorem dJ7_fill_53178_11 : decode cJ7_fill_53178 11 = .ok (.iload_n 2, 1) := by decide +kernel
theorem dJ7_fill_53178_12 : decode cJ7_fill_53178 12 = .ok (.iload_n 1, 1) := by decide +kernel
theorem dJ7_fill_53178_13 : decode cJ7_fill_53178 13 = .ok (.iastore, 1) := by decide +kernel
theorem dJ7_fill_53178_14 : decode cJ7_fill_53178 14 = .ok (.iinc 2 1, 3) := by decide +kernel
theorem dJ7_fill_53178_17 : decode cJ7_fill_53178 17 = .ok (.goto (-12), 3) := by decide +kernel
theorem dJ7_fill_53178_20 : decode cJ7_fill_53178 20 = .ok (.return_, 1) := by decide +kernel

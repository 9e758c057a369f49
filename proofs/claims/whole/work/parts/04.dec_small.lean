theorem dX0_init_0 : decode cX0_init 0 = .ok (.aload_n 0, 1) := by decide +kernel
theorem dX0_init_1 : decode cX0_init 1 = .ok (.invokespecial 3, 3) := by decide +kernel
theorem dX0_init_4 : decode cX0_init 4 = .ok (.aload_n 0, 1) := by decide +kernel
theorem dX0_init_5 : decode cX0_init 5 = .ok (.bipush 25, 2) := by decide +kernel
theorem dX0_init_7 : decode cX0_init 7 = .ok (.newarray .long, 2) := by decide +kernel
theorem dX0_init_9 : decode cX0_init 9 = .ok (.putfield 9, 3) := by decide +kernel
theorem dX0_init_12 : decode cX0_init 12 = .ok (.aload_n 0, 1) := by decide +kernel
theorem dX0_init_13 : decode cX0_init 13 = .ok (.bipush 25, 2) := by decide +kernel
theorem dX0_init_15 : decode cX0_init 15 = .ok (.newarray .int, 2) := by decide +kernel
theorem dX0_init_17 : decode cX0_init 17 = .ok (.putfield 15, 3) := by decide +kernel
theorem dX0_init_20 : decode cX0_init 20 = .ok (.aload_n 0, 1) := by decide +kernel
theorem dX0_init_21 : decode cX0_init 21 = .ok (.iconst 2, 1) := by decide +kernel
theorem dX0_init_22 : decode cX0_init 22 = .ok (.bipush 60, 2) := by decide +kernel
theorem dX0_init_24 : decode cX0_init 24 = .ok (.multianewarray 19 2, 4) := by decide +kernel
theorem dX0_init_28 : decode cX0_init 28 = .ok (.putfield 21, 3) := by decide +kernel
theorem dX0_init_31 : decode cX0_init 31 = .ok (.aload_n 0, 1) := by decide +kernel
theorem dX0_init_32 : decode cX0_init 32 = .ok (.iconst 2, 1) := by decide +kernel
theorem dX0_init_33 : decode cX0_init 33 = .ok (.newarray .int, 2) := by decide +kernel
theorem dX0_init_35 : decode cX0_init 35 = .ok (.putfield 24, 3) := by decide +kernel
theorem dX0_init_38 : decode cX0_init 38 = .ok (.aload_n 0, 1) := by decide +kernel
theorem dX0_init_39 : decode cX0_init 39 = .ok (.bipush 61, 2) := by decide +kernel
theorem dX0_init_41 : decode cX0_init 41 = .ok (.newarray .int, 2) := by decide +kernel
theorem dX0_init_43 : decode cX0_init 43 = .ok (.putfield 27, 3) := by decide +kernel
theorem dX0_init_46 : decode cX0_init 46 = .ok (.aload_n 0, 1) := by decide +kernel
theorem dX0_init_47 : decode cX0_init 47 = .ok (.bipush 24, 2) := by decide +kernel
theorem dX0_init_49 : decode cX0_init 49 = .ok (.newarray .int, 2) := by decide +kernel
theorem dX0_init_51 : decode cX0_init 51 = .ok (.putfield 30, 3) := by decide +kernel
theorem dX0_init_54 : decode cX0_init 54 = .ok (.aload_n 0, 1) := by decide +kernel
theorem dX0_init_55 : decode cX0_init 55 = .ok (.ldc 33, 2) := by decide +kernel
theorem dX0_init_57 : decode cX0_init 57 = .ok (.putfield 34, 3) := by decide +kernel
theorem dX0_init_60 : decode cX0_init 60 = .ok (.return_, 1) := by decide +kernel
theorem dX0_take_0 : decode cX0_take 0 = .ok (.iload 4, 2) := by decide +kernel
theorem dX0_take_2 : decode cX0_take 2 = .ok (.bipush 60, 2) := by decide +kernel
theorem dX0_take_4 : decode cX0_take 4 = .ok (.invokestatic 38, 3) := by decide +kernel
theorem dX0_take_7 : decode cX0_take 7 = .ok (.istore 5, 2) := by decide +kernel
theorem dX0_take_9 : decode cX0_take 9 = .ok (.iconst 0, 1) := by decide +kernel
theorem dX0_take_10 : decode cX0_take 10 = .ok (.istore 6, 2) := by decide +kernel
theorem dX0_take_12 : decode cX0_take 12 = .ok (.iload 6, 2) := by decide +kernel
theorem dX0_take_14 : decode cX0_take 14 = .ok (.iload 5, 2) := by decide +kernel
theorem dX0_take_16 : decode cX0_take 16 = .ok (.if_icmp .ge 33, 3) := by decide +kernel
theorem dX0_take_19 : decode cX0_take 19 = .ok (.iload_n 3, 1) := by decide +kernel
theorem dX0_take_20 : decode cX0_take 20 = .ok (.iload 6, 2) := by decide +kernel
theorem dX0_take_22 : decode cX0_take 22 = .ok (.iadd, 1) := by decide +kernel
theorem dX0_take_23 : decode cX0_take 23 = .ok (.aload_n 2, 1) := by decide +kernel
theorem dX0_take_24 : decode cX0_take 24 = .ok (.arraylength, 1) := by decide +kernel
theorem dX0_take_25 : decode cX0_take 25 = .ok (.if_icmp .ge 24, 3) := by decide +kernel
theorem dX0_take_28 : decode cX0_take 28 = .ok (.aload_n 0, 1) := by decide +kernel
theorem dX0_take_29 : decode cX0_take 29 = .ok (.getfield 21, 3) := by decide +kernel
theorem dX0_take_32 : decode cX0_take 32 = .ok (.iload_n 1, 1) := by decide +kernel
theorem dX0_take_33 : decode cX0_take 33 = .ok (.aaload, 1) := by decide +kernel
theorem dX0_take_34 : decode cX0_take 34 = .ok (.iload 6, 2) := by decide +kernel
theorem dX0_take_36 : decode cX0_take 36 = .ok (.aload_n 2, 1) := by decide +kernel
theorem dX0_take_37 : decode cX0_take 37 = .ok (.iload_n 3, 1) := by decide +kernel
theorem dX0_take_38 : decode cX0_take 38 = .ok (.iload 6, 2) := by decide +kernel
theorem dX0_take_40 : decode cX0_take 40 = .ok (.iadd, 1) := by decide +kernel
theorem dX0_take_41 : decode cX0_take 41 = .ok (.iaload, 1) := by decide +kernel
theorem dX0_take_42 : decode cX0_take 42 = .ok (.iastore, 1) := by decide +kernel
theorem dX0_take_43 : decode cX0_take 43 = .ok (.iinc 6 1, 3) := by decide +kernel
theorem dX0_take_46 : decode cX0_take 46 = .ok (.goto (-34), 3) := by decide +kernel
theorem dX0_take_49 : decode cX0_take 49 = .ok (.aload_n 0, 1) := by decide +kernel
theorem dX0_take_50 : decode cX0_take 50 = .ok (.getfield 24, 3) := by decide +kernel
theorem dX0_take_53 : decode cX0_take 53 = .ok (.iload_n 1, 1) := by decide +kernel
theorem dX0_take_54 : decode cX0_take 54 = .ok (.iload 5, 2) := by decide +kernel
theorem dX0_take_56 : decode cX0_take 56 = .ok (.iastore, 1) := by decide +kernel
theorem dX0_take_57 : decode cX0_take 57 = .ok (.return_, 1) := by decide +kernel
theorem dX0_farness_0 : decode cX0_farness 0 = .ok (.aload_n 0, 1) := by decide +kernel
theorem dX0_farness_1 : decode cX0_farness 1 = .ok (.iconst 0, 1) := by decide +kernel
theorem dX0_farness_2 : decode cX0_farness 2 = .ok (.aload_n 1, 1) := by decide +kernel
theorem dX0_farness_3 : decode cX0_farness 3 = .ok (.getfield 44, 3) := by decide +kernel
theorem dX0_farness_6 : decode cX0_farness 6 = .ok (.iload_n 2, 1) := by decide +kernel
theorem dX0_farness_7 : decode cX0_farness 7 = .ok (.iconst 4, 1) := by decide +kernel
theorem dX0_farness_8 : decode cX0_farness 8 = .ok (.imul, 1) := by decide +kernel
theorem dX0_farness_9 : decode cX0_farness 9 = .ok (.aload_n 1, 1) := by decide +kernel
theorem dX0_farness_10 : decode cX0_farness 10 = .ok (.getfield 49, 3) := by decide +kernel
theorem dX0_farness_13 : decode cX0_farness 13 = .ok (.iload_n 2, 1) := by decide +kernel
theorem dX0_farness_14 : decode cX0_farness 14 = .ok (.iaload, 1) := by decide +kernel
theorem dX0_farness_15 : decode cX0_farness 15 = .ok (.invokevirtual 52, 3) := by decide +kernel
theorem dX0_farness_18 : decode cX0_farness 18 = .ok (.aload_n 0, 1) := by decide +kernel
theorem dX0_farness_19 : decode cX0_farness 19 = .ok (.iconst 1, 1) := by decide +kernel
theorem dX0_farness_20 : decode cX0_farness 20 = .ok (.aload_n 1, 1) := by decide +kernel
theorem dX0_farness_21 : decode cX0_farness 21 = .ok (.getfield 44, 3) := by decide +kernel
theorem dX0_farness_24 : decode cX0_farness 24 = .ok (.iload_n 3, 1) := by decide +kernel
theorem dX0_farness_25 : decode cX0_farness 25 = .ok (.iconst 4, 1) := by decide +kernel
theorem dX0_farness_26 : decode cX0_farness 26 = .ok (.imul, 1) := by decide +kernel
theorem dX0_farness_27 : decode cX0_farness 27 = .ok (.aload_n 1, 1) := by decide +kernel
theorem dX0_farness_28 : decode cX0_farness 28 = .ok (.getfield 49, 3) := by decide +kernel
theorem dX0_farness_31 : decode cX0_farness 31 = .ok (.iload_n 3, 1) := by decide +kernel
theorem dX0_farness_32 : decode cX0_farness 32 = .ok (.iaload, 1) := by decide +kernel
theorem dX0_farness_33 : decode cX0_farness 33 = .ok (.invokevirtual 52, 3) := by decide +kernel
theorem dX0_farness_36 : decode cX0_farness 36 = .ok (.aload_n 0, 1) := by decide +kernel
theorem dX0_farness_37 : decode cX0_farness 37 = .ok (.invokevirtual 56, 3) := by decide +kernel
theorem dX0_farness_40 : decode cX0_farness 40 = .ok (.ireturn, 1) := by decide +kernel
theorem dX0_fewestChanges_0 : decode cX0_fewestChanges 0 = .ok (.iconst 0, 1) := by decide +kernel
theorem dX0_fewestChanges_1 : decode cX0_fewestChanges 1 = .ok (.istore_n 1, 1) := by decide +kernel
theorem dX0_fewestChanges_2 : decode cX0_fewestChanges 2 = .ok (.iload_n 1, 1) := by decide +kernel
theorem dX0_fewestChanges_3 : decode cX0_fewestChanges 3 = .ok (.aload_n 0, 1) := by decide +kernel
theorem dX0_fewestChanges_4 : decode cX0_fewestChanges 4 = .ok (.getfield 24, 3) := by decide +kernel
theorem dX0_fewestChanges_7 : decode cX0_fewestChanges 7 = .ok (.iconst 1, 1) := by decide +kernel
theorem dX0_fewestChanges_8 : decode cX0_fewestChanges 8 = .ok (.iaload, 1) := by decide +kernel
theorem dX0_fewestChanges_9 : decode cX0_fewestChanges 9 = .ok (.if_icmp .gt 16, 3) := by decide +kernel
theorem dX0_fewestChanges_12 : decode cX0_fewestChanges 12 = .ok (.aload_n 0, 1) := by decide +kernel
theorem dX0_fewestChanges_13 : decode cX0_fewestChanges 13 = .ok (.getfield 27, 3) := by decide +kernel
theorem dX0_fewestChanges_16 : decode cX0_fewestChanges 16 = .ok (.iload_n 1, 1) := by decide +kernel
theorem dX0_fewestChanges_17 : decode cX0_fewestChanges 17 = .ok (.iload_n 1, 1) := by decide +kernel
theorem dX0_fewestChanges_18 : decode cX0_fewestChanges 18 = .ok (.iastore, 1) := by decide +kernel
theorem dX0_fewestChanges_19 : decode cX0_fewestChanges 19 = .ok (.iinc 1 1, 3) := by decide +kernel
theorem dX0_fewestChanges_22 : decode cX0_fewestChanges 22 = .ok (.goto (-20), 3) := by decide +kernel
theorem dX0_fewestChanges_25 : decode cX0_fewestChanges 25 = .ok (.iconst 1, 1) := by decide +kernel
theorem dX0_fewestChanges_26 : decode cX0_fewestChanges 26 = .ok (.istore_n 1, 1) := by decide +kernel
theorem dX0_fewestChanges_27 : decode cX0_fewestChanges 27 = .ok (.iload_n 1, 1) := by decide +kernel
theorem dX0_fewestChanges_28 : decode cX0_fewestChanges 28 = .ok (.aload_n 0, 1) := by decide +kernel
theorem dX0_fewestChanges_29 : decode cX0_fewestChanges 29 = .ok (.getfield 24, 3) := by decide +kernel
theorem dX0_fewestChanges_32 : decode cX0_fewestChanges 32 = .ok (.iconst 0, 1) := by decide +kernel
theorem dX0_fewestChanges_33 : decode cX0_fewestChanges 33 = .ok (.iaload, 1) := by decide +kernel
theorem dX0_fewestChanges_34 : decode cX0_fewestChanges 34 = .ok (.if_icmp .gt 110, 3) := by decide +kernel
theorem dX0_fewestChanges_37 : decode cX0_fewestChanges 37 = .ok (.aload_n 0, 1) := by decide +kernel
theorem dX0_fewestChanges_38 : decode cX0_fewestChanges 38 = .ok (.getfield 27, 3) := by decide +kernel
theorem dX0_fewestChanges_41 : decode cX0_fewestChanges 41 = .ok (.iconst 0, 1) := by decide +kernel
theorem dX0_fewestChanges_42 : decode cX0_fewestChanges 42 = .ok (.iaload, 1) := by decide +kernel
theorem dX0_fewestChanges_43 : decode cX0_fewestChanges 43 = .ok (.istore_n 2, 1) := by decide +kernel
theorem dX0_fewestChanges_44 : decode cX0_fewestChanges 44 = .ok (.aload_n 0, 1) := by decide +kernel
theorem dX0_fewestChanges_45 : decode cX0_fewestChanges 45 = .ok (.getfield 27, 3) := by decide +kernel
theorem dX0_fewestChanges_48 : decode cX0_fewestChanges 48 = .ok (.iconst 0, 1) := by decide +kernel
theorem dX0_fewestChanges_49 : decode cX0_fewestChanges 49 = .ok (.iload_n 1, 1) := by decide +kernel
theorem dX0_fewestChanges_50 : decode cX0_fewestChanges 50 = .ok (.iastore, 1) := by decide +kernel
theorem dX0_fewestChanges_51 : decode cX0_fewestChanges 51 = .ok (.iconst 1, 1) := by decide +kernel
theorem dX0_fewestChanges_52 : decode cX0_fewestChanges 52 = .ok (.istore_n 3, 1) := by decide +kernel
theorem dX0_fewestChanges_53 : decode cX0_fewestChanges 53 = .ok (.iload_n 3, 1) := by decide +kernel
theorem dX0_fewestChanges_54 : decode cX0_fewestChanges 54 = .ok (.aload_n 0, 1) := by decide +kernel
theorem dX0_fewestChanges_55 : decode cX0_fewestChanges 55 = .ok (.getfield 24, 3) := by decide +kernel
theorem dX0_fewestChanges_58 : decode cX0_fewestChanges 58 = .ok (.iconst 1, 1) := by decide +kernel
theorem dX0_fewestChanges_59 : decode cX0_fewestChanges 59 = .ok (.iaload, 1) := by decide +kernel
theorem dX0_fewestChanges_60 : decode cX0_fewestChanges 60 = .ok (.if_icmp .gt 78, 3) := by decide +kernel
theorem dX0_fewestChanges_63 : decode cX0_fewestChanges 63 = .ok (.iload_n 2, 1) := by decide +kernel
theorem dX0_fewestChanges_64 : decode cX0_fewestChanges 64 = .ok (.aload_n 0, 1) := by decide +kernel
theorem dX0_fewestChanges_65 : decode cX0_fewestChanges 65 = .ok (.getfield 21, 3) := by decide +kernel
theorem dX0_fewestChanges_68 : decode cX0_fewestChanges 68 = .ok (.iconst 0, 1) := by decide +kernel
theorem dX0_fewestChanges_69 : decode cX0_fewestChanges 69 = .ok (.aaload, 1) := by decide +kernel
theorem dX0_fewestChanges_70 : decode cX0_fewestChanges 70 = .ok (.iload_n 1, 1) := by decide +kernel
theorem dX0_fewestChanges_71 : decode cX0_fewestChanges 71 = .ok (.iconst 1, 1) := by decide +kernel
theorem dX0_fewestChanges_72 : decode cX0_fewestChanges 72 = .ok (.isub, 1) := by decide +kernel
theorem dX0_fewestChanges_73 : decode cX0_fewestChanges 73 = .ok (.iaload, 1) := by decide +kernel
theorem dX0_fewestChanges_74 : decode cX0_fewestChanges 74 = .ok (.aload_n 0, 1) := by decide +kernel
theorem dX0_fewestChanges_75 : decode cX0_fewestChanges 75 = .ok (.getfield 21, 3) := by decide +kernel
theorem dX0_fewestChanges_78 : decode cX0_fewestChanges 78 = .ok (.iconst 1, 1) := by decide +kernel
theorem dX0_fewestChanges_79 : decode cX0_fewestChanges 79 = .ok (.aaload, 1) := by decide +kernel
theorem dX0_fewestChanges_80 : decode cX0_fewestChanges 80 = .ok (.iload_n 3, 1) := by decide +kernel
theorem dX0_fewestChanges_81 : decode cX0_fewestChanges 81 = .ok (.iconst 1, 1) := by decide +kernel
theorem dX0_fewestChanges_82 : decode cX0_fewestChanges 82 = .ok (.isub, 1) := by decide +kernel
theorem dX0_fewestChanges_83 : decode cX0_fewestChanges 83 = .ok (.iaload, 1) := by decide +kernel
theorem dX0_fewestChanges_84 : decode cX0_fewestChanges 84 = .ok (.if_icmp .ne 7, 3) := by decide +kernel
theorem dX0_fewestChanges_87 : decode cX0_fewestChanges 87 = .ok (.iconst 0, 1) := by decide +kernel
theorem dX0_fewestChanges_88 : decode cX0_fewestChanges 88 = .ok (.goto 4, 3) := by decide +kernel
theorem dX0_fewestChanges_91 : decode cX0_fewestChanges 91 = .ok (.iconst 1, 1) := by decide +kernel
theorem dX0_fewestChanges_92 : decode cX0_fewestChanges 92 = .ok (.iadd, 1) := by decide +kernel
theorem dX0_fewestChanges_93 : decode cX0_fewestChanges 93 = .ok (.istore 4, 2) := by decide +kernel
theorem dX0_fewestChanges_95 : decode cX0_fewestChanges 95 = .ok (.aload_n 0, 1) := by decide +kernel
theorem dX0_fewestChanges_96 : decode cX0_fewestChanges 96 = .ok (.getfield 27, 3) := by decide +kernel
theorem dX0_fewestChanges_99 : decode cX0_fewestChanges 99 = .ok (.iload_n 3, 1) := by decide +kernel
theorem dX0_fewestChanges_100 : decode cX0_fewestChanges 100 = .ok (.iaload, 1) := by decide +kernel
theorem dX0_fewestChanges_101 : decode cX0_fewestChanges 101 = .ok (.istore_n 2, 1) := by decide +kernel
theorem dX0_fewestChanges_102 : decode cX0_fewestChanges 102 = .ok (.aload_n 0, 1) := by decide +kernel
theorem dX0_fewestChanges_103 : decode cX0_fewestChanges 103 = .ok (.getfield 27, 3) := by decide +kernel
theorem dX0_fewestChanges_106 : decode cX0_fewestChanges 106 = .ok (.iload_n 3, 1) := by decide +kernel
theorem dX0_fewestChanges_107 : decode cX0_fewestChanges 107 = .ok (.iload 4, 2) := by decide +kernel
theorem dX0_fewestChanges_109 : decode cX0_fewestChanges 109 = .ok (.iconst 1, 1) := by decide +kernel
theorem dX0_fewestChanges_110 : decode cX0_fewestChanges 110 = .ok (.aload_n 0, 1) := by decide +kernel
theorem dX0_fewestChanges_111 : decode cX0_fewestChanges 111 = .ok (.getfield 27, 3) := by decide +kernel
theorem dX0_fewestChanges_114 : decode cX0_fewestChanges 114 = .ok (.iload_n 3, 1) := by decide +kernel
theorem dX0_fewestChanges_115 : decode cX0_fewestChanges 115 = .ok (.iaload, 1) := by decide +kernel
theorem dX0_fewestChanges_116 : decode cX0_fewestChanges 116 = .ok (.aload_n 0, 1) := by decide +kernel
theorem dX0_fewestChanges_117 : decode cX0_fewestChanges 117 = .ok (.getfield 27, 3) := by decide +kernel
theorem dX0_fewestChanges_120 : decode cX0_fewestChanges 120 = .ok (.iload_n 3, 1) := by decide +kernel
theorem dX0_fewestChanges_121 : decode cX0_fewestChanges 121 = .ok (.iconst 1, 1) := by decide +kernel
theorem dX0_fewestChanges_122 : decode cX0_fewestChanges 122 = .ok (.isub, 1) := by decide +kernel
theorem dX0_fewestChanges_123 : decode cX0_fewestChanges 123 = .ok (.iaload, 1) := by decide +kernel
theorem dX0_fewestChanges_124 : decode cX0_fewestChanges 124 = .ok (.invokestatic 38, 3) := by decide +kernel
theorem dX0_fewestChanges_127 : decode cX0_fewestChanges 127 = .ok (.iadd, 1) := by decide +kernel
theorem dX0_fewestChanges_128 : decode cX0_fewestChanges 128 = .ok (.invokestatic 38, 3) := by decide +kernel
theorem dX0_fewestChanges_131 : decode cX0_fewestChanges 131 = .ok (.iastore, 1) := by decide +kernel
theorem dX0_fewestChanges_132 : decode cX0_fewestChanges 132 = .ok (.iinc 3 1, 3) := by decide +kernel
theorem dX0_fewestChanges_135 : decode cX0_fewestChanges 135 = .ok (.goto (-82), 3) := by decide +kernel
theorem dX0_fewestChanges_138 : decode cX0_fewestChanges 138 = .ok (.iinc 1 1, 3) := by decide +kernel
theorem dX0_fewestChanges_141 : decode cX0_fewestChanges 141 = .ok (.goto (-114), 3) := by decide +kernel
theorem dX0_fewestChanges_144 : decode cX0_fewestChanges 144 = .ok (.aload_n 0, 1) := by decide +kernel
theorem dX0_fewestChanges_145 : decode cX0_fewestChanges 145 = .ok (.getfield 27, 3) := by decide +kernel
theorem dX0_fewestChanges_148 : decode cX0_fewestChanges 148 = .ok (.aload_n 0, 1) := by decide +kernel
theorem dX0_fewestChanges_149 : decode cX0_fewestChanges 149 = .ok (.getfield 24, 3) := by decide +kernel
theorem dX0_fewestChanges_152 : decode cX0_fewestChanges 152 = .ok (.iconst 1, 1) := by decide +kernel
theorem dX0_fewestChanges_153 : decode cX0_fewestChanges 153 = .ok (.iaload, 1) := by decide +kernel
theorem dX0_fewestChanges_154 : decode cX0_fewestChanges 154 = .ok (.iaload, 1) := by decide +kernel
theorem dX0_fewestChanges_155 : decode cX0_fewestChanges 155 = .ok (.ireturn, 1) := by decide +kernel
theorem dX0_safety_0 : decode cX0_safety 0 = .ok (.iconst (-1), 1) := by decide +kernel
theorem dX0_safety_1 : decode cX0_safety 1 = .ok (.istore_n 3, 1) := by decide +kernel
theorem dX0_safety_2 : decode cX0_safety 2 = .ok (.iconst 0, 1) := by decide +kernel
theorem dX0_safety_3 : decode cX0_safety 3 = .ok (.istore 4, 2) := by decide +kernel
theorem dX0_safety_5 : decode cX0_safety 5 = .ok (.iload 4, 2) := by decide +kernel
theorem dX0_safety_7 : decode cX0_safety 7 = .ok (.aload_n 1, 1) := by decide +kernel
theorem dX0_safety_8 : decode cX0_safety 8 = .ok (.getfield 60, 3) := by decide +kernel
theorem dX0_safety_11 : decode cX0_safety 11 = .ok (.iload_n 2, 1) := by decide +kernel
theorem dX0_safety_12 : decode cX0_safety 12 = .ok (.iaload, 1) := by decide +kernel
theorem dX0_safety_13 : decode cX0_safety 13 = .ok (.if_icmp .ge 86, 3) := by decide +kernel
theorem dX0_safety_16 : decode cX0_safety 16 = .ok (.iconst 0, 1) := by decide +kernel
theorem dX0_safety_17 : decode cX0_safety 17 = .ok (.istore 5, 2) := by decide +kernel
theorem dX0_safety_19 : decode cX0_safety 19 = .ok (.iload 5, 2) := by decide +kernel
theorem dX0_safety_21 : decode cX0_safety 21 = .ok (.iload 4, 2) := by decide +kernel
theorem dX0_safety_23 : decode cX0_safety 23 = .ok (.if_icmp .ge 70, 3) := by decide +kernel
theorem dX0_safety_26 : decode cX0_safety 26 = .ok (.iload_n 2, 1) := by decide +kernel
theorem dX0_safety_27 : decode cX0_safety 27 = .ok (.iload 4, 2) := by decide +kernel
theorem dX0_safety_29 : decode cX0_safety 29 = .ok (.invokestatic 63, 3) := by decide +kernel
theorem dX0_safety_32 : decode cX0_safety 32 = .ok (.istore 6, 2) := by decide +kernel
theorem dX0_safety_34 : decode cX0_safety 34 = .ok (.iload_n 2, 1) := by decide +kernel
theorem dX0_safety_35 : decode cX0_safety 35 = .ok (.iload 5, 2) := by decide +kernel
theorem dX0_safety_37 : decode cX0_safety 37 = .ok (.invokestatic 63, 3) := by decide +kernel
theorem dX0_safety_40 : decode cX0_safety 40 = .ok (.istore 7, 2) := by decide +kernel
theorem dX0_safety_42 : decode cX0_safety 42 = .ok (.aload_n 1, 1) := by decide +kernel
theorem dX0_safety_43 : decode cX0_safety 43 = .ok (.getfield 66, 3) := by decide +kernel
theorem dX0_safety_46 : decode cX0_safety 46 = .ok (.iload 6, 2) := by decide +kernel
theorem dX0_safety_48 : decode cX0_safety 48 = .ok (.iaload, 1) := by decide +kernel
theorem dX0_safety_49 : decode cX0_safety 49 = .ok (.aload_n 1, 1) := by decide +kernel
theorem dX0_safety_50 : decode cX0_safety 50 = .ok (.getfield 66, 3) := by decide +kernel
theorem dX0_safety_53 : decode cX0_safety 53 = .ok (.iload 7, 2) := by decide +kernel
theorem dX0_safety_55 : decode cX0_safety 55 = .ok (.iaload, 1) := by decide +kernel
theorem dX0_safety_56 : decode cX0_safety 56 = .ok (.if_icmp .eq 31, 3) := by decide +kernel
theorem dX0_safety_59 : decode cX0_safety 59 = .ok (.aload_n 0, 1) := by decide +kernel
theorem dX0_safety_60 : decode cX0_safety 60 = .ok (.aload_n 1, 1) := by decide +kernel
theorem dX0_safety_61 : decode cX0_safety 61 = .ok (.iload 6, 2) := by decide +kernel
theorem dX0_safety_63 : decode cX0_safety 63 = .ok (.iload 7, 2) := by decide +kernel
theorem dX0_safety_65 : decode cX0_safety 65 = .ok (.invokevirtual 69, 3) := by decide +kernel
theorem dX0_safety_68 : decode cX0_safety 68 = .ok (.istore 8, 2) := by decide +kernel
theorem dX0_safety_70 : decode cX0_safety 70 = .ok (.iload_n 3, 1) := by decide +kernel
theorem dX0_safety_71 : decode cX0_safety 71 = .ok (.iconst (-1), 1) := by decide +kernel
theorem dX0_safety_72 : decode cX0_safety 72 = .ok (.if_icmp .ne 8, 3) := by decide +kernel
theorem dX0_safety_75 : decode cX0_safety 75 = .ok (.iload 8, 2) := by decide +kernel
theorem dX0_safety_77 : decode cX0_safety 77 = .ok (.goto 9, 3) := by decide +kernel
theorem dX0_safety_80 : decode cX0_safety 80 = .ok (.iload_n 3, 1) := by decide +kernel
theorem dX0_safety_81 : decode cX0_safety 81 = .ok (.iload 8, 2) := by decide +kernel
theorem dX0_safety_83 : decode cX0_safety 83 = .ok (.invokestatic 38, 3) := by decide +kernel
theorem dX0_safety_86 : decode cX0_safety 86 = .ok (.istore_n 3, 1) := by decide +kernel
theorem dX0_safety_87 : decode cX0_safety 87 = .ok (.iinc 5 1, 3) := by decide +kernel
theorem dX0_safety_90 : decode cX0_safety 90 = .ok (.goto (-71), 3) := by decide +kernel
theorem dX0_safety_93 : decode cX0_safety 93 = .ok (.iinc 4 1, 3) := by decide +kernel
theorem dX0_safety_96 : decode cX0_safety 96 = .ok (.goto (-91), 3) := by decide +kernel
theorem dX0_safety_99 : decode cX0_safety 99 = .ok (.iload_n 3, 1) := by decide +kernel
theorem dX0_safety_100 : decode cX0_safety 100 = .ok (.ireturn, 1) := by decide +kernel
theorem dX0_heads_0 : decode cX0_heads 0 = .ok (.iconst 0, 1) := by decide +kernel
theorem dX0_heads_1 : decode cX0_heads 1 = .ok (.istore_n 3, 1) := by decide +kernel
theorem dX0_heads_2 : decode cX0_heads 2 = .ok (.iconst 0, 1) := by decide +kernel
theorem dX0_heads_3 : decode cX0_heads 3 = .ok (.istore 4, 2) := by decide +kernel
theorem dX0_heads_5 : decode cX0_heads 5 = .ok (.iload 4, 2) := by decide +kernel
theorem dX0_heads_7 : decode cX0_heads 7 = .ok (.aload_n 1, 1) := by decide +kernel
theorem dX0_heads_8 : decode cX0_heads 8 = .ok (.getfield 60, 3) := by decide +kernel
theorem dX0_heads_11 : decode cX0_heads 11 = .ok (.iload_n 2, 1) := by decide +kernel
theorem dX0_heads_12 : decode cX0_heads 12 = .ok (.iaload, 1) := by decide +kernel
theorem dX0_heads_13 : decode cX0_heads 13 = .ok (.if_icmp .ge 82, 3) := by decide +kernel
theorem dX0_heads_16 : decode cX0_heads 16 = .ok (.iconst 0, 1) := by decide +kernel
theorem dX0_heads_17 : decode cX0_heads 17 = .ok (.istore 5, 2) := by decide +kernel
theorem dX0_heads_19 : decode cX0_heads 19 = .ok (.iload 5, 2) := by decide +kernel
theorem dX0_heads_21 : decode cX0_heads 21 = .ok (.iload 4, 2) := by decide +kernel
theorem dX0_heads_23 : decode cX0_heads 23 = .ok (.if_icmp .ge 66, 3) := by decide +kernel
theorem dX0_heads_26 : decode cX0_heads 26 = .ok (.iload_n 2, 1) := by decide +kernel
theorem dX0_heads_27 : decode cX0_heads 27 = .ok (.iload 4, 2) := by decide +kernel
theorem dX0_heads_29 : decode cX0_heads 29 = .ok (.invokestatic 63, 3) := by decide +kernel
theorem dX0_heads_32 : decode cX0_heads 32 = .ok (.istore 6, 2) := by decide +kernel
theorem dX0_heads_34 : decode cX0_heads 34 = .ok (.iload_n 2, 1) := by decide +kernel
theorem dX0_heads_35 : decode cX0_heads 35 = .ok (.iload 5, 2) := by decide +kernel
theorem dX0_heads_37 : decode cX0_heads 37 = .ok (.invokestatic 63, 3) := by decide +kernel
theorem dX0_heads_40 : decode cX0_heads 40 = .ok (.istore 7, 2) := by decide +kernel
theorem dX0_heads_42 : decode cX0_heads 42 = .ok (.aload_n 1, 1) := by decide +kernel
theorem dX0_heads_43 : decode cX0_heads 43 = .ok (.getfield 49, 3) := by decide +kernel
theorem dX0_heads_46 : decode cX0_heads 46 = .ok (.iload 6, 2) := by decide +kernel
theorem dX0_heads_48 : decode cX0_heads 48 = .ok (.iaload, 1) := by decide +kernel
theorem dX0_heads_49 : decode cX0_heads 49 = .ok (.aload_n 1, 1) := by decide +kernel
theorem dX0_heads_50 : decode cX0_heads 50 = .ok (.getfield 49, 3) := by decide +kernel
theorem dX0_heads_53 : decode cX0_heads 53 = .ok (.iload 7, 2) := by decide +kernel
theorem dX0_heads_55 : decode cX0_heads 55 = .ok (.iaload, 1) := by decide +kernel
theorem dX0_heads_56 : decode cX0_heads 56 = .ok (.invokestatic 38, 3) := by decide +kernel
theorem dX0_heads_59 : decode cX0_heads 59 = .ok (.istore 8, 2) := by decide +kernel
theorem dX0_heads_61 : decode cX0_heads 61 = .ok (.iload_n 3, 1) := by decide +kernel
theorem dX0_heads_62 : decode cX0_heads 62 = .ok (.aload_n 1, 1) := by decide +kernel
theorem dX0_heads_63 : decode cX0_heads 63 = .ok (.iload 6, 2) := by decide +kernel
theorem dX0_heads_65 : decode cX0_heads 65 = .ok (.iconst 0, 1) := by decide +kernel
theorem dX0_heads_66 : decode cX0_heads 66 = .ok (.iload 7, 2) := by decide +kernel
theorem dX0_heads_68 : decode cX0_heads 68 = .ok (.iload 8, 2) := by decide +kernel
theorem dX0_heads_70 : decode cX0_heads 70 = .ok (.invokevirtual 73, 3) := by decide +kernel
theorem dX0_heads_73 : decode cX0_heads 73 = .ok (.ifCond .eq 7, 3) := by decide +kernel
theorem dX0_heads_76 : decode cX0_heads 76 = .ok (.iconst 1, 1) := by decide +kernel
theorem dX0_heads_77 : decode cX0_heads 77 = .ok (.goto 4, 3) := by decide +kernel
theorem dX0_heads_80 : decode cX0_heads 80 = .ok (.iconst 0, 1) := by decide +kernel
theorem dX0_heads_81 : decode cX0_heads 81 = .ok (.iadd, 1) := by decide +kernel
theorem dX0_heads_82 : decode cX0_heads 82 = .ok (.istore_n 3, 1) := by decide +kernel
theorem dX0_heads_83 : decode cX0_heads 83 = .ok (.iinc 5 1, 3) := by decide +kernel
theorem dX0_heads_86 : decode cX0_heads 86 = .ok (.goto (-67), 3) := by decide +kernel
theorem dX0_heads_89 : decode cX0_heads 89 = .ok (.iinc 4 1, 3) := by decide +kernel
theorem dX0_heads_92 : decode cX0_heads 92 = .ok (.goto (-87), 3) := by decide +kernel
theorem dX0_heads_95 : decode cX0_heads 95 = .ok (.iload_n 3, 1) := by decide +kernel
theorem dX0_heads_96 : decode cX0_heads 96 = .ok (.ireturn, 1) := by decide +kernel
theorem dX0_readAll_0 : decode cX0_readAll 0 = .ok (.iconst 0, 1) := by decide +kernel
theorem dX0_readAll_1 : decode cX0_readAll 1 = .ok (.istore 4, 2) := by decide +kernel
theorem dX0_readAll_3 : decode cX0_readAll 3 = .ok (.iload 4, 2) := by decide +kernel
theorem dX0_readAll_5 : decode cX0_readAll 5 = .ok (.bipush 24, 2) := by decide +kernel
theorem dX0_readAll_7 : decode cX0_readAll 7 = .ok (.if_icmp .gt 25, 3) := by decide +kernel
theorem dX0_readAll_10 : decode cX0_readAll 10 = .ok (.aload_n 0, 1) := by decide +kernel
theorem dX0_readAll_11 : decode cX0_readAll 11 = .ok (.getfield 9, 3) := by decide +kernel
theorem dX0_readAll_14 : decode cX0_readAll 14 = .ok (.iload 4, 2) := by decide +kernel
theorem dX0_readAll_16 : decode cX0_readAll 16 = .ok (.lconst 0, 1) := by decide +kernel
theorem dX0_readAll_17 : decode cX0_readAll 17 = .ok (.lastore, 1) := by decide +kernel
theorem dX0_readAll_18 : decode cX0_readAll 18 = .ok (.aload_n 0, 1) := by decide +kernel
theorem dX0_readAll_19 : decode cX0_readAll 19 = .ok (.getfield 15, 3) := by decide +kernel
theorem dX0_readAll_22 : decode cX0_readAll 22 = .ok (.iload 4, 2) := by decide +kernel
theorem dX0_readAll_24 : decode cX0_readAll 24 = .ok (.iconst (-1), 1) := by decide +kernel
theorem dX0_readAll_25 : decode cX0_readAll 25 = .ok (.iastore, 1) := by decide +kernel
theorem dX0_readAll_26 : decode cX0_readAll 26 = .ok (.iinc 4 1, 3) := by decide +kernel
theorem dX0_readAll_29 : decode cX0_readAll 29 = .ok (.goto (-26), 3) := by decide +kernel
theorem dX0_readAll_32 : decode cX0_readAll 32 = .ok (.aload_n 0, 1) := by decide +kernel
theorem dX0_readAll_33 : decode cX0_readAll 33 = .ok (.getfield 9, 3) := by decide +kernel
theorem dX0_readAll_36 : decode cX0_readAll 36 = .ok (.iconst 0, 1) := by decide +kernel
theorem dX0_readAll_37 : decode cX0_readAll 37 = .ok (.lconst 1, 1) := by decide +kernel
theorem dX0_readAll_38 : decode cX0_readAll 38 = .ok (.lastore, 1) := by decide +kernel
theorem dX0_readAll_39 : decode cX0_readAll 39 = .ok (.aload_n 0, 1) := by decide +kernel
theorem dX0_readAll_40 : decode cX0_readAll 40 = .ok (.getfield 15, 3) := by decide +kernel
theorem dX0_readAll_43 : decode cX0_readAll 43 = .ok (.iconst 0, 1) := by decide +kernel
theorem dX0_readAll_44 : decode cX0_readAll 44 = .ok (.iconst 0, 1) := by decide +kernel
theorem dX0_readAll_45 : decode cX0_readAll 45 = .ok (.iastore, 1) := by decide +kernel
theorem dX0_readAll_46 : decode cX0_readAll 46 = .ok (.iconst 0, 1) := by decide +kernel
theorem dX0_readAll_47 : decode cX0_readAll 47 = .ok (.istore 4, 2) := by decide +kernel
theorem dX0_readAll_49 : decode cX0_readAll 49 = .ok (.iload 4, 2) := by decide +kernel
theorem dX0_readAll_51 : decode cX0_readAll 51 = .ok (.aload_n 3, 1) := by decide +kernel
theorem dX0_readAll_52 : decode cX0_readAll 52 = .ok (.getfield 77, 3) := by decide +kernel
theorem dX0_readAll_55 : decode cX0_readAll 55 = .ok (.if_icmp .ge 76, 3) := by decide +kernel
theorem dX0_readAll_58 : decode cX0_readAll 58 = .ok (.iconst 0, 1) := by decide +kernel
theorem dX0_readAll_59 : decode cX0_readAll 59 = .ok (.istore 5, 2) := by decide +kernel
theorem dX0_readAll_61 : decode cX0_readAll 61 = .ok (.iload 5, 2) := by decide +kernel
theorem dX0_readAll_63 : decode cX0_readAll 63 = .ok (.aload_n 1, 1) := by decide +kernel
theorem dX0_readAll_64 : decode cX0_readAll 64 = .ok (.getfield 60, 3) := by decide +kernel
theorem dX0_readAll_67 : decode cX0_readAll 67 = .ok (.iload_n 2, 1) := by decide +kernel
theorem dX0_readAll_68 : decode cX0_readAll 68 = .ok (.iaload, 1) := by decide +kernel
theorem dX0_readAll_69 : decode cX0_readAll 69 = .ok (.if_icmp .ge 56, 3) := by decide +kernel
theorem dX0_readAll_72 : decode cX0_readAll 72 = .ok (.aload_n 0, 1) := by decide +kernel
theorem dX0_readAll_73 : decode cX0_readAll 73 = .ok (.getfield 15, 3) := by decide +kernel
theorem dX0_readAll_76 : decode cX0_readAll 76 = .ok (.iload 4, 2) := by decide +kernel
theorem dX0_readAll_78 : decode cX0_readAll 78 = .ok (.iaload, 1) := by decide +kernel
theorem dX0_readAll_79 : decode cX0_readAll 79 = .ok (.iconst (-1), 1) := by decide +kernel
theorem dX0_readAll_80 : decode cX0_readAll 80 = .ok (.if_icmp .eq 45, 3) := by decide +kernel
theorem dX0_readAll_83 : decode cX0_readAll 83 = .ok (.iload_n 2, 1) := by decide +kernel
theorem dX0_readAll_84 : decode cX0_readAll 84 = .ok (.iload 5, 2) := by decide +kernel
theorem dX0_readAll_86 : decode cX0_readAll 86 = .ok (.invokestatic 63, 3) := by decide +kernel
theorem dX0_readAll_89 : decode cX0_readAll 89 = .ok (.istore 6, 2) := by decide +kernel
theorem dX0_readAll_91 : decode cX0_readAll 91 = .ok (.aload_n 3, 1) := by decide +kernel
theorem dX0_readAll_92 : decode cX0_readAll 92 = .ok (.aload_n 1, 1) := by decide +kernel
theorem dX0_readAll_93 : decode cX0_readAll 93 = .ok (.iload 6, 2) := by decide +kernel
theorem dX0_readAll_95 : decode cX0_readAll 95 = .ok (.iload 4, 2) := by decide +kernel
theorem dX0_readAll_97 : decode cX0_readAll 97 = .ok (.invokevirtual 82, 3) := by decide +kernel
theorem dX0_readAll_100 : decode cX0_readAll 100 = .ok (.ifCond .eq 19, 3) := by decide +kernel
theorem dX0_readAll_103 : decode cX0_readAll 103 = .ok (.aload_n 0, 1) := by decide +kernel
theorem dX0_readAll_104 : decode cX0_readAll 104 = .ok (.iload 4, 2) := by decide +kernel
theorem dX0_readAll_106 : decode cX0_readAll 106 = .ok (.iload 4, 2) := by decide +kernel
theorem dX0_readAll_108 : decode cX0_readAll 108 = .ok (.aload_n 1, 1) := by decide +kernel
theorem dX0_readAll_109 : decode cX0_readAll 109 = .ok (.getfield 49, 3) := by decide +kernel
theorem dX0_readAll_112 : decode cX0_readAll 112 = .ok (.iload 6, 2) := by decide +kernel
theorem dX0_readAll_114 : decode cX0_readAll 114 = .ok (.iaload, 1) := by decide +kernel
theorem dX0_readAll_115 : decode cX0_readAll 115 = .ok (.iadd, 1) := by decide +kernel
theorem dX0_readAll_116 : decode cX0_readAll 116 = .ok (.invokevirtual 86, 3) := by decide +kernel
theorem dX0_readAll_119 : decode cX0_readAll 119 = .ok (.iinc 5 1, 3) := by decide +kernel
theorem dX0_readAll_122 : decode cX0_readAll 122 = .ok (.goto (-61), 3) := by decide +kernel
theorem dX0_readAll_125 : decode cX0_readAll 125 = .ok (.iinc 4 1, 3) := by decide +kernel
theorem dX0_readAll_128 : decode cX0_readAll 128 = .ok (.goto (-79), 3) := by decide +kernel
theorem dX0_readAll_131 : decode cX0_readAll 131 = .ok (.return_, 1) := by decide +kernel
theorem dX0_readOn_0 : decode cX0_readOn 0 = .ok (.iload_n 2, 1) := by decide +kernel
theorem dX0_readOn_1 : decode cX0_readOn 1 = .ok (.bipush 24, 2) := by decide +kernel
theorem dX0_readOn_3 : decode cX0_readOn 3 = .ok (.if_icmp .gt 57, 3) := by decide +kernel
theorem dX0_readOn_6 : decode cX0_readOn 6 = .ok (.aload_n 0, 1) := by decide +kernel
theorem dX0_readOn_7 : decode cX0_readOn 7 = .ok (.getfield 9, 3) := by decide +kernel
theorem dX0_readOn_10 : decode cX0_readOn 10 = .ok (.iload_n 2, 1) := by decide +kernel
theorem dX0_readOn_11 : decode cX0_readOn 11 = .ok (.dup2, 1) := by decide +kernel
theorem dX0_readOn_12 : decode cX0_readOn 12 = .ok (.laload, 1) := by decide +kernel
theorem dX0_readOn_13 : decode cX0_readOn 13 = .ok (.aload_n 0, 1) := by decide +kernel
theorem dX0_readOn_14 : decode cX0_readOn 14 = .ok (.getfield 9, 3) := by decide +kernel
theorem dX0_readOn_17 : decode cX0_readOn 17 = .ok (.iload_n 1, 1) := by decide +kernel
theorem dX0_readOn_18 : decode cX0_readOn 18 = .ok (.laload, 1) := by decide +kernel
theorem dX0_readOn_19 : decode cX0_readOn 19 = .ok (.ladd, 1) := by decide +kernel
theorem dX0_readOn_20 : decode cX0_readOn 20 = .ok (.lastore, 1) := by decide +kernel
theorem dX0_readOn_21 : decode cX0_readOn 21 = .ok (.aload_n 0, 1) := by decide +kernel
theorem dX0_readOn_22 : decode cX0_readOn 22 = .ok (.getfield 15, 3) := by decide +kernel
theorem dX0_readOn_25 : decode cX0_readOn 25 = .ok (.iload_n 1, 1) := by decide +kernel
theorem dX0_readOn_26 : decode cX0_readOn 26 = .ok (.iaload, 1) := by decide +kernel
theorem dX0_readOn_27 : decode cX0_readOn 27 = .ok (.iconst 1, 1) := by decide +kernel
theorem dX0_readOn_28 : decode cX0_readOn 28 = .ok (.iadd, 1) := by decide +kernel
theorem dX0_readOn_29 : decode cX0_readOn 29 = .ok (.istore_n 3, 1) := by decide +kernel
theorem dX0_readOn_30 : decode cX0_readOn 30 = .ok (.aload_n 0, 1) := by decide +kernel
theorem dX0_readOn_31 : decode cX0_readOn 31 = .ok (.getfield 15, 3) := by decide +kernel
theorem dX0_readOn_34 : decode cX0_readOn 34 = .ok (.iload_n 2, 1) := by decide +kernel
theorem dX0_readOn_35 : decode cX0_readOn 35 = .ok (.aload_n 0, 1) := by decide +kernel
theorem dX0_readOn_36 : decode cX0_readOn 36 = .ok (.getfield 15, 3) := by decide +kernel
theorem dX0_readOn_39 : decode cX0_readOn 39 = .ok (.iload_n 2, 1) := by decide +kernel
theorem dX0_readOn_40 : decode cX0_readOn 40 = .ok (.iaload, 1) := by decide +kernel
theorem dX0_readOn_41 : decode cX0_readOn 41 = .ok (.iconst (-1), 1) := by decide +kernel
theorem dX0_readOn_42 : decode cX0_readOn 42 = .ok (.if_icmp .ne 7, 3) := by decide +kernel
theorem dX0_readOn_45 : decode cX0_readOn 45 = .ok (.iload_n 3, 1) := by decide +kernel
theorem dX0_readOn_46 : decode cX0_readOn 46 = .ok (.goto 13, 3) := by decide +kernel
theorem dX0_readOn_49 : decode cX0_readOn 49 = .ok (.aload_n 0, 1) := by decide +kernel
theorem dX0_readOn_50 : decode cX0_readOn 50 = .ok (.getfield 15, 3) := by decide +kernel
theorem dX0_readOn_53 : decode cX0_readOn 53 = .ok (.iload_n 2, 1) := by decide +kernel
theorem dX0_readOn_54 : decode cX0_readOn 54 = .ok (.iaload, 1) := by decide +kernel
theorem dX0_readOn_55 : decode cX0_readOn 55 = .ok (.iload_n 3, 1) := by decide +kernel
theorem dX0_readOn_56 : decode cX0_readOn 56 = .ok (.invokestatic 38, 3) := by decide +kernel
theorem dX0_readOn_59 : decode cX0_readOn 59 = .ok (.iastore, 1) := by decide +kernel
theorem dX0_readOn_60 : decode cX0_readOn 60 = .ok (.return_, 1) := by decide +kernel
theorem dX0_shortestTwofold_0 : decode cX0_shortestTwofold 0 = .ok (.iconst 0, 1) := by decide +kernel
theorem dX0_shortestTwofold_1 : decode cX0_shortestTwofold 1 = .ok (.istore_n 3, 1) := by decide +kernel
theorem dX0_shortestTwofold_2 : decode cX0_shortestTwofold 2 = .ok (.iload_n 3, 1) := by decide +kernel
theorem dX0_shortestTwofold_3 : decode cX0_shortestTwofold 3 = .ok (.bipush 24, 2) := by decide +kernel
theorem dX0_shortestTwofold_5 : decode cX0_shortestTwofold 5 = .ok (.if_icmp .ge 17, 3) := by decide +kernel
theorem dX0_shortestTwofold_8 : decode cX0_shortestTwofold 8 = .ok (.aload_n 0, 1) := by decide +kernel
theorem dX0_shortestTwofold_9 : decode cX0_shortestTwofold 9 = .ok (.getfield 30, 3) := by decide +kernel
theorem dX0_shortestTwofold_12 : decode cX0_shortestTwofold 12 = .ok (.iload_n 3, 1) := by decide +kernel
theorem dX0_shortestTwofold_13 : decode cX0_shortestTwofold 13 = .ok (.ldc 33, 2) := by decide +kernel
theorem dX0_shortestTwofold_15 : decode cX0_shortestTwofold 15 = .ok (.iastore, 1) := by decide +kernel
theorem dX0_shortestTwofold_16 : decode cX0_shortestTwofold 16 = .ok (.iinc 3 1, 3) := by decide +kernel
theorem dX0_shortestTwofold_19 : decode cX0_shortestTwofold 19 = .ok (.goto (-17), 3) := by decide +kernel
theorem dX0_shortestTwofold_22 : decode cX0_shortestTwofold 22 = .ok (.aload_n 0, 1) := by decide +kernel
theorem dX0_shortestTwofold_23 : decode cX0_shortestTwofold 23 = .ok (.ldc 33, 2) := by decide +kernel
theorem dX0_shortestTwofold_25 : decode cX0_shortestTwofold 25 = .ok (.putfield 34, 3) := by decide +kernel
theorem dX0_shortestTwofold_28 : decode cX0_shortestTwofold 28 = .ok (.iconst 0, 1) := by decide +kernel
theorem dX0_shortestTwofold_29 : decode cX0_shortestTwofold 29 = .ok (.istore_n 3, 1) := by decide +kernel
theorem dX0_shortestTwofold_30 : decode cX0_shortestTwofold 30 = .ok (.iload_n 3, 1) := by decide +kernel
theorem dX0_shortestTwofold_31 : decode cX0_shortestTwofold 31 = .ok (.aload_n 1, 1) := by decide +kernel
theorem dX0_shortestTwofold_32 : decode cX0_shortestTwofold 32 = .ok (.getfield 60, 3) := by decide +kernel
theorem dX0_shortestTwofold_35 : decode cX0_shortestTwofold 35 = .ok (.iload_n 2, 1) := by decide +kernel
theorem dX0_shortestTwofold_36 : decode cX0_shortestTwofold 36 = .ok (.iaload, 1) := by decide +kernel
theorem dX0_shortestTwofold_37 : decode cX0_shortestTwofold 37 = .ok (.if_icmp .ge 44, 3) := by decide +kernel
theorem dX0_shortestTwofold_40 : decode cX0_shortestTwofold 40 = .ok (.iconst 0, 1) := by decide +kernel
theorem dX0_shortestTwofold_41 : decode cX0_shortestTwofold 41 = .ok (.istore 4, 2) := by decide +kernel
theorem dX0_shortestTwofold_43 : decode cX0_shortestTwofold 43 = .ok (.iload 4, 2) := by decide +kernel
theorem dX0_shortestTwofold_45 : decode cX0_shortestTwofold 45 = .ok (.aload_n 1, 1) := by decide +kernel
theorem dX0_shortestTwofold_46 : decode cX0_shortestTwofold 46 = .ok (.getfield 60, 3) := by decide +kernel
theorem dX0_shortestTwofold_49 : decode cX0_shortestTwofold 49 = .ok (.iload_n 2, 1) := by decide +kernel
theorem dX0_shortestTwofold_50 : decode cX0_shortestTwofold 50 = .ok (.iaload, 1) := by decide +kernel
theorem dX0_shortestTwofold_51 : decode cX0_shortestTwofold 51 = .ok (.if_icmp .ge 24, 3) := by decide +kernel
theorem dX0_shortestTwofold_54 : decode cX0_shortestTwofold 54 = .ok (.iload_n 3, 1) := by decide +kernel
theorem dX0_shortestTwofold_55 : decode cX0_shortestTwofold 55 = .ok (.iload 4, 2) := by decide +kernel
theorem dX0_shortestTwofold_57 : decode cX0_shortestTwofold 57 = .ok (.if_icmp .eq 12, 3) := by decide +kernel
theorem dX0_shortestTwofold_60 : decode cX0_shortestTwofold 60 = .ok (.aload_n 0, 1) := by decide +kernel
theorem dX0_shortestTwofold_61 : decode cX0_shortestTwofold 61 = .ok (.aload_n 1, 1) := by decide +kernel
theorem dX0_shortestTwofold_62 : decode cX0_shortestTwofold 62 = .ok (.iload_n 2, 1) := by decide +kernel
theorem dX0_shortestTwofold_63 : decode cX0_shortestTwofold 63 = .ok (.iload_n 3, 1) := by decide +kernel
theorem dX0_shortestTwofold_64 : decode cX0_shortestTwofold 64 = .ok (.iload 4, 2) := by decide +kernel
theorem dX0_shortestTwofold_66 : decode cX0_shortestTwofold 66 = .ok (.invokevirtual 90, 3) := by decide +kernel
theorem dX0_shortestTwofold_69 : decode cX0_shortestTwofold 69 = .ok (.iinc 4 1, 3) := by decide +kernel
theorem dX0_shortestTwofold_72 : decode cX0_shortestTwofold 72 = .ok (.goto (-29), 3) := by decide +kernel
theorem dX0_shortestTwofold_75 : decode cX0_shortestTwofold 75 = .ok (.iinc 3 1, 3) := by decide +kernel
theorem dX0_shortestTwofold_78 : decode cX0_shortestTwofold 78 = .ok (.goto (-48), 3) := by decide +kernel
theorem dX0_shortestTwofold_81 : decode cX0_shortestTwofold 81 = .ok (.iconst 1, 1) := by decide +kernel
theorem dX0_shortestTwofold_82 : decode cX0_shortestTwofold 82 = .ok (.istore_n 3, 1) := by decide +kernel
theorem dX0_shortestTwofold_83 : decode cX0_shortestTwofold 83 = .ok (.iconst 0, 1) := by decide +kernel
theorem dX0_shortestTwofold_84 : decode cX0_shortestTwofold 84 = .ok (.istore 4, 2) := by decide +kernel
theorem dX0_shortestTwofold_86 : decode cX0_shortestTwofold 86 = .ok (.iload 4, 2) := by decide +kernel
theorem dX0_shortestTwofold_88 : decode cX0_shortestTwofold 88 = .ok (.bipush 24, 2) := by decide +kernel
theorem dX0_shortestTwofold_90 : decode cX0_shortestTwofold 90 = .ok (.if_icmp .ge 62, 3) := by decide +kernel
theorem dX0_shortestTwofold_93 : decode cX0_shortestTwofold 93 = .ok (.iload_n 3, 1) := by decide +kernel
theorem dX0_shortestTwofold_94 : decode cX0_shortestTwofold 94 = .ok (.ifCond .eq 58, 3) := by decide +kernel
theorem dX0_shortestTwofold_97 : decode cX0_shortestTwofold 97 = .ok (.iconst 0, 1) := by decide +kernel
theorem dX0_shortestTwofold_98 : decode cX0_shortestTwofold 98 = .ok (.istore_n 3, 1) := by decide +kernel
theorem dX0_shortestTwofold_99 : decode cX0_shortestTwofold 99 = .ok (.iconst 0, 1) := by decide +kernel
theorem dX0_shortestTwofold_100 : decode cX0_shortestTwofold 100 = .ok (.istore 5, 2) := by decide +kernel
theorem dX0_shortestTwofold_102 : decode cX0_shortestTwofold 102 = .ok (.iload 5, 2) := by decide +kernel
theorem dX0_shortestTwofold_104 : decode cX0_shortestTwofold 104 = .ok (.bipush 24, 2) := by decide +kernel
theorem dX0_shortestTwofold_106 : decode cX0_shortestTwofold 106 = .ok (.if_icmp .ge 40, 3) := by decide +kernel
theorem dX0_shortestTwofold_109 : decode cX0_shortestTwofold 109 = .ok (.iload_n 3, 1) := by decide +kernel
theorem dX0_shortestTwofold_110 : decode cX0_shortestTwofold 110 = .ok (.aload_n 0, 1) := by decide +kernel
theorem dX0_shortestTwofold_111 : decode cX0_shortestTwofold 111 = .ok (.getfield 30, 3) := by decide +kernel
theorem dX0_shortestTwofold_114 : decode cX0_shortestTwofold 114 = .ok (.iload 5, 2) := by decide +kernel
theorem dX0_shortestTwofold_116 : decode cX0_shortestTwofold 116 = .ok (.iaload, 1) := by decide +kernel
theorem dX0_shortestTwofold_117 : decode cX0_shortestTwofold 117 = .ok (.ldc 33, 2) := by decide +kernel
theorem dX0_shortestTwofold_119 : decode cX0_shortestTwofold 119 = .ok (.if_icmp .ge 18, 3) := by decide +kernel
theorem dX0_shortestTwofold_122 : decode cX0_shortestTwofold 122 = .ok (.aload_n 0, 1) := by decide +kernel
theorem dX0_shortestTwofold_123 : decode cX0_shortestTwofold 123 = .ok (.aload_n 1, 1) := by decide +kernel
theorem dX0_shortestTwofold_124 : decode cX0_shortestTwofold 124 = .ok (.iload_n 2, 1) := by decide +kernel
theorem dX0_shortestTwofold_125 : decode cX0_shortestTwofold 125 = .ok (.iload 5, 2) := by decide +kernel
theorem dX0_shortestTwofold_127 : decode cX0_shortestTwofold 127 = .ok (.invokevirtual 94, 3) := by decide +kernel
theorem dX0_shortestTwofold_130 : decode cX0_shortestTwofold 130 = .ok (.ifCond .eq 7, 3) := by decide +kernel
theorem dX0_shortestTwofold_133 : decode cX0_shortestTwofold 133 = .ok (.iconst 1, 1) := by decide +kernel
theorem dX0_shortestTwofold_134 : decode cX0_shortestTwofold 134 = .ok (.goto 4, 3) := by decide +kernel
theorem dX0_shortestTwofold_137 : decode cX0_shortestTwofold 137 = .ok (.iconst 0, 1) := by decide +kernel
theorem dX0_shortestTwofold_138 : decode cX0_shortestTwofold 138 = .ok (.ior, 1) := by decide +kernel
theorem dX0_shortestTwofold_139 : decode cX0_shortestTwofold 139 = .ok (.istore_n 3, 1) := by decide +kernel
theorem dX0_shortestTwofold_140 : decode cX0_shortestTwofold 140 = .ok (.iinc 5 1, 3) := by decide +kernel
theorem dX0_shortestTwofold_143 : decode cX0_shortestTwofold 143 = .ok (.goto (-41), 3) := by decide +kernel
theorem dX0_shortestTwofold_146 : decode cX0_shortestTwofold 146 = .ok (.iinc 4 1, 3) := by decide +kernel
theorem dX0_shortestTwofold_149 : decode cX0_shortestTwofold 149 = .ok (.goto (-63), 3) := by decide +kernel
theorem dX0_shortestTwofold_152 : decode cX0_shortestTwofold 152 = .ok (.aload_n 0, 1) := by decide +kernel
theorem dX0_shortestTwofold_153 : decode cX0_shortestTwofold 153 = .ok (.getfield 34, 3) := by decide +kernel
theorem dX0_shortestTwofold_156 : decode cX0_shortestTwofold 156 = .ok (.ldc 33, 2) := by decide +kernel
theorem dX0_shortestTwofold_158 : decode cX0_shortestTwofold 158 = .ok (.if_icmp .ge 10, 3) := by decide +kernel
theorem dX0_shortestTwofold_161 : decode cX0_shortestTwofold 161 = .ok (.aload_n 0, 1) := by decide +kernel
theorem dX0_shortestTwofold_162 : decode cX0_shortestTwofold 162 = .ok (.getfield 34, 3) := by decide +kernel
theorem dX0_shortestTwofold_165 : decode cX0_shortestTwofold 165 = .ok (.goto 4, 3) := by decide +kernel
theorem dX0_shortestTwofold_168 : decode cX0_shortestTwofold 168 = .ok (.iconst (-1), 1) := by decide +kernel
theorem dX0_shortestTwofold_169 : decode cX0_shortestTwofold 169 = .ok (.ireturn, 1) := by decide +kernel
theorem dX0_beginTwofold_0 : decode cX0_beginTwofold 0 = .ok (.iload_n 2, 1) := by decide +kernel
theorem dX0_beginTwofold_1 : decode cX0_beginTwofold 1 = .ok (.iload_n 3, 1) := by decide +kernel
theorem dX0_beginTwofold_2 : decode cX0_beginTwofold 2 = .ok (.invokestatic 63, 3) := by decide +kernel
theorem dX0_beginTwofold_5 : decode cX0_beginTwofold 5 = .ok (.istore 5, 2) := by decide +kernel
theorem dX0_beginTwofold_7 : decode cX0_beginTwofold 7 = .ok (.iload_n 2, 1) := by decide +kernel
theorem dX0_beginTwofold_8 : decode cX0_beginTwofold 8 = .ok (.iload 4, 2) := by decide +kernel
theorem dX0_beginTwofold_10 : decode cX0_beginTwofold 10 = .ok (.invokestatic 63, 3) := by decide +kernel
theorem dX0_beginTwofold_13 : decode cX0_beginTwofold 13 = .ok (.istore 6, 2) := by decide +kernel
theorem dX0_beginTwofold_15 : decode cX0_beginTwofold 15 = .ok (.aload_n 1, 1) := by decide +kernel
theorem dX0_beginTwofold_16 : decode cX0_beginTwofold 16 = .ok (.getfield 49, 3) := by decide +kernel
theorem dX0_beginTwofold_19 : decode cX0_beginTwofold 19 = .ok (.iload 6, 2) := by decide +kernel
theorem dX0_beginTwofold_21 : decode cX0_beginTwofold 21 = .ok (.iaload, 1) := by decide +kernel
theorem dX0_beginTwofold_22 : decode cX0_beginTwofold 22 = .ok (.istore 7, 2) := by decide +kernel
theorem dX0_beginTwofold_24 : decode cX0_beginTwofold 24 = .ok (.aload_n 1, 1) := by decide +kernel
theorem dX0_beginTwofold_25 : decode cX0_beginTwofold 25 = .ok (.iload 5, 2) := by decide +kernel
theorem dX0_beginTwofold_27 : decode cX0_beginTwofold 27 = .ok (.iconst 0, 1) := by decide +kernel
theorem dX0_beginTwofold_28 : decode cX0_beginTwofold 28 = .ok (.iload 6, 2) := by decide +kernel
theorem dX0_beginTwofold_30 : decode cX0_beginTwofold 30 = .ok (.iload 7, 2) := by decide +kernel
theorem dX0_beginTwofold_32 : decode cX0_beginTwofold 32 = .ok (.invokevirtual 73, 3) := by decide +kernel
theorem dX0_beginTwofold_35 : decode cX0_beginTwofold 35 = .ok (.ifCond .eq 25, 3) := by decide +kernel
theorem dX0_beginTwofold_38 : decode cX0_beginTwofold 38 = .ok (.aload_n 0, 1) := by decide +kernel
theorem dX0_beginTwofold_39 : decode cX0_beginTwofold 39 = .ok (.iload_n 3, 1) := by decide +kernel
theorem dX0_beginTwofold_40 : decode cX0_beginTwofold 40 = .ok (.iload 7, 2) := by decide +kernel
theorem dX0_beginTwofold_42 : decode cX0_beginTwofold 42 = .ok (.aload_n 1, 1) := by decide +kernel
theorem dX0_beginTwofold_43 : decode cX0_beginTwofold 43 = .ok (.getfield 49, 3) := by decide +kernel
theorem dX0_beginTwofold_46 : decode cX0_beginTwofold 46 = .ok (.iload 5, 2) := by decide +kernel
theorem dX0_beginTwofold_48 : decode cX0_beginTwofold 48 = .ok (.iaload, 1) := by decide +kernel
theorem dX0_beginTwofold_49 : decode cX0_beginTwofold 49 = .ok (.aload_n 1, 1) := by decide +kernel
theorem dX0_beginTwofold_50 : decode cX0_beginTwofold 50 = .ok (.getfield 49, 3) := by decide +kernel
theorem dX0_beginTwofold_53 : decode cX0_beginTwofold 53 = .ok (.iload 5, 2) := by decide +kernel
theorem dX0_beginTwofold_55 : decode cX0_beginTwofold 55 = .ok (.iaload, 1) := by decide +kernel
theorem dX0_beginTwofold_56 : decode cX0_beginTwofold 56 = .ok (.invokevirtual 97, 3) := by decide +kernel
theorem dX0_beginTwofold_59 : decode cX0_beginTwofold 59 = .ok (.pop, 1) := by decide +kernel
theorem dX0_beginTwofold_60 : decode cX0_beginTwofold 60 = .ok (.return_, 1) := by decide +kernel
theorem dX0_goOnTwofold_0 : decode cX0_goOnTwofold 0 = .ok (.iload_n 3, 1) := by decide +kernel
theorem dX0_goOnTwofold_1 : decode cX0_goOnTwofold 1 = .ok (.iconst 4, 1) := by decide +kernel
theorem dX0_goOnTwofold_2 : decode cX0_goOnTwofold 2 = .ok (.idiv, 1) := by decide +kernel
theorem dX0_goOnTwofold_3 : decode cX0_goOnTwofold 3 = .ok (.istore 4, 2) := by decide +kernel
theorem dX0_goOnTwofold_5 : decode cX0_goOnTwofold 5 = .ok (.iload_n 3, 1) := by decide +kernel
theorem dX0_goOnTwofold_6 : decode cX0_goOnTwofold 6 = .ok (.iconst 4, 1) := by decide +kernel
theorem dX0_goOnTwofold_7 : decode cX0_goOnTwofold 7 = .ok (.irem, 1) := by decide +kernel
theorem dX0_goOnTwofold_8 : decode cX0_goOnTwofold 8 = .ok (.istore 5, 2) := by decide +kernel
theorem dX0_goOnTwofold_10 : decode cX0_goOnTwofold 10 = .ok (.iload_n 2, 1) := by decide +kernel
theorem dX0_goOnTwofold_11 : decode cX0_goOnTwofold 11 = .ok (.iload 4, 2) := by decide +kernel
theorem dX0_goOnTwofold_13 : decode cX0_goOnTwofold 13 = .ok (.invokestatic 63, 3) := by decide +kernel
theorem dX0_goOnTwofold_16 : decode cX0_goOnTwofold 16 = .ok (.istore 6, 2) := by decide +kernel
theorem dX0_goOnTwofold_18 : decode cX0_goOnTwofold 18 = .ok (.aload_n 1, 1) := by decide +kernel
theorem dX0_goOnTwofold_19 : decode cX0_goOnTwofold 19 = .ok (.getfield 49, 3) := by decide +kernel
theorem dX0_goOnTwofold_22 : decode cX0_goOnTwofold 22 = .ok (.iload 6, 2) := by decide +kernel
theorem dX0_goOnTwofold_24 : decode cX0_goOnTwofold 24 = .ok (.iaload, 1) := by decide +kernel
theorem dX0_goOnTwofold_25 : decode cX0_goOnTwofold 25 = .ok (.iload 5, 2) := by decide +kernel
theorem dX0_goOnTwofold_27 : decode cX0_goOnTwofold 27 = .ok (.isub, 1) := by decide +kernel
theorem dX0_goOnTwofold_28 : decode cX0_goOnTwofold 28 = .ok (.istore 7, 2) := by decide +kernel
theorem dX0_goOnTwofold_30 : decode cX0_goOnTwofold 30 = .ok (.aload_n 0, 1) := by decide +kernel
theorem dX0_goOnTwofold_31 : decode cX0_goOnTwofold 31 = .ok (.getfield 30, 3) := by decide +kernel
theorem dX0_goOnTwofold_34 : decode cX0_goOnTwofold 34 = .ok (.iload_n 3, 1) := by decide +kernel
theorem dX0_goOnTwofold_35 : decode cX0_goOnTwofold 35 = .ok (.iaload, 1) := by decide +kernel
theorem dX0_goOnTwofold_36 : decode cX0_goOnTwofold 36 = .ok (.istore 8, 2) := by decide +kernel
theorem dX0_goOnTwofold_38 : decode cX0_goOnTwofold 38 = .ok (.iconst 0, 1) := by decide +kernel
theorem dX0_goOnTwofold_39 : decode cX0_goOnTwofold 39 = .ok (.istore 9, 2) := by decide +kernel
theorem dX0_goOnTwofold_41 : decode cX0_goOnTwofold 41 = .ok (.iconst 0, 1) := by decide +kernel
theorem dX0_goOnTwofold_42 : decode cX0_goOnTwofold 42 = .ok (.istore 10, 2) := by decide +kernel
theorem dX0_goOnTwofold_44 : decode cX0_goOnTwofold 44 = .ok (.iload 10, 2) := by decide +kernel
theorem dX0_goOnTwofold_46 : decode cX0_goOnTwofold 46 = .ok (.aload_n 1, 1) := by decide +kernel
theorem dX0_goOnTwofold_47 : decode cX0_goOnTwofold 47 = .ok (.getfield 60, 3) := by decide +kernel
theorem dX0_goOnTwofold_50 : decode cX0_goOnTwofold 50 = .ok (.iload_n 2, 1) := by decide +kernel
theorem dX0_goOnTwofold_51 : decode cX0_goOnTwofold 51 = .ok (.iaload, 1) := by decide +kernel
theorem dX0_goOnTwofold_52 : decode cX0_goOnTwofold 52 = .ok (.if_icmp .ge 104, 3) := by decide +kernel
theorem dX0_goOnTwofold_55 : decode cX0_goOnTwofold 55 = .ok (.iload_n 2, 1) := by decide +kernel
theorem dX0_goOnTwofold_56 : decode cX0_goOnTwofold 56 = .ok (.iload 10, 2) := by decide +kernel
theorem dX0_goOnTwofold_58 : decode cX0_goOnTwofold 58 = .ok (.invokestatic 63, 3) := by decide +kernel
theorem dX0_goOnTwofold_61 : decode cX0_goOnTwofold 61 = .ok (.istore 11, 2) := by decide +kernel
theorem dX0_goOnTwofold_63 : decode cX0_goOnTwofold 63 = .ok (.aload_n 1, 1) := by decide +kernel
theorem dX0_goOnTwofold_64 : decode cX0_goOnTwofold 64 = .ok (.getfield 49, 3) := by decide +kernel
theorem dX0_goOnTwofold_67 : decode cX0_goOnTwofold 67 = .ok (.iload 11, 2) := by decide +kernel
theorem dX0_goOnTwofold_69 : decode cX0_goOnTwofold 69 = .ok (.iaload, 1) := by decide +kernel
theorem dX0_goOnTwofold_70 : decode cX0_goOnTwofold 70 = .ok (.istore 12, 2) := by decide +kernel
theorem dX0_goOnTwofold_72 : decode cX0_goOnTwofold 72 = .ok (.aload_n 1, 1) := by decide +kernel
theorem dX0_goOnTwofold_73 : decode cX0_goOnTwofold 73 = .ok (.iload 6, 2) := by decide +kernel
theorem dX0_goOnTwofold_75 : decode cX0_goOnTwofold 75 = .ok (.iload 5, 2) := by decide +kernel
theorem dX0_goOnTwofold_77 : decode cX0_goOnTwofold 77 = .ok (.iload 11, 2) := by decide +kernel
theorem dX0_goOnTwofold_79 : decode cX0_goOnTwofold 79 = .ok (.iload 7, 2) := by decide +kernel
theorem dX0_goOnTwofold_81 : decode cX0_goOnTwofold 81 = .ok (.iload 12, 2) := by decide +kernel
theorem dX0_goOnTwofold_83 : decode cX0_goOnTwofold 83 = .ok (.invokestatic 38, 3) := by decide +kernel
theorem dX0_goOnTwofold_86 : decode cX0_goOnTwofold 86 = .ok (.invokevirtual 73, 3) := by decide +kernel
theorem dX0_goOnTwofold_89 : decode cX0_goOnTwofold 89 = .ok (.ifCond .eq 61, 3) := by decide +kernel
theorem dX0_goOnTwofold_92 : decode cX0_goOnTwofold 92 = .ok (.iload 12, 2) := by decide +kernel
theorem dX0_goOnTwofold_94 : decode cX0_goOnTwofold 94 = .ok (.iload 7, 2) := by decide +kernel
theorem dX0_goOnTwofold_96 : decode cX0_goOnTwofold 96 = .ok (.if_icmp .gt 31, 3) := by decide +kernel
theorem dX0_goOnTwofold_99 : decode cX0_goOnTwofold 99 = .ok (.iload 9, 2) := by decide +kernel
theorem dX0_goOnTwofold_101 : decode cX0_goOnTwofold 101 = .ok (.aload_n 0, 1) := by decide +kernel
theorem dX0_goOnTwofold_102 : decode cX0_goOnTwofold 102 = .ok (.iload 4, 2) := by decide +kernel
theorem dX0_goOnTwofold_104 : decode cX0_goOnTwofold 104 = .ok (.iload 5, 2) := by decide +kernel
theorem dX0_goOnTwofold_106 : decode cX0_goOnTwofold 106 = .ok (.iload 12, 2) := by decide +kernel
theorem dX0_goOnTwofold_108 : decode cX0_goOnTwofold 108 = .ok (.iadd, 1) := by decide +kernel
theorem dX0_goOnTwofold_109 : decode cX0_goOnTwofold 109 = .ok (.aload_n 1, 1) := by decide +kernel
theorem dX0_goOnTwofold_110 : decode cX0_goOnTwofold 110 = .ok (.getfield 49, 3) := by decide +kernel
theorem dX0_goOnTwofold_113 : decode cX0_goOnTwofold 113 = .ok (.iload 6, 2) := by decide +kernel
theorem dX0_goOnTwofold_115 : decode cX0_goOnTwofold 115 = .ok (.iaload, 1) := by decide +kernel
theorem dX0_goOnTwofold_116 : decode cX0_goOnTwofold 116 = .ok (.iload 8, 2) := by decide +kernel
theorem dX0_goOnTwofold_118 : decode cX0_goOnTwofold 118 = .ok (.invokevirtual 97, 3) := by decide +kernel
theorem dX0_goOnTwofold_121 : decode cX0_goOnTwofold 121 = .ok (.ior, 1) := by decide +kernel
theorem dX0_goOnTwofold_122 : decode cX0_goOnTwofold 122 = .ok (.istore 9, 2) := by decide +kernel
theorem dX0_goOnTwofold_124 : decode cX0_goOnTwofold 124 = .ok (.goto 26, 3) := by decide +kernel
theorem dX0_goOnTwofold_127 : decode cX0_goOnTwofold 127 = .ok (.iload 9, 2) := by decide +kernel
theorem dX0_goOnTwofold_129 : decode cX0_goOnTwofold 129 = .ok (.aload_n 0, 1) := by decide +kernel
theorem dX0_goOnTwofold_130 : decode cX0_goOnTwofold 130 = .ok (.iload 10, 2) := by decide +kernel
theorem dX0_goOnTwofold_132 : decode cX0_goOnTwofold 132 = .ok (.iload 7, 2) := by decide +kernel
theorem dX0_goOnTwofold_134 : decode cX0_goOnTwofold 134 = .ok (.iload 12, 2) := by decide +kernel
theorem dX0_goOnTwofold_136 : decode cX0_goOnTwofold 136 = .ok (.iload 8, 2) := by decide +kernel
theorem dX0_goOnTwofold_138 : decode cX0_goOnTwofold 138 = .ok (.iload 12, 2) := by decide +kernel
theorem dX0_goOnTwofold_140 : decode cX0_goOnTwofold 140 = .ok (.iadd, 1) := by decide +kernel
theorem dX0_goOnTwofold_141 : decode cX0_goOnTwofold 141 = .ok (.iload 7, 2) := by decide +kernel
theorem dX0_goOnTwofold_143 : decode cX0_goOnTwofold 143 = .ok (.isub, 1) := by decide +kernel
theorem dX0_goOnTwofold_144 : decode cX0_goOnTwofold 144 = .ok (.invokevirtual 97, 3) := by decide +kernel
theorem dX0_goOnTwofold_147 : decode cX0_goOnTwofold 147 = .ok (.ior, 1) := by decide +kernel
theorem dX0_goOnTwofold_148 : decode cX0_goOnTwofold 148 = .ok (.istore 9, 2) := by decide +kernel
theorem dX0_goOnTwofold_150 : decode cX0_goOnTwofold 150 = .ok (.iinc 10 1, 3) := by decide +kernel
theorem dX0_goOnTwofold_153 : decode cX0_goOnTwofold 153 = .ok (.goto (-109), 3) := by decide +kernel
theorem dX0_goOnTwofold_156 : decode cX0_goOnTwofold 156 = .ok (.iload 9, 2) := by decide +kernel
theorem dX0_goOnTwofold_158 : decode cX0_goOnTwofold 158 = .ok (.ireturn, 1) := by decide +kernel
theorem dX0_reach_0 : decode cX0_reach 0 = .ok (.iload_n 2, 1) := by decide +kernel
theorem dX0_reach_1 : decode cX0_reach 1 = .ok (.iload_n 3, 1) := by decide +kernel
theorem dX0_reach_2 : decode cX0_reach 2 = .ok (.if_icmp .lt 18, 3) := by decide +kernel
theorem dX0_reach_5 : decode cX0_reach 5 = .ok (.aload_n 0, 1) := by decide +kernel
theorem dX0_reach_6 : decode cX0_reach 6 = .ok (.aload_n 0, 1) := by decide +kernel
theorem dX0_reach_7 : decode cX0_reach 7 = .ok (.getfield 34, 3) := by decide +kernel
theorem dX0_reach_10 : decode cX0_reach 10 = .ok (.iload 4, 2) := by decide +kernel
theorem dX0_reach_12 : decode cX0_reach 12 = .ok (.invokestatic 38, 3) := by decide +kernel
theorem dX0_reach_15 : decode cX0_reach 15 = .ok (.putfield 34, 3) := by decide +kernel
theorem dX0_reach_18 : decode cX0_reach 18 = .ok (.iconst 0, 1) := by decide +kernel
theorem dX0_reach_19 : decode cX0_reach 19 = .ok (.ireturn, 1) := by decide +kernel
theorem dX0_reach_20 : decode cX0_reach 20 = .ok (.iload_n 1, 1) := by decide +kernel
theorem dX0_reach_21 : decode cX0_reach 21 = .ok (.iconst 4, 1) := by decide +kernel
theorem dX0_reach_22 : decode cX0_reach 22 = .ok (.imul, 1) := by decide +kernel
theorem dX0_reach_23 : decode cX0_reach 23 = .ok (.iload_n 2, 1) := by decide +kernel
theorem dX0_reach_24 : decode cX0_reach 24 = .ok (.iadd, 1) := by decide +kernel
theorem dX0_reach_25 : decode cX0_reach 25 = .ok (.istore 5, 2) := by decide +kernel
theorem dX0_reach_27 : decode cX0_reach 27 = .ok (.iload 4, 2) := by decide +kernel
theorem dX0_reach_29 : decode cX0_reach 29 = .ok (.aload_n 0, 1) := by decide +kernel
theorem dX0_reach_30 : decode cX0_reach 30 = .ok (.getfield 30, 3) := by decide +kernel
theorem dX0_reach_33 : decode cX0_reach 33 = .ok (.iload 5, 2) := by decide +kernel
theorem dX0_reach_35 : decode cX0_reach 35 = .ok (.iaload, 1) := by decide +kernel
theorem dX0_reach_36 : decode cX0_reach 36 = .ok (.if_icmp .lt 5, 3) := by decide +kernel
theorem dX0_reach_39 : decode cX0_reach 39 = .ok (.iconst 0, 1) := by decide +kernel
theorem dX0_reach_40 : decode cX0_reach 40 = .ok (.ireturn, 1) := by decide +kernel
theorem dX0_reach_41 : decode cX0_reach 41 = .ok (.aload_n 0, 1) := by decide +kernel
theorem dX0_reach_42 : decode cX0_reach 42 = .ok (.getfield 30, 3) := by decide +kernel
theorem dX0_reach_45 : decode cX0_reach 45 = .ok (.iload 5, 2) := by decide +kernel
theorem dX0_reach_47 : decode cX0_reach 47 = .ok (.iload 4, 2) := by decide +kernel
theorem dX0_reach_49 : decode cX0_reach 49 = .ok (.iastore, 1) := by decide +kernel
theorem dX0_reach_50 : decode cX0_reach 50 = .ok (.iconst 1, 1) := by decide +kernel
theorem dX0_reach_51 : decode cX0_reach 51 = .ok (.ireturn, 1) := by decide +kernel
theorem dX1_init_0 : decode cX1_init 0 = .ok (.aload_n 0, 1) := by decide +kernel
theorem dX1_init_1 : decode cX1_init 1 = .ok (.invokespecial 3, 3) := by decide +kernel
theorem dX1_init_4 : decode cX1_init 4 = .ok (.aload_n 0, 1) := by decide +kernel
theorem dX1_init_5 : decode cX1_init 5 = .ok (.bipush 24, 2) := by decide +kernel
theorem dX1_init_7 : decode cX1_init 7 = .ok (.newarray .int, 2) := by decide +kernel
theorem dX1_init_9 : decode cX1_init 9 = .ok (.putfield 9, 3) := by decide +kernel
theorem dX1_init_12 : decode cX1_init 12 = .ok (.aload_n 0, 1) := by decide +kernel
theorem dX1_init_13 : decode cX1_init 13 = .ok (.bipush 24, 2) := by decide +kernel
theorem dX1_init_15 : decode cX1_init 15 = .ok (.newarray .int, 2) := by decide +kernel
theorem dX1_init_17 : decode cX1_init 17 = .ok (.putfield 15, 3) := by decide +kernel
theorem dX1_init_20 : decode cX1_init 20 = .ok (.aload_n 0, 1) := by decide +kernel
theorem dX1_init_21 : decode cX1_init 21 = .ok (.bipush 24, 2) := by decide +kernel
theorem dX1_init_23 : decode cX1_init 23 = .ok (.newarray .int, 2) := by decide +kernel
theorem dX1_init_25 : decode cX1_init 25 = .ok (.putfield 18, 3) := by decide +kernel
theorem dX1_init_28 : decode cX1_init 28 = .ok (.aload_n 0, 1) := by decide +kernel
theorem dX1_init_29 : decode cX1_init 29 = .ok (.bipush 24, 2) := by decide +kernel
theorem dX1_init_31 : decode cX1_init 31 = .ok (.newarray .int, 2) := by decide +kernel
theorem dX1_init_33 : decode cX1_init 33 = .ok (.putfield 21, 3) := by decide +kernel
theorem dX1_init_36 : decode cX1_init 36 = .ok (.aload_n 0, 1) := by decide +kernel
theorem dX1_init_37 : decode cX1_init 37 = .ok (.bipush 24, 2) := by decide +kernel
theorem dX1_init_39 : decode cX1_init 39 = .ok (.newarray .boolean, 2) := by decide +kernel
theorem dX1_init_41 : decode cX1_init 41 = .ok (.putfield 24, 3) := by decide +kernel
theorem dX1_init_44 : decode cX1_init 44 = .ok (.aload_n 0, 1) := by decide +kernel
theorem dX1_init_45 : decode cX1_init 45 = .ok (.iconst 0, 1) := by decide +kernel
theorem dX1_init_46 : decode cX1_init 46 = .ok (.putfield 28, 3) := by decide +kernel
theorem dX1_init_49 : decode cX1_init 49 = .ok (.return_, 1) := by decide +kernel
theorem dX1_lay_0 : decode cX1_lay 0 = .ok (.iconst 1, 1) := by decide +kernel
theorem dX1_lay_1 : decode cX1_lay 1 = .ok (.iload_n 1, 1) := by decide +kernel
theorem dX1_lay_2 : decode cX1_lay 2 = .ok (.invokestatic 32, 3) := by decide +kernel
theorem dX1_lay_5 : decode cX1_lay 5 = .ok (.istore_n 3, 1) := by decide +kernel
theorem dX1_lay_6 : decode cX1_lay 6 = .ok (.aload_n 0, 1) := by decide +kernel
theorem dX1_lay_7 : decode cX1_lay 7 = .ok (.iconst 0, 1) := by decide +kernel
theorem dX1_lay_8 : decode cX1_lay 8 = .ok (.putfield 28, 3) := by decide +kernel
theorem dX1_lay_11 : decode cX1_lay 11 = .ok (.iconst 0, 1) := by decide +kernel
theorem dX1_lay_12 : decode cX1_lay 12 = .ok (.istore 4, 2) := by decide +kernel
theorem dX1_lay_14 : decode cX1_lay 14 = .ok (.iload 4, 2) := by decide +kernel
theorem dX1_lay_16 : decode cX1_lay 16 = .ok (.bipush 12, 2) := by decide +kernel
theorem dX1_lay_18 : decode cX1_lay 18 = .ok (.if_icmp .ge 36, 3) := by decide +kernel
theorem dX1_lay_21 : decode cX1_lay 21 = .ok (.aload_n 0, 1) := by decide +kernel
theorem dX1_lay_22 : decode cX1_lay 22 = .ok (.aload_n 2, 1) := by decide +kernel
theorem dX1_lay_23 : decode cX1_lay 23 = .ok (.iconst 0, 1) := by decide +kernel
theorem dX1_lay_24 : decode cX1_lay 24 = .ok (.iload 4, 2) := by decide +kernel
theorem dX1_lay_26 : decode cX1_lay 26 = .ok (.iload 4, 2) := by decide +kernel
theorem dX1_lay_28 : decode cX1_lay 28 = .ok (.iload_n 3, 1) := by decide +kernel
theorem dX1_lay_29 : decode cX1_lay 29 = .ok (.iadd, 1) := by decide +kernel
theorem dX1_lay_30 : decode cX1_lay 30 = .ok (.invokevirtual 38, 3) := by decide +kernel
theorem dX1_lay_33 : decode cX1_lay 33 = .ok (.aload_n 0, 1) := by decide +kernel
theorem dX1_lay_34 : decode cX1_lay 34 = .ok (.aload_n 2, 1) := by decide +kernel
theorem dX1_lay_35 : decode cX1_lay 35 = .ok (.iconst 1, 1) := by decide +kernel
theorem dX1_lay_36 : decode cX1_lay 36 = .ok (.iload 4, 2) := by decide +kernel
theorem dX1_lay_38 : decode cX1_lay 38 = .ok (.iload 4, 2) := by decide +kernel
theorem dX1_lay_40 : decode cX1_lay 40 = .ok (.iload_n 3, 1) := by decide +kernel
theorem dX1_lay_41 : decode cX1_lay 41 = .ok (.iadd, 1) := by decide +kernel
theorem dX1_lay_42 : decode cX1_lay 42 = .ok (.invokevirtual 38, 3) := by decide +kernel
theorem dX1_lay_45 : decode cX1_lay 45 = .ok (.iload 4, 2) := by decide +kernel
theorem dX1_lay_47 : decode cX1_lay 47 = .ok (.iload_n 3, 1) := by decide +kernel
theorem dX1_lay_48 : decode cX1_lay 48 = .ok (.iadd, 1) := by decide +kernel
theorem dX1_lay_49 : decode cX1_lay 49 = .ok (.istore 4, 2) := by decide +kernel
theorem dX1_lay_51 : decode cX1_lay 51 = .ok (.goto (-37), 3) := by decide +kernel
theorem dX1_lay_54 : decode cX1_lay 54 = .ok (.return_, 1) := by decide +kernel
theorem dX1_layTurn_0 : decode cX1_layTurn 0 = .ok (.iload 4, 2) := by decide +kernel
theorem dX1_layTurn_2 : decode cX1_layTurn 2 = .ok (.aload_n 1, 1) := by decide +kernel
theorem dX1_layTurn_3 : decode cX1_layTurn 3 = .ok (.getfield 42, 3) := by decide +kernel
theorem dX1_layTurn_6 : decode cX1_layTurn 6 = .ok (.iload_n 2, 1) := by decide +kernel
theorem dX1_layTurn_7 : decode cX1_layTurn 7 = .ok (.iaload, 1) := by decide +kernel
theorem dX1_layTurn_8 : decode cX1_layTurn 8 = .ok (.invokestatic 47, 3) := by decide +kernel
theorem dX1_layTurn_11 : decode cX1_layTurn 11 = .ok (.istore 5, 2) := by decide +kernel
theorem dX1_layTurn_13 : decode cX1_layTurn 13 = .ok (.iload_n 3, 1) := by decide +kernel
theorem dX1_layTurn_14 : decode cX1_layTurn 14 = .ok (.istore 6, 2) := by decide +kernel
theorem dX1_layTurn_16 : decode cX1_layTurn 16 = .ok (.iload 6, 2) := by decide +kernel
theorem dX1_layTurn_18 : decode cX1_layTurn 18 = .ok (.iload 5, 2) := by decide +kernel
theorem dX1_layTurn_20 : decode cX1_layTurn 20 = .ok (.if_icmp .ge 77, 3) := by decide +kernel
theorem dX1_layTurn_23 : decode cX1_layTurn 23 = .ok (.aload_n 0, 1) := by decide +kernel
theorem dX1_layTurn_24 : decode cX1_layTurn 24 = .ok (.getfield 28, 3) := by decide +kernel
theorem dX1_layTurn_27 : decode cX1_layTurn 27 = .ok (.bipush 24, 2) := by decide +kernel
theorem dX1_layTurn_29 : decode cX1_layTurn 29 = .ok (.if_icmp .ge 68, 3) := by decide +kernel
theorem dX1_layTurn_32 : decode cX1_layTurn 32 = .ok (.aload_n 0, 1) := by decide +kernel
theorem dX1_layTurn_33 : decode cX1_layTurn 33 = .ok (.getfield 9, 3) := by decide +kernel
theorem dX1_layTurn_36 : decode cX1_layTurn 36 = .ok (.aload_n 0, 1) := by decide +kernel
theorem dX1_layTurn_37 : decode cX1_layTurn 37 = .ok (.getfield 28, 3) := by decide +kernel
theorem dX1_layTurn_40 : decode cX1_layTurn 40 = .ok (.aload_n 1, 1) := by decide +kernel
theorem dX1_layTurn_41 : decode cX1_layTurn 41 = .ok (.getfield 50, 3) := by decide +kernel
theorem dX1_layTurn_44 : decode cX1_layTurn 44 = .ok (.iload_n 2, 1) := by decide +kernel
theorem dX1_layTurn_45 : decode cX1_layTurn 45 = .ok (.bipush 12, 2) := by decide +kernel
theorem dX1_layTurn_47 : decode cX1_layTurn 47 = .ok (.imul, 1) := by decide +kernel
theorem dX1_layTurn_48 : decode cX1_layTurn 48 = .ok (.iload 6, 2) := by decide +kernel
theorem dX1_layTurn_50 : decode cX1_layTurn 50 = .ok (.iadd, 1) := by decide +kernel
theorem dX1_layTurn_51 : decode cX1_layTurn 51 = .ok (.iaload, 1) := by decide +kernel
theorem dX1_layTurn_52 : decode cX1_layTurn 52 = .ok (.iastore, 1) := by decide +kernel
theorem dX1_layTurn_53 : decode cX1_layTurn 53 = .ok (.aload_n 0, 1) := by decide +kernel
theorem dX1_layTurn_54 : decode cX1_layTurn 54 = .ok (.getfield 18, 3) := by decide +kernel
theorem dX1_layTurn_57 : decode cX1_layTurn 57 = .ok (.aload_n 0, 1) := by decide +kernel
theorem dX1_layTurn_58 : decode cX1_layTurn 58 = .ok (.getfield 28, 3) := by decide +kernel
theorem dX1_layTurn_61 : decode cX1_layTurn 61 = .ok (.aload_n 0, 1) := by decide +kernel
theorem dX1_layTurn_62 : decode cX1_layTurn 62 = .ok (.getfield 9, 3) := by decide +kernel
theorem dX1_layTurn_65 : decode cX1_layTurn 65 = .ok (.aload_n 0, 1) := by decide +kernel
theorem dX1_layTurn_66 : decode cX1_layTurn 66 = .ok (.getfield 28, 3) := by decide +kernel
theorem dX1_layTurn_69 : decode cX1_layTurn 69 = .ok (.iaload, 1) := by decide +kernel
theorem dX1_layTurn_70 : decode cX1_layTurn 70 = .ok (.iastore, 1) := by decide +kernel
theorem dX1_layTurn_71 : decode cX1_layTurn 71 = .ok (.aload_n 0, 1) := by decide +kernel
theorem dX1_layTurn_72 : decode cX1_layTurn 72 = .ok (.getfield 15, 3) := by decide +kernel
theorem dX1_layTurn_75 : decode cX1_layTurn 75 = .ok (.aload_n 0, 1) := by decide +kernel
theorem dX1_layTurn_76 : decode cX1_layTurn 76 = .ok (.getfield 28, 3) := by decide +kernel
theorem dX1_layTurn_79 : decode cX1_layTurn 79 = .ok (.iload_n 2, 1) := by decide +kernel
theorem dX1_layTurn_80 : decode cX1_layTurn 80 = .ok (.iastore, 1) := by decide +kernel
theorem dX1_layTurn_81 : decode cX1_layTurn 81 = .ok (.aload_n 0, 1) := by decide +kernel
theorem dX1_layTurn_82 : decode cX1_layTurn 82 = .ok (.dup, 1) := by decide +kernel
theorem dX1_layTurn_83 : decode cX1_layTurn 83 = .ok (.getfield 28, 3) := by decide +kernel
theorem dX1_layTurn_86 : decode cX1_layTurn 86 = .ok (.iconst 1, 1) := by decide +kernel
theorem dX1_layTurn_87 : decode cX1_layTurn 87 = .ok (.iadd, 1) := by decide +kernel
theorem dX1_layTurn_88 : decode cX1_layTurn 88 = .ok (.putfield 28, 3) := by decide +kernel
theorem dX1_layTurn_91 : decode cX1_layTurn 91 = .ok (.iinc 6 1, 3) := by decide +kernel
theorem dX1_layTurn_94 : decode cX1_layTurn 94 = .ok (.goto (-78), 3) := by decide +kernel
theorem dX1_layTurn_97 : decode cX1_layTurn 97 = .ok (.return_, 1) := by decide +kernel
theorem dX1_wasGivenBy_0 : decode cX1_wasGivenBy 0 = .ok (.iload_n 2, 1) := by decide +kernel
theorem dX1_wasGivenBy_1 : decode cX1_wasGivenBy 1 = .ok (.ifCond .lt 25, 3) := by decide +kernel
theorem dX1_wasGivenBy_4 : decode cX1_wasGivenBy 4 = .ok (.iload_n 2, 1) := by decide +kernel
theorem dX1_wasGivenBy_5 : decode cX1_wasGivenBy 5 = .ok (.aload_n 0, 1) := by decide +kernel
theorem dX1_wasGivenBy_6 : decode cX1_wasGivenBy 6 = .ok (.getfield 28, 3) := by decide +kernel
theorem dX1_wasGivenBy_9 : decode cX1_wasGivenBy 9 = .ok (.if_icmp .ge 17, 3) := by decide +kernel
theorem dX1_wasGivenBy_12 : decode cX1_wasGivenBy 12 = .ok (.aload_n 0, 1) := by decide +kernel
theorem dX1_wasGivenBy_13 : decode cX1_wasGivenBy 13 = .ok (.getfield 15, 3) := by decide +kernel
theorem dX1_wasGivenBy_16 : decode cX1_wasGivenBy 16 = .ok (.iload_n 2, 1) := by decide +kernel
theorem dX1_wasGivenBy_17 : decode cX1_wasGivenBy 17 = .ok (.iaload, 1) := by decide +kernel
theorem dX1_wasGivenBy_18 : decode cX1_wasGivenBy 18 = .ok (.iload_n 1, 1) := by decide +kernel
theorem dX1_wasGivenBy_19 : decode cX1_wasGivenBy 19 = .ok (.if_icmp .ne 7, 3) := by decide +kernel
theorem dX1_wasGivenBy_22 : decode cX1_wasGivenBy 22 = .ok (.iconst 1, 1) := by decide +kernel
theorem dX1_wasGivenBy_23 : decode cX1_wasGivenBy 23 = .ok (.goto 4, 3) := by decide +kernel
theorem dX1_wasGivenBy_26 : decode cX1_wasGivenBy 26 = .ok (.iconst 0, 1) := by decide +kernel
theorem dX1_wasGivenBy_27 : decode cX1_wasGivenBy 27 = .ok (.ireturn, 1) := by decide +kernel
theorem dX1_echoesAt_0 : decode cX1_echoesAt 0 = .ok (.iload_n 1, 1) := by decide +kernel
theorem dX1_echoesAt_1 : decode cX1_echoesAt 1 = .ok (.ifCond .lt 24, 3) := by decide +kernel
theorem dX1_echoesAt_4 : decode cX1_echoesAt 4 = .ok (.iload_n 1, 1) := by decide +kernel
theorem dX1_echoesAt_5 : decode cX1_echoesAt 5 = .ok (.aload_n 0, 1) := by decide +kernel
theorem dX1_echoesAt_6 : decode cX1_echoesAt 6 = .ok (.getfield 28, 3) := by decide +kernel
theorem dX1_echoesAt_9 : decode cX1_echoesAt 9 = .ok (.if_icmp .ge 16, 3) := by decide +kernel
theorem dX1_echoesAt_12 : decode cX1_echoesAt 12 = .ok (.aload_n 0, 1) := by decide +kernel
theorem dX1_echoesAt_13 : decode cX1_echoesAt 13 = .ok (.getfield 24, 3) := by decide +kernel
theorem dX1_echoesAt_16 : decode cX1_echoesAt 16 = .ok (.iload_n 1, 1) := by decide +kernel
theorem dX1_echoesAt_17 : decode cX1_echoesAt 17 = .ok (.baload, 1) := by decide +kernel
theorem dX1_echoesAt_18 : decode cX1_echoesAt 18 = .ok (.ifCond .eq 7, 3) := by decide +kernel
theorem dX1_echoesAt_21 : decode cX1_echoesAt 21 = .ok (.iconst 1, 1) := by decide +kernel
theorem dX1_echoesAt_22 : decode cX1_echoesAt 22 = .ok (.goto 4, 3) := by decide +kernel
theorem dX1_echoesAt_25 : decode cX1_echoesAt 25 = .ok (.iconst 0, 1) := by decide +kernel
theorem dX1_echoesAt_26 : decode cX1_echoesAt 26 = .ok (.ireturn, 1) := by decide +kernel
theorem dX1_restsGiven_0 : decode cX1_restsGiven 0 = .ok (.iconst 0, 1) := by decide +kernel
theorem dX1_restsGiven_1 : decode cX1_restsGiven 1 = .ok (.istore_n 1, 1) := by decide +kernel
theorem dX1_restsGiven_2 : decode cX1_restsGiven 2 = .ok (.iconst 0, 1) := by decide +kernel
theorem dX1_restsGiven_3 : decode cX1_restsGiven 3 = .ok (.istore_n 2, 1) := by decide +kernel
theorem dX1_restsGiven_4 : decode cX1_restsGiven 4 = .ok (.iload_n 2, 1) := by decide +kernel
theorem dX1_restsGiven_5 : decode cX1_restsGiven 5 = .ok (.aload_n 0, 1) := by decide +kernel
theorem dX1_restsGiven_6 : decode cX1_restsGiven 6 = .ok (.getfield 28, 3) := by decide +kernel
theorem dX1_restsGiven_9 : decode cX1_restsGiven 9 = .ok (.if_icmp .ge 28, 3) := by decide +kernel
theorem dX1_restsGiven_12 : decode cX1_restsGiven 12 = .ok (.iload_n 1, 1) := by decide +kernel
theorem dX1_restsGiven_13 : decode cX1_restsGiven 13 = .ok (.aload_n 0, 1) := by decide +kernel
theorem dX1_restsGiven_14 : decode cX1_restsGiven 14 = .ok (.getfield 9, 3) := by decide +kernel
theorem dX1_restsGiven_17 : decode cX1_restsGiven 17 = .ok (.iload_n 2, 1) := by decide +kernel
theorem dX1_restsGiven_18 : decode cX1_restsGiven 18 = .ok (.iaload, 1) := by decide +kernel
theorem dX1_restsGiven_19 : decode cX1_restsGiven 19 = .ok (.ifCond .ne 9, 3) := by decide +kernel
theorem dX1_restsGiven_22 : decode cX1_restsGiven 22 = .ok (.iconst 1, 1) := by decide +kernel
theorem dX1_restsGiven_23 : decode cX1_restsGiven 23 = .ok (.iload_n 2, 1) := by decide +kernel
theorem dX1_restsGiven_24 : decode cX1_restsGiven 24 = .ok (.ishl, 1) := by decide +kernel
theorem dX1_restsGiven_25 : decode cX1_restsGiven 25 = .ok (.goto 4, 3) := by decide +kernel
theorem dX1_restsGiven_28 : decode cX1_restsGiven 28 = .ok (.iconst 0, 1) := by decide +kernel
theorem dX1_restsGiven_29 : decode cX1_restsGiven 29 = .ok (.ior, 1) := by decide +kernel
theorem dX1_restsGiven_30 : decode cX1_restsGiven 30 = .ok (.istore_n 1, 1) := by decide +kernel
theorem dX1_restsGiven_31 : decode cX1_restsGiven 31 = .ok (.iinc 2 1, 3) := by decide +kernel
theorem dX1_restsGiven_34 : decode cX1_restsGiven 34 = .ok (.goto (-30), 3) := by decide +kernel
theorem dX1_restsGiven_37 : decode cX1_restsGiven 37 = .ok (.iload_n 1, 1) := by decide +kernel
theorem dX1_restsGiven_38 : decode cX1_restsGiven 38 = .ok (.ireturn, 1) := by decide +kernel
theorem dX1_hush_0 : decode cX1_hush 0 = .ok (.iconst 0, 1) := by decide +kernel
theorem dX1_hush_1 : decode cX1_hush 1 = .ok (.istore_n 2, 1) := by decide +kernel
theorem dX1_hush_2 : decode cX1_hush 2 = .ok (.iload_n 2, 1) := by decide +kernel
theorem dX1_hush_3 : decode cX1_hush 3 = .ok (.aload_n 0, 1) := by decide +kernel
theorem dX1_hush_4 : decode cX1_hush 4 = .ok (.getfield 28, 3) := by decide +kernel
theorem dX1_hush_7 : decode cX1_hush 7 = .ok (.if_icmp .ge 34, 3) := by decide +kernel
theorem dX1_hush_10 : decode cX1_hush 10 = .ok (.aload_n 0, 1) := by decide +kernel
theorem dX1_hush_11 : decode cX1_hush 11 = .ok (.getfield 18, 3) := by decide +kernel
theorem dX1_hush_14 : decode cX1_hush 14 = .ok (.iload_n 2, 1) := by decide +kernel
theorem dX1_hush_15 : decode cX1_hush 15 = .ok (.iload_n 1, 1) := by decide +kernel
theorem dX1_hush_16 : decode cX1_hush 16 = .ok (.iload_n 2, 1) := by decide +kernel
theorem dX1_hush_17 : decode cX1_hush 17 = .ok (.ishr, 1) := by decide +kernel
theorem dX1_hush_18 : decode cX1_hush 18 = .ok (.iconst 1, 1) := by decide +kernel
theorem dX1_hush_19 : decode cX1_hush 19 = .ok (.iand, 1) := by decide +kernel
theorem dX1_hush_20 : decode cX1_hush 20 = .ok (.iconst 1, 1) := by decide +kernel
theorem dX1_hush_21 : decode cX1_hush 21 = .ok (.if_icmp .ne 7, 3) := by decide +kernel
theorem dX1_hush_24 : decode cX1_hush 24 = .ok (.iconst 0, 1) := by decide +kernel
theorem dX1_hush_25 : decode cX1_hush 25 = .ok (.goto 9, 3) := by decide +kernel
theorem dX1_hush_28 : decode cX1_hush 28 = .ok (.aload_n 0, 1) := by decide +kernel
theorem dX1_hush_29 : decode cX1_hush 29 = .ok (.getfield 9, 3) := by decide +kernel
theorem dX1_hush_32 : decode cX1_hush 32 = .ok (.iload_n 2, 1) := by decide +kernel
theorem dX1_hush_33 : decode cX1_hush 33 = .ok (.iaload, 1) := by decide +kernel
theorem dX1_hush_34 : decode cX1_hush 34 = .ok (.iastore, 1) := by decide +kernel
theorem dX1_hush_35 : decode cX1_hush 35 = .ok (.iinc 2 1, 3) := by decide +kernel
theorem dX1_hush_38 : decode cX1_hush 38 = .ok (.goto (-36), 3) := by decide +kernel
theorem dX1_hush_41 : decode cX1_hush 41 = .ok (.return_, 1) := by decide +kernel
theorem dX1_blow_0 : decode cX1_blow 0 = .ok (.iload_n 1, 1) := by decide +kernel
theorem dX1_blow_1 : decode cX1_blow 1 = .ok (.istore_n 2, 1) := by decide +kernel
theorem dX1_blow_2 : decode cX1_blow 2 = .ok (.iconst 0, 1) := by decide +kernel
theorem dX1_blow_3 : decode cX1_blow 3 = .ok (.istore_n 3, 1) := by decide +kernel
theorem dX1_blow_4 : decode cX1_blow 4 = .ok (.iload_n 3, 1) := by decide +kernel
theorem dX1_blow_5 : decode cX1_blow 5 = .ok (.aload_n 0, 1) := by decide +kernel
theorem dX1_blow_6 : decode cX1_blow 6 = .ok (.getfield 28, 3) := by decide +kernel
theorem dX1_blow_9 : decode cX1_blow 9 = .ok (.if_icmp .ge 44, 3) := by decide +kernel
theorem dX1_blow_12 : decode cX1_blow 12 = .ok (.iload_n 2, 1) := by decide +kernel
theorem dX1_blow_13 : decode cX1_blow 13 = .ok (.ldc 53, 2) := by decide +kernel
theorem dX1_blow_15 : decode cX1_blow 15 = .ok (.imul, 1) := by decide +kernel
theorem dX1_blow_16 : decode cX1_blow 16 = .ok (.sipush 12345, 3) := by decide +kernel
theorem dX1_blow_19 : decode cX1_blow 19 = .ok (.iadd, 1) := by decide +kernel
theorem dX1_blow_20 : decode cX1_blow 20 = .ok (.istore_n 2, 1) := by decide +kernel
theorem dX1_blow_21 : decode cX1_blow 21 = .ok (.aload_n 0, 1) := by decide +kernel
theorem dX1_blow_22 : decode cX1_blow 22 = .ok (.getfield 18, 3) := by decide +kernel
theorem dX1_blow_25 : decode cX1_blow 25 = .ok (.iload_n 3, 1) := by decide +kernel
theorem dX1_blow_26 : decode cX1_blow 26 = .ok (.iload_n 2, 1) := by decide +kernel
theorem dX1_blow_27 : decode cX1_blow 27 = .ok (.bipush 16, 2) := by decide +kernel
theorem dX1_blow_29 : decode cX1_blow 29 = .ok (.iushr, 1) := by decide +kernel
theorem dX1_blow_30 : decode cX1_blow 30 = .ok (.bipush 8, 2) := by decide +kernel
theorem dX1_blow_32 : decode cX1_blow 32 = .ok (.irem, 1) := by decide +kernel
theorem dX1_blow_33 : decode cX1_blow 33 = .ok (.ifCond .ne 7, 3) := by decide +kernel
theorem dX1_blow_36 : decode cX1_blow 36 = .ok (.iconst 0, 1) := by decide +kernel
theorem dX1_blow_37 : decode cX1_blow 37 = .ok (.goto 9, 3) := by decide +kernel
theorem dX1_blow_40 : decode cX1_blow 40 = .ok (.aload_n 0, 1) := by decide +kernel
theorem dX1_blow_41 : decode cX1_blow 41 = .ok (.getfield 9, 3) := by decide +kernel
theorem dX1_blow_44 : decode cX1_blow 44 = .ok (.iload_n 3, 1) := by decide +kernel
theorem dX1_blow_45 : decode cX1_blow 45 = .ok (.iaload, 1) := by decide +kernel
theorem dX1_blow_46 : decode cX1_blow 46 = .ok (.iastore, 1) := by decide +kernel
theorem dX1_blow_47 : decode cX1_blow 47 = .ok (.iinc 3 1, 3) := by decide +kernel
theorem dX1_blow_50 : decode cX1_blow 50 = .ok (.goto (-46), 3) := by decide +kernel
theorem dX1_blow_53 : decode cX1_blow 53 = .ok (.iload_n 2, 1) := by decide +kernel
theorem dX1_blow_54 : decode cX1_blow 54 = .ok (.ireturn, 1) := by decide +kernel
theorem dX1_giveOther_0 : decode cX1_giveOther 0 = .ok (.iload_n 1, 1) := by decide +kernel
theorem dX1_giveOther_1 : decode cX1_giveOther 1 = .ok (.ifCond .lt 27, 3) := by decide +kernel
theorem dX1_giveOther_4 : decode cX1_giveOther 4 = .ok (.iload_n 1, 1) := by decide +kernel
theorem dX1_giveOther_5 : decode cX1_giveOther 5 = .ok (.aload_n 0, 1) := by decide +kernel
theorem dX1_giveOther_6 : decode cX1_giveOther 6 = .ok (.getfield 28, 3) := by decide +kernel
theorem dX1_giveOther_9 : decode cX1_giveOther 9 = .ok (.if_icmp .ge 19, 3) := by decide +kernel
theorem dX1_giveOther_12 : decode cX1_giveOther 12 = .ok (.aload_n 0, 1) := by decide +kernel
theorem dX1_giveOther_13 : decode cX1_giveOther 13 = .ok (.getfield 18, 3) := by decide +kernel
theorem dX1_giveOther_16 : decode cX1_giveOther 16 = .ok (.iload_n 1, 1) := by decide +kernel
theorem dX1_giveOther_17 : decode cX1_giveOther 17 = .ok (.aload_n 0, 1) := by decide +kernel
theorem dX1_giveOther_18 : decode cX1_giveOther 18 = .ok (.getfield 9, 3) := by decide +kernel
theorem dX1_giveOther_21 : decode cX1_giveOther 21 = .ok (.iload_n 1, 1) := by decide +kernel
theorem dX1_giveOther_22 : decode cX1_giveOther 22 = .ok (.iaload, 1) := by decide +kernel
theorem dX1_giveOther_23 : decode cX1_giveOther 23 = .ok (.iload_n 2, 1) := by decide +kernel
theorem dX1_giveOther_24 : decode cX1_giveOther 24 = .ok (.iadd, 1) := by decide +kernel
theorem dX1_giveOther_25 : decode cX1_giveOther 25 = .ok (.iconst 4, 1) := by decide +kernel
theorem dX1_giveOther_26 : decode cX1_giveOther 26 = .ok (.irem, 1) := by decide +kernel
theorem dX1_giveOther_27 : decode cX1_giveOther 27 = .ok (.iastore, 1) := by decide +kernel
theorem dX1_giveOther_28 : decode cX1_giveOther 28 = .ok (.return_, 1) := by decide +kernel
theorem dX1_play_0 : decode cX1_play 0 = .ok (.iconst 0, 1) := by decide +kernel
theorem dX1_play_1 : decode cX1_play 1 = .ok (.istore_n 2, 1) := by decide +kernel
theorem dX1_play_2 : decode cX1_play 2 = .ok (.iload_n 2, 1) := by decide +kernel
theorem dX1_play_3 : decode cX1_play 3 = .ok (.aload_n 0, 1) := by decide +kernel
theorem dX1_play_4 : decode cX1_play 4 = .ok (.getfield 28, 3) := by decide +kernel
theorem dX1_play_7 : decode cX1_play 7 = .ok (.if_icmp .ge 65, 3) := by decide +kernel
theorem dX1_play_10 : decode cX1_play 10 = .ok (.aload_n 1, 1) := by decide +kernel
theorem dX1_play_11 : decode cX1_play 11 = .ok (.getfield 54, 3) := by decide +kernel
theorem dX1_play_14 : decode cX1_play 14 = .ok (.ifCond .le 18, 3) := by decide +kernel
theorem dX1_play_17 : decode cX1_play 17 = .ok (.iload_n 2, 1) := by decide +kernel
theorem dX1_play_18 : decode cX1_play 18 = .ok (.iconst 1, 1) := by decide +kernel
theorem dX1_play_19 : decode cX1_play 19 = .ok (.iadd, 1) := by decide +kernel
theorem dX1_play_20 : decode cX1_play 20 = .ok (.aload_n 1, 1) := by decide +kernel
theorem dX1_play_21 : decode cX1_play 21 = .ok (.getfield 54, 3) := by decide +kernel
theorem dX1_play_24 : decode cX1_play 24 = .ok (.irem, 1) := by decide +kernel
theorem dX1_play_25 : decode cX1_play 25 = .ok (.ifCond .ne 7, 3) := by decide +kernel
theorem dX1_play_28 : decode cX1_play 28 = .ok (.iconst 1, 1) := by decide +kernel
theorem dX1_play_29 : decode cX1_play 29 = .ok (.goto 4, 3) := by decide +kernel
theorem dX1_play_32 : decode cX1_play 32 = .ok (.iconst 0, 1) := by decide +kernel
theorem dX1_play_33 : decode cX1_play 33 = .ok (.istore_n 3, 1) := by decide +kernel
theorem dX1_play_34 : decode cX1_play 34 = .ok (.aload_n 0, 1) := by decide +kernel
theorem dX1_play_35 : decode cX1_play 35 = .ok (.getfield 21, 3) := by decide +kernel
theorem dX1_play_38 : decode cX1_play 38 = .ok (.iload_n 2, 1) := by decide +kernel
theorem dX1_play_39 : decode cX1_play 39 = .ok (.aload_n 1, 1) := by decide +kernel
theorem dX1_play_40 : decode cX1_play 40 = .ok (.getfield 59, 3) := by decide +kernel
theorem dX1_play_43 : decode cX1_play 43 = .ok (.iload_n 3, 1) := by decide +kernel
theorem dX1_play_44 : decode cX1_play 44 = .ok (.ifCond .eq 7, 3) := by decide +kernel
theorem dX1_play_47 : decode cX1_play 47 = .ok (.iconst 0, 1) := by decide +kernel
theorem dX1_play_48 : decode cX1_play 48 = .ok (.goto 9, 3) := by decide +kernel
theorem dX1_play_51 : decode cX1_play 51 = .ok (.aload_n 0, 1) := by decide +kernel
theorem dX1_play_52 : decode cX1_play 52 = .ok (.getfield 18, 3) := by decide +kernel
theorem dX1_play_55 : decode cX1_play 55 = .ok (.iload_n 2, 1) := by decide +kernel
theorem dX1_play_56 : decode cX1_play 56 = .ok (.iaload, 1) := by decide +kernel
theorem dX1_play_57 : decode cX1_play 57 = .ok (.iaload, 1) := by decide +kernel
theorem dX1_play_58 : decode cX1_play 58 = .ok (.iastore, 1) := by decide +kernel
theorem dX1_play_59 : decode cX1_play 59 = .ok (.aload_n 0, 1) := by decide +kernel
theorem dX1_play_60 : decode cX1_play 60 = .ok (.getfield 24, 3) := by decide +kernel
theorem dX1_play_63 : decode cX1_play 63 = .ok (.iload_n 2, 1) := by decide +kernel
theorem dX1_play_64 : decode cX1_play 64 = .ok (.iconst 0, 1) := by decide +kernel
theorem dX1_play_65 : decode cX1_play 65 = .ok (.bastore, 1) := by decide +kernel
theorem dX1_play_66 : decode cX1_play 66 = .ok (.iinc 2 1, 3) := by decide +kernel
theorem dX1_play_69 : decode cX1_play 69 = .ok (.goto (-67), 3) := by decide +kernel
theorem dX1_play_72 : decode cX1_play 72 = .ok (.aload_n 1, 1) := by decide +kernel
theorem dX1_play_73 : decode cX1_play 73 = .ok (.getfield 62, 3) := by decide +kernel
theorem dX1_play_76 : decode cX1_play 76 = .ok (.ifCond .le 11, 3) := by decide +kernel
theorem dX1_play_79 : decode cX1_play 79 = .ok (.aload_n 0, 1) := by decide +kernel
theorem dX1_play_80 : decode cX1_play 80 = .ok (.aload_n 1, 1) := by decide +kernel
theorem dX1_play_81 : decode cX1_play 81 = .ok (.getfield 62, 3) := by decide +kernel
theorem dX1_play_84 : decode cX1_play 84 = .ok (.invokevirtual 65, 3) := by decide +kernel
theorem dX1_play_87 : decode cX1_play 87 = .ok (.return_, 1) := by decide +kernel
theorem dX1_sendEchoes_0 : decode cX1_sendEchoes 0 = .ok (.iconst 0, 1) := by decide +kernel
theorem dX1_sendEchoes_1 : decode cX1_sendEchoes 1 = .ok (.istore_n 2, 1) := by decide +kernel
theorem dX1_sendEchoes_2 : decode cX1_sendEchoes 2 = .ok (.iload_n 2, 1) := by decide +kernel
theorem dX1_sendEchoes_3 : decode cX1_sendEchoes 3 = .ok (.iload_n 1, 1) := by decide +kernel
theorem dX1_sendEchoes_4 : decode cX1_sendEchoes 4 = .ok (.iadd, 1) := by decide +kernel
theorem dX1_sendEchoes_5 : decode cX1_sendEchoes 5 = .ok (.aload_n 0, 1) := by decide +kernel
theorem dX1_sendEchoes_6 : decode cX1_sendEchoes 6 = .ok (.getfield 28, 3) := by decide +kernel
theorem dX1_sendEchoes_9 : decode cX1_sendEchoes 9 = .ok (.if_icmp .ge 48, 3) := by decide +kernel
theorem dX1_sendEchoes_12 : decode cX1_sendEchoes 12 = .ok (.aload_n 0, 1) := by decide +kernel
theorem dX1_sendEchoes_13 : decode cX1_sendEchoes 13 = .ok (.getfield 21, 3) := by decide +kernel
theorem dX1_sendEchoes_16 : decode cX1_sendEchoes 16 = .ok (.iload_n 2, 1) := by decide +kernel
theorem dX1_sendEchoes_17 : decode cX1_sendEchoes 17 = .ok (.iaload, 1) := by decide +kernel
theorem dX1_sendEchoes_18 : decode cX1_sendEchoes 18 = .ok (.iconst 2, 1) := by decide +kernel
theorem dX1_sendEchoes_19 : decode cX1_sendEchoes 19 = .ok (.if_icmp .ne 32, 3) := by decide +kernel
theorem dX1_sendEchoes_22 : decode cX1_sendEchoes 22 = .ok (.aload_n 0, 1) := by decide +kernel
theorem dX1_sendEchoes_23 : decode cX1_sendEchoes 23 = .ok (.getfield 21, 3) := by decide +kernel
theorem dX1_sendEchoes_26 : decode cX1_sendEchoes 26 = .ok (.iload_n 2, 1) := by decide +kernel
theorem dX1_sendEchoes_27 : decode cX1_sendEchoes 27 = .ok (.iload_n 1, 1) := by decide +kernel
theorem dX1_sendEchoes_28 : decode cX1_sendEchoes 28 = .ok (.iadd, 1) := by decide +kernel
theorem dX1_sendEchoes_29 : decode cX1_sendEchoes 29 = .ok (.iaload, 1) := by decide +kernel
theorem dX1_sendEchoes_30 : decode cX1_sendEchoes 30 = .ok (.ifCond .ne 21, 3) := by decide +kernel
theorem dX1_sendEchoes_33 : decode cX1_sendEchoes 33 = .ok (.aload_n 0, 1) := by decide +kernel
theorem dX1_sendEchoes_34 : decode cX1_sendEchoes 34 = .ok (.getfield 21, 3) := by decide +kernel
theorem dX1_sendEchoes_37 : decode cX1_sendEchoes 37 = .ok (.iload_n 2, 1) := by decide +kernel
theorem dX1_sendEchoes_38 : decode cX1_sendEchoes 38 = .ok (.iload_n 1, 1) := by decide +kernel
theorem dX1_sendEchoes_39 : decode cX1_sendEchoes 39 = .ok (.iadd, 1) := by decide +kernel
theorem dX1_sendEchoes_40 : decode cX1_sendEchoes 40 = .ok (.iconst 1, 1) := by decide +kernel
theorem dX1_sendEchoes_41 : decode cX1_sendEchoes 41 = .ok (.iastore, 1) := by decide +kernel
theorem dX1_sendEchoes_42 : decode cX1_sendEchoes 42 = .ok (.aload_n 0, 1) := by decide +kernel
theorem dX1_sendEchoes_43 : decode cX1_sendEchoes 43 = .ok (.getfield 24, 3) := by decide +kernel
theorem dX1_sendEchoes_46 : decode cX1_sendEchoes 46 = .ok (.iload_n 2, 1) := by decide +kernel
theorem dX1_sendEchoes_47 : decode cX1_sendEchoes 47 = .ok (.iload_n 1, 1) := by decide +kernel
theorem dX1_sendEchoes_48 : decode cX1_sendEchoes 48 = .ok (.iadd, 1) := by decide +kernel
theorem dX1_sendEchoes_49 : decode cX1_sendEchoes 49 = .ok (.iconst 1, 1) := by decide +kernel
theorem dX1_sendEchoes_50 : decode cX1_sendEchoes 50 = .ok (.bastore, 1) := by decide +kernel
theorem dX1_sendEchoes_51 : decode cX1_sendEchoes 51 = .ok (.iinc 2 1, 3) := by decide +kernel
theorem dX1_sendEchoes_54 : decode cX1_sendEchoes 54 = .ok (.goto (-52), 3) := by decide +kernel
theorem dX1_sendEchoes_57 : decode cX1_sendEchoes 57 = .ok (.return_, 1) := by decide +kernel
theorem dX1_period_0 : decode cX1_period 0 = .ok (.iconst 1, 1) := by decide +kernel
theorem dX1_period_1 : decode cX1_period 1 = .ok (.istore_n 1, 1) := by decide +kernel
theorem dX1_period_2 : decode cX1_period 2 = .ok (.iload_n 1, 1) := by decide +kernel
theorem dX1_period_3 : decode cX1_period 3 = .ok (.aload_n 0, 1) := by decide +kernel
theorem dX1_period_4 : decode cX1_period 4 = .ok (.getfield 28, 3) := by decide +kernel
theorem dX1_period_7 : decode cX1_period 7 = .ok (.if_icmp .ge 19, 3) := by decide +kernel
theorem dX1_period_10 : decode cX1_period 10 = .ok (.aload_n 0, 1) := by decide +kernel
theorem dX1_period_11 : decode cX1_period 11 = .ok (.iload_n 1, 1) := by decide +kernel
theorem dX1_period_12 : decode cX1_period 12 = .ok (.invokevirtual 69, 3) := by decide +kernel
theorem dX1_period_15 : decode cX1_period 15 = .ok (.ifCond .eq 5, 3) := by decide +kernel
theorem dX1_period_18 : decode cX1_period 18 = .ok (.iload_n 1, 1) := by decide +kernel
theorem dX1_period_19 : decode cX1_period 19 = .ok (.ireturn, 1) := by decide +kernel
theorem dX1_period_20 : decode cX1_period 20 = .ok (.iinc 1 1, 3) := by decide +kernel
theorem dX1_period_23 : decode cX1_period 23 = .ok (.goto (-21), 3) := by decide +kernel
theorem dX1_period_26 : decode cX1_period 26 = .ok (.aload_n 0, 1) := by decide +kernel
theorem dX1_period_27 : decode cX1_period 27 = .ok (.getfield 28, 3) := by decide +kernel
theorem dX1_period_30 : decode cX1_period 30 = .ok (.ireturn, 1) := by decide +kernel
theorem dX1_repeatsAfter_0 : decode cX1_repeatsAfter 0 = .ok (.iconst 0, 1) := by decide +kernel
theorem dX1_repeatsAfter_1 : decode cX1_repeatsAfter 1 = .ok (.istore_n 2, 1) := by decide +kernel
theorem dX1_repeatsAfter_2 : decode cX1_repeatsAfter 2 = .ok (.iload_n 2, 1) := by decide +kernel
theorem dX1_repeatsAfter_3 : decode cX1_repeatsAfter 3 = .ok (.iload_n 1, 1) := by decide +kernel
theorem dX1_repeatsAfter_4 : decode cX1_repeatsAfter 4 = .ok (.iadd, 1) := by decide +kernel
theorem dX1_repeatsAfter_5 : decode cX1_repeatsAfter 5 = .ok (.aload_n 0, 1) := by decide +kernel
theorem dX1_repeatsAfter_6 : decode cX1_repeatsAfter 6 = .ok (.getfield 28, 3) := by decide +kernel
theorem dX1_repeatsAfter_9 : decode cX1_repeatsAfter 9 = .ok (.if_icmp .ge 28, 3) := by decide +kernel
theorem dX1_repeatsAfter_12 : decode cX1_repeatsAfter 12 = .ok (.aload_n 0, 1) := by decide +kernel
theorem dX1_repeatsAfter_13 : decode cX1_repeatsAfter 13 = .ok (.getfield 21, 3) := by decide +kernel
theorem dX1_repeatsAfter_16 : decode cX1_repeatsAfter 16 = .ok (.iload_n 2, 1) := by decide +kernel
theorem dX1_repeatsAfter_17 : decode cX1_repeatsAfter 17 = .ok (.iaload, 1) := by decide +kernel
theorem dX1_repeatsAfter_18 : decode cX1_repeatsAfter 18 = .ok (.aload_n 0, 1) := by decide +kernel
theorem dX1_repeatsAfter_19 : decode cX1_repeatsAfter 19 = .ok (.getfield 21, 3) := by decide +kernel
theorem dX1_repeatsAfter_22 : decode cX1_repeatsAfter 22 = .ok (.iload_n 2, 1) := by decide +kernel
theorem dX1_repeatsAfter_23 : decode cX1_repeatsAfter 23 = .ok (.iload_n 1, 1) := by decide +kernel
theorem dX1_repeatsAfter_24 : decode cX1_repeatsAfter 24 = .ok (.iadd, 1) := by decide +kernel
theorem dX1_repeatsAfter_25 : decode cX1_repeatsAfter 25 = .ok (.iaload, 1) := by decide +kernel
theorem dX1_repeatsAfter_26 : decode cX1_repeatsAfter 26 = .ok (.if_icmp .eq 5, 3) := by decide +kernel
theorem dX1_repeatsAfter_29 : decode cX1_repeatsAfter 29 = .ok (.iconst 0, 1) := by decide +kernel
theorem dX1_repeatsAfter_30 : decode cX1_repeatsAfter 30 = .ok (.ireturn, 1) := by decide +kernel
theorem dX1_repeatsAfter_31 : decode cX1_repeatsAfter 31 = .ok (.iinc 2 1, 3) := by decide +kernel
theorem dX1_repeatsAfter_34 : decode cX1_repeatsAfter 34 = .ok (.goto (-32), 3) := by decide +kernel
theorem dX1_repeatsAfter_37 : decode cX1_repeatsAfter 37 = .ok (.iconst 1, 1) := by decide +kernel
theorem dX1_repeatsAfter_38 : decode cX1_repeatsAfter 38 = .ok (.ireturn, 1) := by decide +kernel
theorem dX2_init_0 : decode cX2_init 0 = .ok (.aload_n 0, 1) := by decide +kernel
theorem dX2_init_1 : decode cX2_init 1 = .ok (.invokespecial 3, 3) := by decide +kernel
theorem dX2_init_4 : decode cX2_init 4 = .ok (.aload_n 0, 1) := by decide +kernel
theorem dX2_init_5 : decode cX2_init 5 = .ok (.bipush 24, 2) := by decide +kernel
theorem dX2_init_7 : decode cX2_init 7 = .ok (.newarray .int, 2) := by decide +kernel
theorem dX2_init_9 : decode cX2_init 9 = .ok (.putfield 9, 3) := by decide +kernel
theorem dX2_init_12 : decode cX2_init 12 = .ok (.aload_n 0, 1) := by decide +kernel
theorem dX2_init_13 : decode cX2_init 13 = .ok (.iconst 0, 1) := by decide +kernel
theorem dX2_init_14 : decode cX2_init 14 = .ok (.putfield 15, 3) := by decide +kernel
theorem dX2_init_17 : decode cX2_init 17 = .ok (.aload_n 0, 1) := by decide +kernel
theorem dX2_init_18 : decode cX2_init 18 = .ok (.bipush 24, 2) := by decide +kernel
theorem dX2_init_20 : decode cX2_init 20 = .ok (.newarray .int, 2) := by decide +kernel
theorem dX2_init_22 : decode cX2_init 22 = .ok (.putfield 19, 3) := by decide +kernel
theorem dX2_init_25 : decode cX2_init 25 = .ok (.aload_n 0, 1) := by decide +kernel
theorem dX2_init_26 : decode cX2_init 26 = .ok (.bipush 24, 2) := by decide +kernel
theorem dX2_init_28 : decode cX2_init 28 = .ok (.newarray .int, 2) := by decide +kernel
theorem dX2_init_30 : decode cX2_init 30 = .ok (.putfield 22, 3) := by decide +kernel
theorem dX2_init_33 : decode cX2_init 33 = .ok (.aload_n 0, 1) := by decide +kernel
theorem dX2_init_34 : decode cX2_init 34 = .ok (.bipush 24, 2) := by decide +kernel
theorem dX2_init_36 : decode cX2_init 36 = .ok (.newarray .int, 2) := by decide +kernel
theorem dX2_init_38 : decode cX2_init 38 = .ok (.putfield 25, 3) := by decide +kernel
theorem dX2_init_41 : decode cX2_init 41 = .ok (.aload_n 0, 1) := by decide +kernel
theorem dX2_init_42 : decode cX2_init 42 = .ok (.bipush 24, 2) := by decide +kernel
theorem dX2_init_44 : decode cX2_init 44 = .ok (.newarray .int, 2) := by decide +kernel
theorem dX2_init_46 : decode cX2_init 46 = .ok (.putfield 28, 3) := by decide +kernel
theorem dX2_init_49 : decode cX2_init 49 = .ok (.aload_n 0, 1) := by decide +kernel
theorem dX2_init_50 : decode cX2_init 50 = .ok (.iconst 0, 1) := by decide +kernel
theorem dX2_init_51 : decode cX2_init 51 = .ok (.putfield 31, 3) := by decide +kernel
theorem dX2_init_54 : decode cX2_init 54 = .ok (.aload_n 0, 1) := by decide +kernel
theorem dX2_init_55 : decode cX2_init 55 = .ok (.iconst 0, 1) := by decide +kernel
theorem dX2_init_56 : decode cX2_init 56 = .ok (.putfield 34, 3) := by decide +kernel
theorem dX2_init_59 : decode cX2_init 59 = .ok (.aload_n 0, 1) := by decide +kernel
theorem dX2_init_60 : decode cX2_init 60 = .ok (.iconst 0, 1) := by decide +kernel
theorem dX2_init_61 : decode cX2_init 61 = .ok (.putfield 37, 3) := by decide +kernel
theorem dX2_init_64 : decode cX2_init 64 = .ok (.aload_n 0, 1) := by decide +kernel
theorem dX2_init_65 : decode cX2_init 65 = .ok (.iconst 1, 1) := by decide +kernel
theorem dX2_init_66 : decode cX2_init 66 = .ok (.putfield 40, 3) := by decide +kernel
theorem dX2_init_69 : decode cX2_init 69 = .ok (.return_, 1) := by decide +kernel
theorem dX2_listen_0 : decode cX2_listen 0 = .ok (.aload_n 0, 1) := by decide +kernel
theorem dX2_listen_1 : decode cX2_listen 1 = .ok (.aload_n 1, 1) := by decide +kernel
theorem dX2_listen_2 : decode cX2_listen 2 = .ok (.getfield 43, 3) := by decide +kernel
theorem dX2_listen_5 : decode cX2_listen 5 = .ok (.iload_n 2, 1) := by decide +kernel
theorem dX2_listen_6 : decode cX2_listen 6 = .ok (.iaload, 1) := by decide +kernel
theorem dX2_listen_7 : decode cX2_listen 7 = .ok (.putfield 37, 3) := by decide +kernel
theorem dX2_listen_10 : decode cX2_listen 10 = .ok (.aload_n 0, 1) := by decide +kernel
theorem dX2_listen_11 : decode cX2_listen 11 = .ok (.iconst 1, 1) := by decide +kernel
theorem dX2_listen_12 : decode cX2_listen 12 = .ok (.aload_n 1, 1) := by decide +kernel
theorem dX2_listen_13 : decode cX2_listen 13 = .ok (.getfield 47, 3) := by decide +kernel
theorem dX2_listen_16 : decode cX2_listen 16 = .ok (.iload_n 2, 1) := by decide +kernel
theorem dX2_listen_17 : decode cX2_listen 17 = .ok (.iaload, 1) := by decide +kernel
theorem dX2_listen_18 : decode cX2_listen 18 = .ok (.invokestatic 49, 3) := by decide +kernel
theorem dX2_listen_21 : decode cX2_listen 21 = .ok (.putfield 40, 3) := by decide +kernel
theorem dX2_listen_24 : decode cX2_listen 24 = .ok (.aload_n 0, 1) := by decide +kernel
theorem dX2_listen_25 : decode cX2_listen 25 = .ok (.iconst 0, 1) := by decide +kernel
theorem dX2_listen_26 : decode cX2_listen 26 = .ok (.putfield 15, 3) := by decide +kernel
theorem dX2_listen_29 : decode cX2_listen 29 = .ok (.aload_n 0, 1) := by decide +kernel
theorem dX2_listen_30 : decode cX2_listen 30 = .ok (.getfield 37, 3) := by decide +kernel
theorem dX2_listen_33 : decode cX2_listen 33 = .ok (.istore 4, 2) := by decide +kernel
theorem dX2_listen_35 : decode cX2_listen 35 = .ok (.iload 4, 2) := by decide +kernel
theorem dX2_listen_37 : decode cX2_listen 37 = .ok (.aload_n 3, 1) := by decide +kernel
theorem dX2_listen_38 : decode cX2_listen 38 = .ok (.getfield 55, 3) := by decide +kernel
theorem dX2_listen_41 : decode cX2_listen 41 = .ok (.if_icmp .ge 50, 3) := by decide +kernel
theorem dX2_listen_44 : decode cX2_listen 44 = .ok (.aload_n 0, 1) := by decide +kernel
theorem dX2_listen_45 : decode cX2_listen 45 = .ok (.getfield 15, 3) := by decide +kernel
theorem dX2_listen_48 : decode cX2_listen 48 = .ok (.bipush 24, 2) := by decide +kernel
theorem dX2_listen_50 : decode cX2_listen 50 = .ok (.if_icmp .ge 41, 3) := by decide +kernel
theorem dX2_listen_53 : decode cX2_listen 53 = .ok (.aload_n 0, 1) := by decide +kernel
theorem dX2_listen_54 : decode cX2_listen 54 = .ok (.getfield 9, 3) := by decide +kernel
theorem dX2_listen_57 : decode cX2_listen 57 = .ok (.aload_n 0, 1) := by decide +kernel
theorem dX2_listen_58 : decode cX2_listen 58 = .ok (.getfield 15, 3) := by decide +kernel
theorem dX2_listen_61 : decode cX2_listen 61 = .ok (.aload_n 3, 1) := by decide +kernel
theorem dX2_listen_62 : decode cX2_listen 62 = .ok (.getfield 60, 3) := by decide +kernel
theorem dX2_listen_65 : decode cX2_listen 65 = .ok (.iload 4, 2) := by decide +kernel
theorem dX2_listen_67 : decode cX2_listen 67 = .ok (.iaload, 1) := by decide +kernel
theorem dX2_listen_68 : decode cX2_listen 68 = .ok (.iastore, 1) := by decide +kernel
theorem dX2_listen_69 : decode cX2_listen 69 = .ok (.aload_n 0, 1) := by decide +kernel
theorem dX2_listen_70 : decode cX2_listen 70 = .ok (.dup, 1) := by decide +kernel
theorem dX2_listen_71 : decode cX2_listen 71 = .ok (.getfield 15, 3) := by decide +kernel
theorem dX2_listen_74 : decode cX2_listen 74 = .ok (.iconst 1, 1) := by decide +kernel
theorem dX2_listen_75 : decode cX2_listen 75 = .ok (.iadd, 1) := by decide +kernel
theorem dX2_listen_76 : decode cX2_listen 76 = .ok (.putfield 15, 3) := by decide +kernel
theorem dX2_listen_79 : decode cX2_listen 79 = .ok (.iload 4, 2) := by decide +kernel
theorem dX2_listen_81 : decode cX2_listen 81 = .ok (.aload_n 0, 1) := by decide +kernel
theorem dX2_listen_82 : decode cX2_listen 82 = .ok (.getfield 40, 3) := by decide +kernel
theorem dX2_listen_85 : decode cX2_listen 85 = .ok (.iadd, 1) := by decide +kernel
theorem dX2_listen_86 : decode cX2_listen 86 = .ok (.istore 4, 2) := by decide +kernel
theorem dX2_listen_88 : decode cX2_listen 88 = .ok (.goto (-53), 3) := by decide +kernel
theorem dX2_listen_91 : decode cX2_listen 91 = .ok (.aload_n 0, 1) := by decide +kernel
theorem dX2_listen_92 : decode cX2_listen 92 = .ok (.iconst 0, 1) := by decide +kernel
theorem dX2_listen_93 : decode cX2_listen 93 = .ok (.putfield 31, 3) := by decide +kernel
theorem dX2_listen_96 : decode cX2_listen 96 = .ok (.aload_n 0, 1) := by decide +kernel
theorem dX2_listen_97 : decode cX2_listen 97 = .ok (.iconst 0, 1) := by decide +kernel
theorem dX2_listen_98 : decode cX2_listen 98 = .ok (.putfield 34, 3) := by decide +kernel
theorem dX2_listen_101 : decode cX2_listen 101 = .ok (.iconst 0, 1) := by decide +kernel
theorem dX2_listen_102 : decode cX2_listen 102 = .ok (.istore 4, 2) := by decide +kernel
theorem dX2_listen_104 : decode cX2_listen 104 = .ok (.iload 4, 2) := by decide +kernel
theorem dX2_listen_106 : decode cX2_listen 106 = .ok (.aload_n 0, 1) := by decide +kernel
theorem dX2_listen_107 : decode cX2_listen 107 = .ok (.getfield 15, 3) := by decide +kernel
theorem dX2_listen_110 : decode cX2_listen 110 = .ok (.if_icmp .ge 126, 3) := by decide +kernel
theorem dX2_listen_113 : decode cX2_listen 113 = .ok (.aload_n 0, 1) := by decide +kernel
theorem dX2_listen_114 : decode cX2_listen 114 = .ok (.aload_n 1, 1) := by decide +kernel
theorem dX2_listen_115 : decode cX2_listen 115 = .ok (.iload_n 2, 1) := by decide +kernel
theorem dX2_listen_116 : decode cX2_listen 116 = .ok (.iload 4, 2) := by decide +kernel
theorem dX2_listen_118 : decode cX2_listen 118 = .ok (.invokevirtual 63, 3) := by decide +kernel
theorem dX2_listen_121 : decode cX2_listen 121 = .ok (.istore 5, 2) := by decide +kernel
theorem dX2_listen_123 : decode cX2_listen 123 = .ok (.iload 5, 2) := by decide +kernel
theorem dX2_listen_125 : decode cX2_listen 125 = .ok (.iconst (-1), 1) := by decide +kernel
theorem dX2_listen_126 : decode cX2_listen 126 = .ok (.if_icmp .ne 19, 3) := by decide +kernel
theorem dX2_listen_129 : decode cX2_listen 129 = .ok (.aload_n 0, 1) := by decide +kernel
theorem dX2_listen_130 : decode cX2_listen 130 = .ok (.dup, 1) := by decide +kernel
theorem dX2_listen_131 : decode cX2_listen 131 = .ok (.getfield 34, 3) := by decide +kernel
theorem dX2_listen_134 : decode cX2_listen 134 = .ok (.iconst 1, 1) := by decide +kernel
theorem dX2_listen_135 : decode cX2_listen 135 = .ok (.iadd, 1) := by decide +kernel
theorem dX2_listen_136 : decode cX2_listen 136 = .ok (.putfield 34, 3) := by decide +kernel
theorem dX2_listen_139 : decode cX2_listen 139 = .ok (.iinc 4 1, 3) := by decide +kernel
theorem dX2_listen_142 : decode cX2_listen 142 = .ok (.goto 91, 3) := by decide +kernel
theorem dX2_listen_145 : decode cX2_listen 145 = .ok (.iload_n 2, 1) := by decide +kernel
theorem dX2_listen_146 : decode cX2_listen 146 = .ok (.iload 5, 2) := by decide +kernel
theorem dX2_listen_148 : decode cX2_listen 148 = .ok (.invokestatic 67, 3) := by decide +kernel
theorem dX2_listen_151 : decode cX2_listen 151 = .ok (.istore 6, 2) := by decide +kernel
theorem dX2_listen_153 : decode cX2_listen 153 = .ok (.aload_n 0, 1) := by decide +kernel
theorem dX2_listen_154 : decode cX2_listen 154 = .ok (.getfield 19, 3) := by decide +kernel
theorem dX2_listen_157 : decode cX2_listen 157 = .ok (.aload_n 0, 1) := by decide +kernel
theorem dX2_listen_158 : decode cX2_listen 158 = .ok (.getfield 31, 3) := by decide +kernel
theorem dX2_listen_161 : decode cX2_listen 161 = .ok (.aload_n 1, 1) := by decide +kernel
theorem dX2_listen_162 : decode cX2_listen 162 = .ok (.getfield 70, 3) := by decide +kernel
theorem dX2_listen_165 : decode cX2_listen 165 = .ok (.iload 6, 2) := by decide +kernel
theorem dX2_listen_167 : decode cX2_listen 167 = .ok (.iaload, 1) := by decide +kernel
theorem dX2_listen_168 : decode cX2_listen 168 = .ok (.iastore, 1) := by decide +kernel
theorem dX2_listen_169 : decode cX2_listen 169 = .ok (.aload_n 0, 1) := by decide +kernel
theorem dX2_listen_170 : decode cX2_listen 170 = .ok (.getfield 22, 3) := by decide +kernel
theorem dX2_listen_173 : decode cX2_listen 173 = .ok (.aload_n 0, 1) := by decide +kernel
theorem dX2_listen_174 : decode cX2_listen 174 = .ok (.getfield 31, 3) := by decide +kernel
theorem dX2_listen_177 : decode cX2_listen 177 = .ok (.iload 5, 2) := by decide +kernel
theorem dX2_listen_179 : decode cX2_listen 179 = .ok (.iastore, 1) := by decide +kernel
theorem dX2_listen_180 : decode cX2_listen 180 = .ok (.aload_n 0, 1) := by decide +kernel
theorem dX2_listen_181 : decode cX2_listen 181 = .ok (.getfield 25, 3) := by decide +kernel
theorem dX2_listen_184 : decode cX2_listen 184 = .ok (.aload_n 0, 1) := by decide +kernel
theorem dX2_listen_185 : decode cX2_listen 185 = .ok (.getfield 31, 3) := by decide +kernel
theorem dX2_listen_188 : decode cX2_listen 188 = .ok (.iload 4, 2) := by decide +kernel
theorem dX2_listen_190 : decode cX2_listen 190 = .ok (.iastore, 1) := by decide +kernel
theorem dX2_listen_191 : decode cX2_listen 191 = .ok (.aload_n 0, 1) := by decide +kernel
theorem dX2_listen_192 : decode cX2_listen 192 = .ok (.getfield 28, 3) := by decide +kernel
theorem dX2_listen_195 : decode cX2_listen 195 = .ok (.aload_n 0, 1) := by decide +kernel
theorem dX2_listen_196 : decode cX2_listen 196 = .ok (.getfield 31, 3) := by decide +kernel
theorem dX2_listen_199 : decode cX2_listen 199 = .ok (.aload_n 1, 1) := by decide +kernel
theorem dX2_listen_200 : decode cX2_listen 200 = .ok (.getfield 71, 3) := by decide +kernel
theorem dX2_listen_203 : decode cX2_listen 203 = .ok (.iload 6, 2) := by decide +kernel
theorem dX2_listen_205 : decode cX2_listen 205 = .ok (.iaload, 1) := by decide +kernel
theorem dX2_listen_206 : decode cX2_listen 206 = .ok (.iastore, 1) := by decide +kernel
theorem dX2_listen_207 : decode cX2_listen 207 = .ok (.iload 4, 2) := by decide +kernel
theorem dX2_listen_209 : decode cX2_listen 209 = .ok (.iconst 1, 1) := by decide +kernel
theorem dX2_listen_210 : decode cX2_listen 210 = .ok (.aload_n 1, 1) := by decide +kernel
theorem dX2_listen_211 : decode cX2_listen 211 = .ok (.getfield 71, 3) := by decide +kernel
theorem dX2_listen_214 : decode cX2_listen 214 = .ok (.iload 6, 2) := by decide +kernel
theorem dX2_listen_216 : decode cX2_listen 216 = .ok (.iaload, 1) := by decide +kernel
theorem dX2_listen_217 : decode cX2_listen 217 = .ok (.invokestatic 49, 3) := by decide +kernel
theorem dX2_listen_220 : decode cX2_listen 220 = .ok (.iadd, 1) := by decide +kernel
theorem dX2_listen_221 : decode cX2_listen 221 = .ok (.istore 4, 2) := by decide +kernel
theorem dX2_listen_223 : decode cX2_listen 223 = .ok (.aload_n 0, 1) := by decide +kernel
theorem dX2_listen_224 : decode cX2_listen 224 = .ok (.dup, 1) := by decide +kernel
theorem dX2_listen_225 : decode cX2_listen 225 = .ok (.getfield 31, 3) := by decide +kernel
theorem dX2_listen_228 : decode cX2_listen 228 = .ok (.iconst 1, 1) := by decide +kernel
theorem dX2_listen_229 : decode cX2_listen 229 = .ok (.iadd, 1) := by decide +kernel
theorem dX2_listen_230 : decode cX2_listen 230 = .ok (.putfield 31, 3) := by decide +kernel
theorem dX2_listen_233 : decode cX2_listen 233 = .ok (.goto (-129), 3) := by decide +kernel
theorem dX2_listen_236 : decode cX2_listen 236 = .ok (.return_, 1) := by decide +kernel
theorem dX2_longestOrder_0 : decode cX2_longestOrder 0 = .ok (.iconst (-1), 1) := by decide +kernel
theorem dX2_longestOrder_1 : decode cX2_longestOrder 1 = .ok (.istore 4, 2) := by decide +kernel
theorem dX2_longestOrder_3 : decode cX2_longestOrder 3 = .ok (.iconst 0, 1) := by decide +kernel
theorem dX2_longestOrder_4 : decode cX2_longestOrder 4 = .ok (.istore 5, 2) := by decide +kernel
theorem dX2_longestOrder_6 : decode cX2_longestOrder 6 = .ok (.iconst 0, 1) := by decide +kernel
theorem dX2_longestOrder_7 : decode cX2_longestOrder 7 = .ok (.istore 6, 2) := by decide +kernel
theorem dX2_longestOrder_9 : decode cX2_longestOrder 9 = .ok (.iload 6, 2) := by decide +kernel
theorem dX2_longestOrder_11 : decode cX2_longestOrder 11 = .ok (.aload_n 1, 1) := by decide +kernel
theorem dX2_longestOrder_12 : decode cX2_longestOrder 12 = .ok (.getfield 72, 3) := by decide +kernel
theorem dX2_longestOrder_15 : decode cX2_longestOrder 15 = .ok (.iload_n 2, 1) := by decide +kernel
theorem dX2_longestOrder_16 : decode cX2_longestOrder 16 = .ok (.iaload, 1) := by decide +kernel
theorem dX2_longestOrder_17 : decode cX2_longestOrder 17 = .ok (.if_icmp .ge 53, 3) := by decide +kernel
theorem dX2_longestOrder_20 : decode cX2_longestOrder 20 = .ok (.iload_n 2, 1) := by decide +kernel
theorem dX2_longestOrder_21 : decode cX2_longestOrder 21 = .ok (.iload 6, 2) := by decide +kernel
theorem dX2_longestOrder_23 : decode cX2_longestOrder 23 = .ok (.invokestatic 67, 3) := by decide +kernel
theorem dX2_longestOrder_26 : decode cX2_longestOrder 26 = .ok (.istore 7, 2) := by decide +kernel
theorem dX2_longestOrder_28 : decode cX2_longestOrder 28 = .ok (.aload_n 1, 1) := by decide +kernel
theorem dX2_longestOrder_29 : decode cX2_longestOrder 29 = .ok (.getfield 71, 3) := by decide +kernel
theorem dX2_longestOrder_32 : decode cX2_longestOrder 32 = .ok (.iload 7, 2) := by decide +kernel
theorem dX2_longestOrder_34 : decode cX2_longestOrder 34 = .ok (.iaload, 1) := by decide +kernel
theorem dX2_longestOrder_35 : decode cX2_longestOrder 35 = .ok (.iload 5, 2) := by decide +kernel
theorem dX2_longestOrder_37 : decode cX2_longestOrder 37 = .ok (.if_icmp .le 27, 3) := by decide +kernel
theorem dX2_longestOrder_40 : decode cX2_longestOrder 40 = .ok (.aload_n 0, 1) := by decide +kernel
theorem dX2_longestOrder_41 : decode cX2_longestOrder 41 = .ok (.aload_n 1, 1) := by decide +kernel
theorem dX2_longestOrder_42 : decode cX2_longestOrder 42 = .ok (.iload 7, 2) := by decide +kernel
theorem dX2_longestOrder_44 : decode cX2_longestOrder 44 = .ok (.iload_n 3, 1) := by decide +kernel
theorem dX2_longestOrder_45 : decode cX2_longestOrder 45 = .ok (.invokevirtual 75, 3) := by decide +kernel
theorem dX2_longestOrder_48 : decode cX2_longestOrder 48 = .ok (.ifCond .eq 16, 3) := by decide +kernel
theorem dX2_longestOrder_51 : decode cX2_longestOrder 51 = .ok (.iload 6, 2) := by decide +kernel
theorem dX2_longestOrder_53 : decode cX2_longestOrder 53 = .ok (.istore 4, 2) := by decide +kernel
theorem dX2_longestOrder_55 : decode cX2_longestOrder 55 = .ok (.aload_n 1, 1) := by decide +kernel
theorem dX2_longestOrder_56 : decode cX2_longestOrder 56 = .ok (.getfield 71, 3) := by decide +kernel
theorem dX2_longestOrder_59 : decode cX2_longestOrder 59 = .ok (.iload 7, 2) := by decide +kernel
theorem dX2_longestOrder_61 : decode cX2_longestOrder 61 = .ok (.iaload, 1) := by decide +kernel
theorem dX2_longestOrder_62 : decode cX2_longestOrder 62 = .ok (.istore 5, 2) := by decide +kernel
theorem dX2_longestOrder_64 : decode cX2_longestOrder 64 = .ok (.iinc 6 1, 3) := by decide +kernel
theorem dX2_longestOrder_67 : decode cX2_longestOrder 67 = .ok (.goto (-58), 3) := by decide +kernel
theorem dX2_longestOrder_70 : decode cX2_longestOrder 70 = .ok (.iload 4, 2) := by decide +kernel
theorem dX2_longestOrder_72 : decode cX2_longestOrder 72 = .ok (.ireturn, 1) := by decide +kernel
theorem dX2_hears_0 : decode cX2_hears 0 = .ok (.aload_n 1, 1) := by decide +kernel
theorem dX2_hears_1 : decode cX2_hears 1 = .ok (.getfield 71, 3) := by decide +kernel
theorem dX2_hears_4 : decode cX2_hears 4 = .ok (.iload_n 2, 1) := by decide +kernel
theorem dX2_hears_5 : decode cX2_hears 5 = .ok (.iaload, 1) := by decide +kernel
theorem dX2_hears_6 : decode cX2_hears 6 = .ok (.istore 4, 2) := by decide +kernel
theorem dX2_hears_8 : decode cX2_hears 8 = .ok (.iload_n 3, 1) := by decide +kernel
theorem dX2_hears_9 : decode cX2_hears 9 = .ok (.iload 4, 2) := by decide +kernel
theorem dX2_hears_11 : decode cX2_hears 11 = .ok (.iadd, 1) := by decide +kernel
theorem dX2_hears_12 : decode cX2_hears 12 = .ok (.aload_n 0, 1) := by decide +kernel
theorem dX2_hears_13 : decode cX2_hears 13 = .ok (.getfield 15, 3) := by decide +kernel
theorem dX2_hears_16 : decode cX2_hears 16 = .ok (.if_icmp .le 5, 3) := by decide +kernel
theorem dX2_hears_19 : decode cX2_hears 19 = .ok (.iconst 0, 1) := by decide +kernel
theorem dX2_hears_20 : decode cX2_hears 20 = .ok (.ireturn, 1) := by decide +kernel
theorem dX2_hears_21 : decode cX2_hears 21 = .ok (.iconst 0, 1) := by decide +kernel
theorem dX2_hears_22 : decode cX2_hears 22 = .ok (.istore 5, 2) := by decide +kernel
theorem dX2_hears_24 : decode cX2_hears 24 = .ok (.iload 5, 2) := by decide +kernel
theorem dX2_hears_26 : decode cX2_hears 26 = .ok (.iload 4, 2) := by decide +kernel
theorem dX2_hears_28 : decode cX2_hears 28 = .ok (.if_icmp .ge 34, 3) := by decide +kernel
theorem dX2_hears_31 : decode cX2_hears 31 = .ok (.aload_n 0, 1) := by decide +kernel
theorem dX2_hears_32 : decode cX2_hears 32 = .ok (.getfield 9, 3) := by decide +kernel
theorem dX2_hears_35 : decode cX2_hears 35 = .ok (.iload_n 3, 1) := by decide +kernel
theorem dX2_hears_36 : decode cX2_hears 36 = .ok (.iload 5, 2) := by decide +kernel
theorem dX2_hears_38 : decode cX2_hears 38 = .ok (.iadd, 1) := by decide +kernel
theorem dX2_hears_39 : decode cX2_hears 39 = .ok (.iaload, 1) := by decide +kernel
theorem dX2_hears_40 : decode cX2_hears 40 = .ok (.aload_n 1, 1) := by decide +kernel
theorem dX2_hears_41 : decode cX2_hears 41 = .ok (.getfield 79, 3) := by decide +kernel
theorem dX2_hears_44 : decode cX2_hears 44 = .ok (.iload_n 2, 1) := by decide +kernel
theorem dX2_hears_45 : decode cX2_hears 45 = .ok (.iconst 4, 1) := by decide +kernel
theorem dX2_hears_46 : decode cX2_hears 46 = .ok (.imul, 1) := by decide +kernel
theorem dX2_hears_47 : decode cX2_hears 47 = .ok (.iload 5, 2) := by decide +kernel
theorem dX2_hears_49 : decode cX2_hears 49 = .ok (.iadd, 1) := by decide +kernel
theorem dX2_hears_50 : decode cX2_hears 50 = .ok (.iaload, 1) := by decide +kernel
theorem dX2_hears_51 : decode cX2_hears 51 = .ok (.if_icmp .eq 5, 3) := by decide +kernel
theorem dX2_hears_54 : decode cX2_hears 54 = .ok (.iconst 0, 1) := by decide +kernel
theorem dX2_hears_55 : decode cX2_hears 55 = .ok (.ireturn, 1) := by decide +kernel
theorem dX2_hears_56 : decode cX2_hears 56 = .ok (.iinc 5 1, 3) := by decide +kernel
theorem dX2_hears_59 : decode cX2_hears 59 = .ok (.goto (-35), 3) := by decide +kernel
theorem dX2_hears_62 : decode cX2_hears 62 = .ok (.iconst 1, 1) := by decide +kernel
theorem dX2_hears_63 : decode cX2_hears 63 = .ok (.ireturn, 1) := by decide +kernel
theorem dX2_placeOf_0 : decode cX2_placeOf 0 = .ok (.aload_n 0, 1) := by decide +kernel
theorem dX2_placeOf_1 : decode cX2_placeOf 1 = .ok (.getfield 37, 3) := by decide +kernel
theorem dX2_placeOf_4 : decode cX2_placeOf 4 = .ok (.iload_n 1, 1) := by decide +kernel
theorem dX2_placeOf_5 : decode cX2_placeOf 5 = .ok (.aload_n 0, 1) := by decide +kernel
theorem dX2_placeOf_6 : decode cX2_placeOf 6 = .ok (.getfield 40, 3) := by decide +kernel
theorem dX2_placeOf_9 : decode cX2_placeOf 9 = .ok (.imul, 1) := by decide +kernel
theorem dX2_placeOf_10 : decode cX2_placeOf 10 = .ok (.iadd, 1) := by decide +kernel
theorem dX2_placeOf_11 : decode cX2_placeOf 11 = .ok (.ireturn, 1) := by decide +kernel
theorem dX2_foreignness_0 : decode cX2_foreignness 0 = .ok (.iconst 0, 1) := by decide +kernel
theorem dX2_foreignness_1 : decode cX2_foreignness 1 = .ok (.istore 4, 2) := by decide +kernel
theorem dX2_foreignness_3 : decode cX2_foreignness 3 = .ok (.iconst 0, 1) := by decide +kernel
theorem dX2_foreignness_4 : decode cX2_foreignness 4 = .ok (.istore 5, 2) := by decide +kernel
theorem dX2_foreignness_6 : decode cX2_foreignness 6 = .ok (.iload 5, 2) := by decide +kernel
theorem dX2_foreignness_8 : decode cX2_foreignness 8 = .ok (.aload_n 0, 1) := by decide +kernel
theorem dX2_foreignness_9 : decode cX2_foreignness 9 = .ok (.getfield 28, 3) := by decide +kernel
theorem dX2_foreignness_12 : decode cX2_foreignness 12 = .ok (.iload_n 1, 1) := by decide +kernel
theorem dX2_foreignness_13 : decode cX2_foreignness 13 = .ok (.iaload, 1) := by decide +kernel
theorem dX2_foreignness_14 : decode cX2_foreignness 14 = .ok (.if_icmp .ge 40, 3) := by decide +kernel
theorem dX2_foreignness_17 : decode cX2_foreignness 17 = .ok (.iload 4, 2) := by decide +kernel
theorem dX2_foreignness_19 : decode cX2_foreignness 19 = .ok (.aload_n 3, 1) := by decide +kernel
theorem dX2_foreignness_20 : decode cX2_foreignness 20 = .ok (.iload_n 2, 1) := by decide +kernel
theorem dX2_foreignness_21 : decode cX2_foreignness 21 = .ok (.aload_n 0, 1) := by decide +kernel
theorem dX2_foreignness_22 : decode cX2_foreignness 22 = .ok (.aload_n 0, 1) := by decide +kernel
theorem dX2_foreignness_23 : decode cX2_foreignness 23 = .ok (.getfield 25, 3) := by decide +kernel
theorem dX2_foreignness_26 : decode cX2_foreignness 26 = .ok (.iload_n 1, 1) := by decide +kernel
theorem dX2_foreignness_27 : decode cX2_foreignness 27 = .ok (.iaload, 1) := by decide +kernel
theorem dX2_foreignness_28 : decode cX2_foreignness 28 = .ok (.iload 5, 2) := by decide +kernel
theorem dX2_foreignness_30 : decode cX2_foreignness 30 = .ok (.iadd, 1) := by decide +kernel
theorem dX2_foreignness_31 : decode cX2_foreignness 31 = .ok (.invokevirtual 80, 3) := by decide +kernel
theorem dX2_foreignness_34 : decode cX2_foreignness 34 = .ok (.invokevirtual 84, 3) := by decide +kernel
theorem dX2_foreignness_37 : decode cX2_foreignness 37 = .ok (.ifCond .eq 7, 3) := by decide +kernel
theorem dX2_foreignness_40 : decode cX2_foreignness 40 = .ok (.iconst 1, 1) := by decide +kernel
theorem dX2_foreignness_41 : decode cX2_foreignness 41 = .ok (.goto 4, 3) := by decide +kernel
theorem dX2_foreignness_44 : decode cX2_foreignness 44 = .ok (.iconst 0, 1) := by decide +kernel
theorem dX2_foreignness_45 : decode cX2_foreignness 45 = .ok (.iadd, 1) := by decide +kernel
theorem dX2_foreignness_46 : decode cX2_foreignness 46 = .ok (.istore 4, 2) := by decide +kernel
theorem dX2_foreignness_48 : decode cX2_foreignness 48 = .ok (.iinc 5 1, 3) := by decide +kernel
theorem dX2_foreignness_51 : decode cX2_foreignness 51 = .ok (.goto (-45), 3) := by decide +kernel
theorem dX2_foreignness_54 : decode cX2_foreignness 54 = .ok (.iload 4, 2) := by decide +kernel
theorem dX2_foreignness_56 : decode cX2_foreignness 56 = .ok (.aload_n 0, 1) := by decide +kernel
theorem dX2_foreignness_57 : decode cX2_foreignness 57 = .ok (.getfield 28, 3) := by decide +kernel
theorem dX2_foreignness_60 : decode cX2_foreignness 60 = .ok (.iload_n 1, 1) := by decide +kernel
theorem dX2_foreignness_61 : decode cX2_foreignness 61 = .ok (.iaload, 1) := by decide +kernel
theorem dX2_foreignness_62 : decode cX2_foreignness 62 = .ok (.if_icmp .ne 5, 3) := by decide +kernel
theorem dX2_foreignness_65 : decode cX2_foreignness 65 = .ok (.iconst 0, 1) := by decide +kernel
theorem dX2_foreignness_66 : decode cX2_foreignness 66 = .ok (.ireturn, 1) := by decide +kernel
theorem dX2_foreignness_67 : decode cX2_foreignness 67 = .ok (.iload 4, 2) := by decide +kernel
theorem dX2_foreignness_69 : decode cX2_foreignness 69 = .ok (.ifCond .ne 7, 3) := by decide +kernel
theorem dX2_foreignness_72 : decode cX2_foreignness 72 = .ok (.iconst 2, 1) := by decide +kernel
theorem dX2_foreignness_73 : decode cX2_foreignness 73 = .ok (.goto 4, 3) := by decide +kernel
theorem dX2_foreignness_76 : decode cX2_foreignness 76 = .ok (.iconst 1, 1) := by decide +kernel
theorem dX2_foreignness_77 : decode cX2_foreignness 77 = .ok (.ireturn, 1) := by decide +kernel
theorem dX2_echoedMoves_0 : decode cX2_echoedMoves 0 = .ok (.iconst 0, 1) := by decide +kernel
theorem dX2_echoedMoves_1 : decode cX2_echoedMoves 1 = .ok (.istore_n 2, 1) := by decide +kernel
theorem dX2_echoedMoves_2 : decode cX2_echoedMoves 2 = .ok (.iconst 0, 1) := by decide +kernel
theorem dX2_echoedMoves_3 : decode cX2_echoedMoves 3 = .ok (.istore_n 3, 1) := by decide +kernel
theorem dX2_echoedMoves_4 : decode cX2_echoedMoves 4 = .ok (.iload_n 3, 1) := by decide +kernel
theorem dX2_echoedMoves_5 : decode cX2_echoedMoves 5 = .ok (.aload_n 0, 1) := by decide +kernel
theorem dX2_echoedMoves_6 : decode cX2_echoedMoves 6 = .ok (.getfield 31, 3) := by decide +kernel
theorem dX2_echoedMoves_9 : decode cX2_echoedMoves 9 = .ok (.if_icmp .ge 67, 3) := by decide +kernel
theorem dX2_echoedMoves_12 : decode cX2_echoedMoves 12 = .ok (.iconst 0, 1) := by decide +kernel
theorem dX2_echoedMoves_13 : decode cX2_echoedMoves 13 = .ok (.istore 4, 2) := by decide +kernel
theorem dX2_echoedMoves_15 : decode cX2_echoedMoves 15 = .ok (.iconst 0, 1) := by decide +kernel
theorem dX2_echoedMoves_16 : decode cX2_echoedMoves 16 = .ok (.istore 5, 2) := by decide +kernel
theorem dX2_echoedMoves_18 : decode cX2_echoedMoves 18 = .ok (.iload 5, 2) := by decide +kernel
theorem dX2_echoedMoves_20 : decode cX2_echoedMoves 20 = .ok (.aload_n 0, 1) := by decide +kernel
theorem dX2_echoedMoves_21 : decode cX2_echoedMoves 21 = .ok (.getfield 28, 3) := by decide +kernel
theorem dX2_echoedMoves_24 : decode cX2_echoedMoves 24 = .ok (.iload_n 3, 1) := by decide +kernel
theorem dX2_echoedMoves_25 : decode cX2_echoedMoves 25 = .ok (.iaload, 1) := by decide +kernel
theorem dX2_echoedMoves_26 : decode cX2_echoedMoves 26 = .ok (.if_icmp .ge 31, 3) := by decide +kernel
theorem dX2_echoedMoves_29 : decode cX2_echoedMoves 29 = .ok (.iload 4, 2) := by decide +kernel
theorem dX2_echoedMoves_31 : decode cX2_echoedMoves 31 = .ok (.aload_n 1, 1) := by decide +kernel
theorem dX2_echoedMoves_32 : decode cX2_echoedMoves 32 = .ok (.aload_n 0, 1) := by decide +kernel
theorem dX2_echoedMoves_33 : decode cX2_echoedMoves 33 = .ok (.aload_n 0, 1) := by decide +kernel
theorem dX2_echoedMoves_34 : decode cX2_echoedMoves 34 = .ok (.getfield 25, 3) := by decide +kernel
theorem dX2_echoedMoves_37 : decode cX2_echoedMoves 37 = .ok (.iload_n 3, 1) := by decide +kernel
theorem dX2_echoedMoves_38 : decode cX2_echoedMoves 38 = .ok (.iaload, 1) := by decide +kernel
theorem dX2_echoedMoves_39 : decode cX2_echoedMoves 39 = .ok (.iload 5, 2) := by decide +kernel
theorem dX2_echoedMoves_41 : decode cX2_echoedMoves 41 = .ok (.iadd, 1) := by decide +kernel
theorem dX2_echoedMoves_42 : decode cX2_echoedMoves 42 = .ok (.invokevirtual 80, 3) := by decide +kernel
theorem dX2_echoedMoves_45 : decode cX2_echoedMoves 45 = .ok (.invokevirtual 88, 3) := by decide +kernel
theorem dX2_echoedMoves_48 : decode cX2_echoedMoves 48 = .ok (.ior, 1) := by decide +kernel
theorem dX2_echoedMoves_49 : decode cX2_echoedMoves 49 = .ok (.istore 4, 2) := by decide +kernel
theorem dX2_echoedMoves_51 : decode cX2_echoedMoves 51 = .ok (.iinc 5 1, 3) := by decide +kernel
theorem dX2_echoedMoves_54 : decode cX2_echoedMoves 54 = .ok (.goto (-36), 3) := by decide +kernel
theorem dX2_echoedMoves_57 : decode cX2_echoedMoves 57 = .ok (.iload_n 2, 1) := by decide +kernel
theorem dX2_echoedMoves_58 : decode cX2_echoedMoves 58 = .ok (.iload 4, 2) := by decide +kernel
theorem dX2_echoedMoves_60 : decode cX2_echoedMoves 60 = .ok (.ifCond .eq 7, 3) := by decide +kernel
theorem dX2_echoedMoves_63 : decode cX2_echoedMoves 63 = .ok (.iconst 1, 1) := by decide +kernel
theorem dX2_echoedMoves_64 : decode cX2_echoedMoves 64 = .ok (.goto 4, 3) := by decide +kernel
theorem dX2_echoedMoves_67 : decode cX2_echoedMoves 67 = .ok (.iconst 0, 1) := by decide +kernel
theorem dX2_echoedMoves_68 : decode cX2_echoedMoves 68 = .ok (.iadd, 1) := by decide +kernel
theorem dX2_echoedMoves_69 : decode cX2_echoedMoves 69 = .ok (.istore_n 2, 1) := by decide +kernel
theorem dX2_echoedMoves_70 : decode cX2_echoedMoves 70 = .ok (.iinc 3 1, 3) := by decide +kernel
theorem dX2_echoedMoves_73 : decode cX2_echoedMoves 73 = .ok (.goto (-69), 3) := by decide +kernel
theorem dX2_echoedMoves_76 : decode cX2_echoedMoves 76 = .ok (.iload_n 2, 1) := by decide +kernel
theorem dX2_echoedMoves_77 : decode cX2_echoedMoves 77 = .ok (.ireturn, 1) := by decide +kernel
theorem dX2_hasMade_0 : decode cX2_hasMade 0 = .ok (.iconst 0, 1) := by decide +kernel
theorem dX2_hasMade_1 : decode cX2_hasMade 1 = .ok (.istore_n 2, 1) := by decide +kernel
theorem dX2_hasMade_2 : decode cX2_hasMade 2 = .ok (.iload_n 2, 1) := by decide +kernel
theorem dX2_hasMade_3 : decode cX2_hasMade 3 = .ok (.aload_n 0, 1) := by decide +kernel
theorem dX2_hasMade_4 : decode cX2_hasMade 4 = .ok (.getfield 31, 3) := by decide +kernel
theorem dX2_hasMade_7 : decode cX2_hasMade 7 = .ok (.if_icmp .ge 21, 3) := by decide +kernel
theorem dX2_hasMade_10 : decode cX2_hasMade 10 = .ok (.aload_n 0, 1) := by decide +kernel
theorem dX2_hasMade_11 : decode cX2_hasMade 11 = .ok (.getfield 19, 3) := by decide +kernel
theorem dX2_hasMade_14 : decode cX2_hasMade 14 = .ok (.iload_n 2, 1) := by decide +kernel
theorem dX2_hasMade_15 : decode cX2_hasMade 15 = .ok (.iaload, 1) := by decide +kernel
theorem dX2_hasMade_16 : decode cX2_hasMade 16 = .ok (.iload_n 1, 1) := by decide +kernel
theorem dX2_hasMade_17 : decode cX2_hasMade 17 = .ok (.if_icmp .ne 5, 3) := by decide +kernel
theorem dX2_hasMade_20 : decode cX2_hasMade 20 = .ok (.iconst 1, 1) := by decide +kernel
theorem dX2_hasMade_21 : decode cX2_hasMade 21 = .ok (.ireturn, 1) := by decide +kernel
theorem dX2_hasMade_22 : decode cX2_hasMade 22 = .ok (.iinc 2 1, 3) := by decide +kernel
theorem dX2_hasMade_25 : decode cX2_hasMade 25 = .ok (.goto (-23), 3) := by decide +kernel
theorem dX2_hasMade_28 : decode cX2_hasMade 28 = .ok (.iconst 0, 1) := by decide +kernel
theorem dX2_hasMade_29 : decode cX2_hasMade 29 = .ok (.ireturn, 1) := by decide +kernel
theorem dX2_madeAsTold_0 : decode cX2_madeAsTold 0 = .ok (.aload_n 0, 1) := by decide +kernel
theorem dX2_madeAsTold_1 : decode cX2_madeAsTold 1 = .ok (.getfield 31, 3) := by decide +kernel
theorem dX2_madeAsTold_4 : decode cX2_madeAsTold 4 = .ok (.aload_n 1, 1) := by decide +kernel
theorem dX2_madeAsTold_5 : decode cX2_madeAsTold 5 = .ok (.getfield 92, 3) := by decide +kernel
theorem dX2_madeAsTold_8 : decode cX2_madeAsTold 8 = .ok (.iload_n 2, 1) := by decide +kernel
theorem dX2_madeAsTold_9 : decode cX2_madeAsTold 9 = .ok (.iaload, 1) := by decide +kernel
theorem dX2_madeAsTold_10 : decode cX2_madeAsTold 10 = .ok (.if_icmp .eq 5, 3) := by decide +kernel
theorem dX2_madeAsTold_13 : decode cX2_madeAsTold 13 = .ok (.iconst 0, 1) := by decide +kernel
theorem dX2_madeAsTold_14 : decode cX2_madeAsTold 14 = .ok (.ireturn, 1) := by decide +kernel
theorem dX2_madeAsTold_15 : decode cX2_madeAsTold 15 = .ok (.iconst 0, 1) := by decide +kernel
theorem dX2_madeAsTold_16 : decode cX2_madeAsTold 16 = .ok (.istore_n 3, 1) := by decide +kernel
theorem dX2_madeAsTold_17 : decode cX2_madeAsTold 17 = .ok (.iload_n 3, 1) := by decide +kernel
theorem dX2_madeAsTold_18 : decode cX2_madeAsTold 18 = .ok (.aload_n 0, 1) := by decide +kernel
theorem dX2_madeAsTold_19 : decode cX2_madeAsTold 19 = .ok (.getfield 31, 3) := by decide +kernel
theorem dX2_madeAsTold_22 : decode cX2_madeAsTold 22 = .ok (.if_icmp .ge 31, 3) := by decide +kernel
theorem dX2_madeAsTold_25 : decode cX2_madeAsTold 25 = .ok (.aload_n 0, 1) := by decide +kernel
theorem dX2_madeAsTold_26 : decode cX2_madeAsTold 26 = .ok (.getfield 19, 3) := by decide +kernel
theorem dX2_madeAsTold_29 : decode cX2_madeAsTold 29 = .ok (.iload_n 3, 1) := by decide +kernel
theorem dX2_madeAsTold_30 : decode cX2_madeAsTold 30 = .ok (.iaload, 1) := by decide +kernel
theorem dX2_madeAsTold_31 : decode cX2_madeAsTold 31 = .ok (.aload_n 1, 1) := by decide +kernel
theorem dX2_madeAsTold_32 : decode cX2_madeAsTold 32 = .ok (.getfield 97, 3) := by decide +kernel
theorem dX2_madeAsTold_35 : decode cX2_madeAsTold 35 = .ok (.iload_n 2, 1) := by decide +kernel
theorem dX2_madeAsTold_36 : decode cX2_madeAsTold 36 = .ok (.bipush 6, 2) := by decide +kernel
theorem dX2_madeAsTold_38 : decode cX2_madeAsTold 38 = .ok (.imul, 1) := by decide +kernel
theorem dX2_madeAsTold_39 : decode cX2_madeAsTold 39 = .ok (.iload_n 3, 1) := by decide +kernel
theorem dX2_madeAsTold_40 : decode cX2_madeAsTold 40 = .ok (.iadd, 1) := by decide +kernel
theorem dX2_madeAsTold_41 : decode cX2_madeAsTold 41 = .ok (.iaload, 1) := by decide +kernel
theorem dX2_madeAsTold_42 : decode cX2_madeAsTold 42 = .ok (.if_icmp .eq 5, 3) := by decide +kernel
theorem dX2_madeAsTold_45 : decode cX2_madeAsTold 45 = .ok (.iconst 0, 1) := by decide +kernel
theorem dX2_madeAsTold_46 : decode cX2_madeAsTold 46 = .ok (.ireturn, 1) := by decide +kernel
theorem dX2_madeAsTold_47 : decode cX2_madeAsTold 47 = .ok (.iinc 3 1, 3) := by decide +kernel
theorem dX2_madeAsTold_50 : decode cX2_madeAsTold 50 = .ok (.goto (-33), 3) := by decide +kernel
theorem dX2_madeAsTold_53 : decode cX2_madeAsTold 53 = .ok (.iconst 1, 1) := by decide +kernel
theorem dX2_madeAsTold_54 : decode cX2_madeAsTold 54 = .ok (.ireturn, 1) := by decide +kernel
theorem dX2_madeTheSame_0 : decode cX2_madeTheSame 0 = .ok (.aload_n 0, 1) := by decide +kernel
theorem dX2_madeTheSame_1 : decode cX2_madeTheSame 1 = .ok (.getfield 31, 3) := by decide +kernel
theorem dX2_madeTheSame_4 : decode cX2_madeTheSame 4 = .ok (.aload_n 1, 1) := by decide +kernel
theorem dX2_madeTheSame_5 : decode cX2_madeTheSame 5 = .ok (.getfield 31, 3) := by decide +kernel
theorem dX2_madeTheSame_8 : decode cX2_madeTheSame 8 = .ok (.if_icmp .eq 5, 3) := by decide +kernel
theorem dX2_madeTheSame_11 : decode cX2_madeTheSame 11 = .ok (.iconst 0, 1) := by decide +kernel
theorem dX2_madeTheSame_12 : decode cX2_madeTheSame 12 = .ok (.ireturn, 1) := by decide +kernel
theorem dX2_madeTheSame_13 : decode cX2_madeTheSame 13 = .ok (.iconst 0, 1) := by decide +kernel
theorem dX2_madeTheSame_14 : decode cX2_madeTheSame 14 = .ok (.istore_n 2, 1) := by decide +kernel
theorem dX2_madeTheSame_15 : decode cX2_madeTheSame 15 = .ok (.iload_n 2, 1) := by decide +kernel
theorem dX2_madeTheSame_16 : decode cX2_madeTheSame 16 = .ok (.aload_n 0, 1) := by decide +kernel
theorem dX2_madeTheSame_17 : decode cX2_madeTheSame 17 = .ok (.getfield 31, 3) := by decide +kernel
theorem dX2_madeTheSame_20 : decode cX2_madeTheSame 20 = .ok (.if_icmp .ge 26, 3) := by decide +kernel
theorem dX2_madeTheSame_23 : decode cX2_madeTheSame 23 = .ok (.aload_n 0, 1) := by decide +kernel
theorem dX2_madeTheSame_24 : decode cX2_madeTheSame 24 = .ok (.getfield 19, 3) := by decide +kernel
theorem dX2_madeTheSame_27 : decode cX2_madeTheSame 27 = .ok (.iload_n 2, 1) := by decide +kernel
theorem dX2_madeTheSame_28 : decode cX2_madeTheSame 28 = .ok (.iaload, 1) := by decide +kernel
theorem dX2_madeTheSame_29 : decode cX2_madeTheSame 29 = .ok (.aload_n 1, 1) := by decide +kernel
theorem dX2_madeTheSame_30 : decode cX2_madeTheSame 30 = .ok (.getfield 19, 3) := by decide +kernel
theorem dX2_madeTheSame_33 : decode cX2_madeTheSame 33 = .ok (.iload_n 2, 1) := by decide +kernel
theorem dX2_madeTheSame_34 : decode cX2_madeTheSame 34 = .ok (.iaload, 1) := by decide +kernel
theorem dX2_madeTheSame_35 : decode cX2_madeTheSame 35 = .ok (.if_icmp .eq 5, 3) := by decide +kernel
theorem dX2_madeTheSame_38 : decode cX2_madeTheSame 38 = .ok (.iconst 0, 1) := by decide +kernel
theorem dX2_madeTheSame_39 : decode cX2_madeTheSame 39 = .ok (.ireturn, 1) := by decide +kernel
theorem dX2_madeTheSame_40 : decode cX2_madeTheSame 40 = .ok (.iinc 2 1, 3) := by decide +kernel
theorem dX2_madeTheSame_43 : decode cX2_madeTheSame 43 = .ok (.goto (-28), 3) := by decide +kernel
theorem dX2_madeTheSame_46 : decode cX2_madeTheSame 46 = .ok (.iconst 1, 1) := by decide +kernel
theorem dX2_madeTheSame_47 : decode cX2_madeTheSame 47 = .ok (.ireturn, 1) := by decide +kernel
theorem dX2_alikeFrom_0 : decode cX2_alikeFrom 0 = .ok (.aload_n 0, 1) := by decide +kernel
theorem dX2_alikeFrom_1 : decode cX2_alikeFrom 1 = .ok (.getfield 15, 3) := by decide +kernel
theorem dX2_alikeFrom_4 : decode cX2_alikeFrom 4 = .ok (.iload_n 1, 1) := by decide +kernel
theorem dX2_alikeFrom_5 : decode cX2_alikeFrom 5 = .ok (.isub, 1) := by decide +kernel
theorem dX2_alikeFrom_6 : decode cX2_alikeFrom 6 = .ok (.aload_n 2, 1) := by decide +kernel
theorem dX2_alikeFrom_7 : decode cX2_alikeFrom 7 = .ok (.getfield 15, 3) := by decide +kernel
theorem dX2_alikeFrom_10 : decode cX2_alikeFrom 10 = .ok (.iload_n 3, 1) := by decide +kernel
theorem dX2_alikeFrom_11 : decode cX2_alikeFrom 11 = .ok (.isub, 1) := by decide +kernel
theorem dX2_alikeFrom_12 : decode cX2_alikeFrom 12 = .ok (.invokestatic 98, 3) := by decide +kernel
theorem dX2_alikeFrom_15 : decode cX2_alikeFrom 15 = .ok (.istore 4, 2) := by decide +kernel
theorem dX2_alikeFrom_17 : decode cX2_alikeFrom 17 = .ok (.iconst 0, 1) := by decide +kernel
theorem dX2_alikeFrom_18 : decode cX2_alikeFrom 18 = .ok (.istore 5, 2) := by decide +kernel
theorem dX2_alikeFrom_20 : decode cX2_alikeFrom 20 = .ok (.iload 5, 2) := by decide +kernel
theorem dX2_alikeFrom_22 : decode cX2_alikeFrom 22 = .ok (.iload 4, 2) := by decide +kernel
theorem dX2_alikeFrom_24 : decode cX2_alikeFrom 24 = .ok (.if_icmp .ge 30, 3) := by decide +kernel
theorem dX2_alikeFrom_27 : decode cX2_alikeFrom 27 = .ok (.aload_n 0, 1) := by decide +kernel
theorem dX2_alikeFrom_28 : decode cX2_alikeFrom 28 = .ok (.getfield 9, 3) := by decide +kernel
theorem dX2_alikeFrom_31 : decode cX2_alikeFrom 31 = .ok (.iload_n 1, 1) := by decide +kernel
theorem dX2_alikeFrom_32 : decode cX2_alikeFrom 32 = .ok (.iload 5, 2) := by decide +kernel
theorem dX2_alikeFrom_34 : decode cX2_alikeFrom 34 = .ok (.iadd, 1) := by decide +kernel
theorem dX2_alikeFrom_35 : decode cX2_alikeFrom 35 = .ok (.iaload, 1) := by decide +kernel
theorem dX2_alikeFrom_36 : decode cX2_alikeFrom 36 = .ok (.aload_n 2, 1) := by decide +kernel
theorem dX2_alikeFrom_37 : decode cX2_alikeFrom 37 = .ok (.getfield 9, 3) := by decide +kernel
theorem dX2_alikeFrom_40 : decode cX2_alikeFrom 40 = .ok (.iload_n 3, 1) := by decide +kernel
theorem dX2_alikeFrom_41 : decode cX2_alikeFrom 41 = .ok (.iload 5, 2) := by decide +kernel
theorem dX2_alikeFrom_43 : decode cX2_alikeFrom 43 = .ok (.iadd, 1) := by decide +kernel
theorem dX2_alikeFrom_44 : decode cX2_alikeFrom 44 = .ok (.iaload, 1) := by decide +kernel
theorem dX2_alikeFrom_45 : decode cX2_alikeFrom 45 = .ok (.if_icmp .ne 9, 3) := by decide +kernel
theorem dX2_alikeFrom_48 : decode cX2_alikeFrom 48 = .ok (.iinc 5 1, 3) := by decide +kernel
theorem dX2_alikeFrom_51 : decode cX2_alikeFrom 51 = .ok (.goto (-31), 3) := by decide +kernel
theorem dX2_alikeFrom_54 : decode cX2_alikeFrom 54 = .ok (.iload 5, 2) := by decide +kernel
theorem dX2_alikeFrom_56 : decode cX2_alikeFrom 56 = .ok (.ireturn, 1) := by decide +kernel
theorem dX3_init_0 : decode cX3_init 0 = .ok (.aload_n 0, 1) := by decide +kernel
theorem dX3_init_1 : decode cX3_init 1 = .ok (.invokespecial 3, 3) := by decide +kernel
theorem dX3_init_4 : decode cX3_init 4 = .ok (.aload_n 0, 1) := by decide +kernel
theorem dX3_init_5 : decode cX3_init 5 = .ok (.bipush 25, 2) := by decide +kernel
theorem dX3_init_7 : decode cX3_init 7 = .ok (.newarray .int, 2) := by decide +kernel
theorem dX3_init_9 : decode cX3_init 9 = .ok (.putfield 9, 3) := by decide +kernel
theorem dX3_init_12 : decode cX3_init 12 = .ok (.aload_n 0, 1) := by decide +kernel
theorem dX3_init_13 : decode cX3_init 13 = .ok (.bipush 25, 2) := by decide +kernel
theorem dX3_init_15 : decode cX3_init 15 = .ok (.newarray .int, 2) := by decide +kernel
theorem dX3_init_17 : decode cX3_init 17 = .ok (.putfield 15, 3) := by decide +kernel
theorem dX3_init_20 : decode cX3_init 20 = .ok (.aload_n 0, 1) := by decide +kernel
theorem dX3_init_21 : decode cX3_init 21 = .ok (.iconst (-1), 1) := by decide +kernel
theorem dX3_init_22 : decode cX3_init 22 = .ok (.putfield 18, 3) := by decide +kernel
theorem dX3_init_25 : decode cX3_init 25 = .ok (.return_, 1) := by decide +kernel
theorem dX3_walk_0 : decode cX3_walk 0 = .ok (.aload_n 0, 1) := by decide +kernel
theorem dX3_walk_1 : decode cX3_walk 1 = .ok (.getfield 9, 3) := by decide +kernel
theorem dX3_walk_4 : decode cX3_walk 4 = .ok (.iconst 0, 1) := by decide +kernel
theorem dX3_walk_5 : decode cX3_walk 5 = .ok (.aload_n 1, 1) := by decide +kernel
theorem dX3_walk_6 : decode cX3_walk 6 = .ok (.getfield 22, 3) := by decide +kernel
theorem dX3_walk_9 : decode cX3_walk 9 = .ok (.iconst 0, 1) := by decide +kernel
theorem dX3_walk_10 : decode cX3_walk 10 = .ok (.iaload, 1) := by decide +kernel
theorem dX3_walk_11 : decode cX3_walk 11 = .ok (.iastore, 1) := by decide +kernel
theorem dX3_walk_12 : decode cX3_walk 12 = .ok (.aload_n 0, 1) := by decide +kernel
theorem dX3_walk_13 : decode cX3_walk 13 = .ok (.getfield 15, 3) := by decide +kernel
theorem dX3_walk_16 : decode cX3_walk 16 = .ok (.iconst 0, 1) := by decide +kernel
theorem dX3_walk_17 : decode cX3_walk 17 = .ok (.aload_n 1, 1) := by decide +kernel
theorem dX3_walk_18 : decode cX3_walk 18 = .ok (.getfield 22, 3) := by decide +kernel
theorem dX3_walk_21 : decode cX3_walk 21 = .ok (.iconst 1, 1) := by decide +kernel
theorem dX3_walk_22 : decode cX3_walk 22 = .ok (.iaload, 1) := by decide +kernel
theorem dX3_walk_23 : decode cX3_walk 23 = .ok (.iastore, 1) := by decide +kernel
theorem dX3_walk_24 : decode cX3_walk 24 = .ok (.aload_n 0, 1) := by decide +kernel
theorem dX3_walk_25 : decode cX3_walk 25 = .ok (.aload_n 0, 1) := by decide +kernel
theorem dX3_walk_26 : decode cX3_walk 26 = .ok (.getfield 9, 3) := by decide +kernel
theorem dX3_walk_29 : decode cX3_walk 29 = .ok (.iconst 0, 1) := by decide +kernel
theorem dX3_walk_30 : decode cX3_walk 30 = .ok (.iaload, 1) := by decide +kernel
theorem dX3_walk_31 : decode cX3_walk 31 = .ok (.aload_n 0, 1) := by decide +kernel
theorem dX3_walk_32 : decode cX3_walk 32 = .ok (.getfield 15, 3) := by decide +kernel
theorem dX3_walk_35 : decode cX3_walk 35 = .ok (.iconst 0, 1) := by decide +kernel
theorem dX3_walk_36 : decode cX3_walk 36 = .ok (.iaload, 1) := by decide +kernel
theorem dX3_walk_37 : decode cX3_walk 37 = .ok (.if_icmp .ne 7, 3) := by decide +kernel
theorem dX3_walk_40 : decode cX3_walk 40 = .ok (.iconst 0, 1) := by decide +kernel
theorem dX3_walk_41 : decode cX3_walk 41 = .ok (.goto 4, 3) := by decide +kernel
theorem dX3_walk_44 : decode cX3_walk 44 = .ok (.iconst (-1), 1) := by decide +kernel
theorem dX3_walk_45 : decode cX3_walk 45 = .ok (.putfield 18, 3) := by decide +kernel
theorem dX3_walk_48 : decode cX3_walk 48 = .ok (.iconst 1, 1) := by decide +kernel
theorem dX3_walk_49 : decode cX3_walk 49 = .ok (.istore 4, 2) := by decide +kernel
theorem dX3_walk_51 : decode cX3_walk 51 = .ok (.iload 4, 2) := by decide +kernel
theorem dX3_walk_53 : decode cX3_walk 53 = .ok (.bipush 24, 2) := by decide +kernel
theorem dX3_walk_55 : decode cX3_walk 55 = .ok (.if_icmp .gt 175, 3) := by decide +kernel
theorem dX3_walk_58 : decode cX3_walk 58 = .ok (.aload_n 0, 1) := by decide +kernel
theorem dX3_walk_59 : decode cX3_walk 59 = .ok (.getfield 15, 3) := by decide +kernel
theorem dX3_walk_62 : decode cX3_walk 62 = .ok (.iload 4, 2) := by decide +kernel
theorem dX3_walk_64 : decode cX3_walk 64 = .ok (.iconst 1, 1) := by decide +kernel
theorem dX3_walk_65 : decode cX3_walk 65 = .ok (.isub, 1) := by decide +kernel
theorem dX3_walk_66 : decode cX3_walk 66 = .ok (.iaload, 1) := by decide +kernel
theorem dX3_walk_67 : decode cX3_walk 67 = .ok (.aload_n 0, 1) := by decide +kernel
theorem dX3_walk_68 : decode cX3_walk 68 = .ok (.getfield 9, 3) := by decide +kernel
theorem dX3_walk_71 : decode cX3_walk 71 = .ok (.iload 4, 2) := by decide +kernel
theorem dX3_walk_73 : decode cX3_walk 73 = .ok (.iconst 1, 1) := by decide +kernel
theorem dX3_walk_74 : decode cX3_walk 74 = .ok (.isub, 1) := by decide +kernel
theorem dX3_walk_75 : decode cX3_walk 75 = .ok (.iaload, 1) := by decide +kernel
theorem dX3_walk_76 : decode cX3_walk 76 = .ok (.isub, 1) := by decide +kernel
theorem dX3_walk_77 : decode cX3_walk 77 = .ok (.istore 5, 2) := by decide +kernel
theorem dX3_walk_79 : decode cX3_walk 79 = .ok (.aload_n 0, 1) := by decide +kernel
theorem dX3_walk_80 : decode cX3_walk 80 = .ok (.getfield 9, 3) := by decide +kernel
theorem dX3_walk_83 : decode cX3_walk 83 = .ok (.iload 4, 2) := by decide +kernel
theorem dX3_walk_85 : decode cX3_walk 85 = .ok (.aload_n 0, 1) := by decide +kernel
theorem dX3_walk_86 : decode cX3_walk 86 = .ok (.getfield 9, 3) := by decide +kernel
theorem dX3_walk_89 : decode cX3_walk 89 = .ok (.iload 4, 2) := by decide +kernel
theorem dX3_walk_91 : decode cX3_walk 91 = .ok (.iconst 1, 1) := by decide +kernel
theorem dX3_walk_92 : decode cX3_walk 92 = .ok (.isub, 1) := by decide +kernel
theorem dX3_walk_93 : decode cX3_walk 93 = .ok (.iaload, 1) := by decide +kernel
theorem dX3_walk_94 : decode cX3_walk 94 = .ok (.aload_n 2, 1) := by decide +kernel
theorem dX3_walk_95 : decode cX3_walk 95 = .ok (.iload 4, 2) := by decide +kernel
theorem dX3_walk_97 : decode cX3_walk 97 = .ok (.iconst 1, 1) := by decide +kernel
theorem dX3_walk_98 : decode cX3_walk 98 = .ok (.isub, 1) := by decide +kernel
theorem dX3_walk_99 : decode cX3_walk 99 = .ok (.aload_n 1, 1) := by decide +kernel
theorem dX3_walk_100 : decode cX3_walk 100 = .ok (.getfield 27, 3) := by decide +kernel
theorem dX3_walk_103 : decode cX3_walk 103 = .ok (.iconst 0, 1) := by decide +kernel
theorem dX3_walk_104 : decode cX3_walk 104 = .ok (.iaload, 1) := by decide +kernel
theorem dX3_walk_105 : decode cX3_walk 105 = .ok (.isub, 1) := by decide +kernel
theorem dX3_walk_106 : decode cX3_walk 106 = .ok (.invokestatic 30, 3) := by decide +kernel
theorem dX3_walk_109 : decode cX3_walk 109 = .ok (.iload 5, 2) := by decide +kernel
theorem dX3_walk_111 : decode cX3_walk 111 = .ok (.iconst (-1), 1) := by decide +kernel
theorem dX3_walk_112 : decode cX3_walk 112 = .ok (.invokestatic 34, 3) := by decide +kernel
theorem dX3_walk_115 : decode cX3_walk 115 = .ok (.iadd, 1) := by decide +kernel
theorem dX3_walk_116 : decode cX3_walk 116 = .ok (.iastore, 1) := by decide +kernel
theorem dX3_walk_117 : decode cX3_walk 117 = .ok (.aload_n 0, 1) := by decide +kernel
theorem dX3_walk_118 : decode cX3_walk 118 = .ok (.getfield 15, 3) := by decide +kernel
theorem dX3_walk_121 : decode cX3_walk 121 = .ok (.iload 4, 2) := by decide +kernel
theorem dX3_walk_123 : decode cX3_walk 123 = .ok (.aload_n 0, 1) := by decide +kernel
theorem dX3_walk_124 : decode cX3_walk 124 = .ok (.getfield 15, 3) := by decide +kernel
theorem dX3_walk_127 : decode cX3_walk 127 = .ok (.iload 4, 2) := by decide +kernel
theorem dX3_walk_129 : decode cX3_walk 129 = .ok (.iconst 1, 1) := by decide +kernel
theorem dX3_walk_130 : decode cX3_walk 130 = .ok (.isub, 1) := by decide +kernel
theorem dX3_walk_131 : decode cX3_walk 131 = .ok (.iaload, 1) := by decide +kernel
theorem dX3_walk_132 : decode cX3_walk 132 = .ok (.aload_n 3, 1) := by decide +kernel
theorem dX3_walk_133 : decode cX3_walk 133 = .ok (.iload 4, 2) := by decide +kernel
theorem dX3_walk_135 : decode cX3_walk 135 = .ok (.iconst 1, 1) := by decide +kernel
theorem dX3_walk_136 : decode cX3_walk 136 = .ok (.isub, 1) := by decide +kernel
theorem dX3_walk_137 : decode cX3_walk 137 = .ok (.aload_n 1, 1) := by decide +kernel
theorem dX3_walk_138 : decode cX3_walk 138 = .ok (.getfield 27, 3) := by decide +kernel
theorem dX3_walk_141 : decode cX3_walk 141 = .ok (.iconst 1, 1) := by decide +kernel
theorem dX3_walk_142 : decode cX3_walk 142 = .ok (.iaload, 1) := by decide +kernel
theorem dX3_walk_143 : decode cX3_walk 143 = .ok (.isub, 1) := by decide +kernel
theorem dX3_walk_144 : decode cX3_walk 144 = .ok (.invokestatic 30, 3) := by decide +kernel
theorem dX3_walk_147 : decode cX3_walk 147 = .ok (.iload 5, 2) := by decide +kernel
theorem dX3_walk_149 : decode cX3_walk 149 = .ok (.ineg, 1) := by decide +kernel
theorem dX3_walk_150 : decode cX3_walk 150 = .ok (.iconst 1, 1) := by decide +kernel
theorem dX3_walk_151 : decode cX3_walk 151 = .ok (.invokestatic 34, 3) := by decide +kernel
theorem dX3_walk_154 : decode cX3_walk 154 = .ok (.iadd, 1) := by decide +kernel
theorem dX3_walk_155 : decode cX3_walk 155 = .ok (.iastore, 1) := by decide +kernel
theorem dX3_walk_156 : decode cX3_walk 156 = .ok (.aload_n 0, 1) := by decide +kernel
theorem dX3_walk_157 : decode cX3_walk 157 = .ok (.getfield 15, 3) := by decide +kernel
theorem dX3_walk_160 : decode cX3_walk 160 = .ok (.iload 4, 2) := by decide +kernel
theorem dX3_walk_162 : decode cX3_walk 162 = .ok (.iaload, 1) := by decide +kernel
theorem dX3_walk_163 : decode cX3_walk 163 = .ok (.aload_n 0, 1) := by decide +kernel
theorem dX3_walk_164 : decode cX3_walk 164 = .ok (.getfield 9, 3) := by decide +kernel
theorem dX3_walk_167 : decode cX3_walk 167 = .ok (.iload 4, 2) := by decide +kernel
theorem dX3_walk_169 : decode cX3_walk 169 = .ok (.iaload, 1) := by decide +kernel
theorem dX3_walk_170 : decode cX3_walk 170 = .ok (.isub, 1) := by decide +kernel
theorem dX3_walk_171 : decode cX3_walk 171 = .ok (.istore 6, 2) := by decide +kernel
theorem dX3_walk_173 : decode cX3_walk 173 = .ok (.iload 5, 2) := by decide +kernel
theorem dX3_walk_175 : decode cX3_walk 175 = .ok (.ifCond .ge 8, 3) := by decide +kernel
theorem dX3_walk_178 : decode cX3_walk 178 = .ok (.iload 6, 2) := by decide +kernel
theorem dX3_walk_180 : decode cX3_walk 180 = .ok (.ifCond .gt 13, 3) := by decide +kernel
theorem dX3_walk_183 : decode cX3_walk 183 = .ok (.iload 5, 2) := by decide +kernel
theorem dX3_walk_185 : decode cX3_walk 185 = .ok (.ifCond .le 12, 3) := by decide +kernel
theorem dX3_walk_188 : decode cX3_walk 188 = .ok (.iload 6, 2) := by decide +kernel
theorem dX3_walk_190 : decode cX3_walk 190 = .ok (.ifCond .ge 7, 3) := by decide +kernel
theorem dX3_walk_193 : decode cX3_walk 193 = .ok (.iconst 1, 1) := by decide +kernel
theorem dX3_walk_194 : decode cX3_walk 194 = .ok (.goto 4, 3) := by decide +kernel
theorem dX3_walk_197 : decode cX3_walk 197 = .ok (.iconst 0, 1) := by decide +kernel
theorem dX3_walk_198 : decode cX3_walk 198 = .ok (.istore 7, 2) := by decide +kernel
theorem dX3_walk_200 : decode cX3_walk 200 = .ok (.aload_n 0, 1) := by decide +kernel
theorem dX3_walk_201 : decode cX3_walk 201 = .ok (.getfield 18, 3) := by decide +kernel
theorem dX3_walk_204 : decode cX3_walk 204 = .ok (.iconst (-1), 1) := by decide +kernel
theorem dX3_walk_205 : decode cX3_walk 205 = .ok (.if_icmp .ne 19, 3) := by decide +kernel
theorem dX3_walk_208 : decode cX3_walk 208 = .ok (.iload 6, 2) := by decide +kernel
theorem dX3_walk_210 : decode cX3_walk 210 = .ok (.ifCond .eq 8, 3) := by decide +kernel
theorem dX3_walk_213 : decode cX3_walk 213 = .ok (.iload 7, 2) := by decide +kernel
theorem dX3_walk_215 : decode cX3_walk 215 = .ok (.ifCond .eq 9, 3) := by decide +kernel
theorem dX3_walk_218 : decode cX3_walk 218 = .ok (.aload_n 0, 1) := by decide +kernel
theorem dX3_walk_219 : decode cX3_walk 219 = .ok (.iload 4, 2) := by decide +kernel
theorem dX3_walk_221 : decode cX3_walk 221 = .ok (.putfield 18, 3) := by decide +kernel
theorem dX3_walk_224 : decode cX3_walk 224 = .ok (.iinc 4 1, 3) := by decide +kernel
theorem dX3_walk_227 : decode cX3_walk 227 = .ok (.goto (-176), 3) := by decide +kernel
theorem dX3_walk_230 : decode cX3_walk 230 = .ok (.return_, 1) := by decide +kernel
theorem dX3_moveAt_0 : decode cX3_moveAt 0 = .ok (.iload_n 1, 1) := by decide +kernel
theorem dX3_moveAt_1 : decode cX3_moveAt 1 = .ok (.ifCond .lt 20, 3) := by decide +kernel
theorem dX3_moveAt_4 : decode cX3_moveAt 4 = .ok (.iload_n 1, 1) := by decide +kernel
theorem dX3_moveAt_5 : decode cX3_moveAt 5 = .ok (.aload_n 0, 1) := by decide +kernel
theorem dX3_moveAt_6 : decode cX3_moveAt 6 = .ok (.getfield 38, 3) := by decide +kernel
theorem dX3_moveAt_9 : decode cX3_moveAt 9 = .ok (.if_icmp .ge 12, 3) := by decide +kernel
theorem dX3_moveAt_12 : decode cX3_moveAt 12 = .ok (.aload_n 0, 1) := by decide +kernel
theorem dX3_moveAt_13 : decode cX3_moveAt 13 = .ok (.getfield 43, 3) := by decide +kernel
theorem dX3_moveAt_16 : decode cX3_moveAt 16 = .ok (.iload_n 1, 1) := by decide +kernel
theorem dX3_moveAt_17 : decode cX3_moveAt 17 = .ok (.iaload, 1) := by decide +kernel
theorem dX3_moveAt_18 : decode cX3_moveAt 18 = .ok (.goto 4, 3) := by decide +kernel
theorem dX3_moveAt_21 : decode cX3_moveAt 21 = .ok (.iconst 0, 1) := by decide +kernel
theorem dX3_moveAt_22 : decode cX3_moveAt 22 = .ok (.ireturn, 1) := by decide +kernel
theorem dX3_stride_0 : decode cX3_stride 0 = .ok (.iload_n 0, 1) := by decide +kernel
theorem dX3_stride_1 : decode cX3_stride 1 = .ok (.tableswitch 60 1 4 #[31, 33, 35, 42], 31) := by decide +kernel
theorem dX3_stride_32 : decode cX3_stride 32 = .ok (.iconst (-1), 1) := by decide +kernel
theorem dX3_stride_33 : decode cX3_stride 33 = .ok (.ireturn, 1) := by decide +kernel
theorem dX3_stride_34 : decode cX3_stride 34 = .ok (.iconst 1, 1) := by decide +kernel
theorem dX3_stride_35 : decode cX3_stride 35 = .ok (.ireturn, 1) := by decide +kernel
theorem dX3_stride_36 : decode cX3_stride 36 = .ok (.iconst 2, 1) := by decide +kernel
theorem dX3_stride_37 : decode cX3_stride 37 = .ok (.iload_n 1, 1) := by decide +kernel
theorem dX3_stride_38 : decode cX3_stride 38 = .ok (.invokestatic 46, 3) := by decide +kernel
theorem dX3_stride_41 : decode cX3_stride 41 = .ok (.imul, 1) := by decide +kernel
theorem dX3_stride_42 : decode cX3_stride 42 = .ok (.ireturn, 1) := by decide +kernel
theorem dX3_stride_43 : decode cX3_stride 43 = .ok (.iload_n 1, 1) := by decide +kernel
theorem dX3_stride_44 : decode cX3_stride 44 = .ok (.ifCond .ne 9, 3) := by decide +kernel
theorem dX3_stride_47 : decode cX3_stride 47 = .ok (.iconst 2, 1) := by decide +kernel
theorem dX3_stride_48 : decode cX3_stride 48 = .ok (.iload_n 2, 1) := by decide +kernel
theorem dX3_stride_49 : decode cX3_stride 49 = .ok (.imul, 1) := by decide +kernel
theorem dX3_stride_50 : decode cX3_stride 50 = .ok (.goto 10, 3) := by decide +kernel
theorem dX3_stride_53 : decode cX3_stride 53 = .ok (.bipush (-2), 2) := by decide +kernel
theorem dX3_stride_55 : decode cX3_stride 55 = .ok (.iload_n 1, 1) := by decide +kernel
theorem dX3_stride_56 : decode cX3_stride 56 = .ok (.invokestatic 46, 3) := by decide +kernel
theorem dX3_stride_59 : decode cX3_stride 59 = .ok (.imul, 1) := by decide +kernel
theorem dX3_stride_60 : decode cX3_stride 60 = .ok (.ireturn, 1) := by decide +kernel
theorem dX3_stride_61 : decode cX3_stride 61 = .ok (.iconst 0, 1) := by decide +kernel
theorem dX3_stride_62 : decode cX3_stride 62 = .ok (.ireturn, 1) := by decide +kernel
theorem dX4_init_0 : decode cX4_init 0 = .ok (.aload_n 0, 1) := by decide +kernel
theorem dX4_init_1 : decode cX4_init 1 = .ok (.invokespecial 3, 3) := by decide +kernel
theorem dX4_init_4 : decode cX4_init 4 = .ok (.aload_n 0, 1) := by decide +kernel
theorem dX4_init_5 : decode cX4_init 5 = .ok (.iconst 2, 1) := by decide +kernel
theorem dX4_init_6 : decode cX4_init 6 = .ok (.newarray .int, 2) := by decide +kernel
theorem dX4_init_8 : decode cX4_init 8 = .ok (.putfield 9, 3) := by decide +kernel
theorem dX4_init_11 : decode cX4_init 11 = .ok (.aload_n 0, 1) := by decide +kernel
theorem dX4_init_12 : decode cX4_init 12 = .ok (.bipush 12, 2) := by decide +kernel
theorem dX4_init_14 : decode cX4_init 14 = .ok (.newarray .int, 2) := by decide +kernel
theorem dX4_init_16 : decode cX4_init 16 = .ok (.putfield 15, 3) := by decide +kernel
theorem dX4_init_19 : decode cX4_init 19 = .ok (.aload_n 0, 1) := by decide +kernel
theorem dX4_init_20 : decode cX4_init 20 = .ok (.invokevirtual 18, 3) := by decide +kernel
theorem dX4_init_23 : decode cX4_init 23 = .ok (.return_, 1) := by decide +kernel
theorem dX4_reset_0 : decode cX4_reset 0 = .ok (.aload_n 0, 1) := by decide +kernel
theorem dX4_reset_1 : decode cX4_reset 1 = .ok (.getfield 9, 3) := by decide +kernel
theorem dX4_reset_4 : decode cX4_reset 4 = .ok (.iconst 0, 1) := by decide +kernel
theorem dX4_reset_5 : decode cX4_reset 5 = .ok (.iconst (-1), 1) := by decide +kernel
theorem dX4_reset_6 : decode cX4_reset 6 = .ok (.iastore, 1) := by decide +kernel
theorem dX4_reset_7 : decode cX4_reset 7 = .ok (.aload_n 0, 1) := by decide +kernel
theorem dX4_reset_8 : decode cX4_reset 8 = .ok (.getfield 9, 3) := by decide +kernel
theorem dX4_reset_11 : decode cX4_reset 11 = .ok (.iconst 1, 1) := by decide +kernel
theorem dX4_reset_12 : decode cX4_reset 12 = .ok (.iconst (-1), 1) := by decide +kernel
theorem dX4_reset_13 : decode cX4_reset 13 = .ok (.iastore, 1) := by decide +kernel
theorem dX4_reset_14 : decode cX4_reset 14 = .ok (.return_, 1) := by decide +kernel
theorem dX4_copyFrom_0 : decode cX4_copyFrom 0 = .ok (.aload_n 1, 1) := by decide +kernel
theorem dX4_copyFrom_1 : decode cX4_copyFrom 1 = .ok (.getfield 9, 3) := by decide +kernel
theorem dX4_copyFrom_4 : decode cX4_copyFrom 4 = .ok (.iconst 0, 1) := by decide +kernel
theorem dX4_copyFrom_5 : decode cX4_copyFrom 5 = .ok (.aload_n 0, 1) := by decide +kernel
theorem dX4_copyFrom_6 : decode cX4_copyFrom 6 = .ok (.getfield 9, 3) := by decide +kernel
theorem dX4_copyFrom_9 : decode cX4_copyFrom 9 = .ok (.iconst 0, 1) := by decide +kernel
theorem dX4_copyFrom_10 : decode cX4_copyFrom 10 = .ok (.iconst 2, 1) := by decide +kernel
theorem dX4_copyFrom_11 : decode cX4_copyFrom 11 = .ok (.invokestatic 21, 3) := by decide +kernel
theorem dX4_copyFrom_14 : decode cX4_copyFrom 14 = .ok (.aload_n 1, 1) := by decide +kernel
theorem dX4_copyFrom_15 : decode cX4_copyFrom 15 = .ok (.getfield 15, 3) := by decide +kernel
theorem dX4_copyFrom_18 : decode cX4_copyFrom 18 = .ok (.iconst 0, 1) := by decide +kernel
theorem dX4_copyFrom_19 : decode cX4_copyFrom 19 = .ok (.aload_n 0, 1) := by decide +kernel
theorem dX4_copyFrom_20 : decode cX4_copyFrom 20 = .ok (.getfield 15, 3) := by decide +kernel
theorem dX4_copyFrom_23 : decode cX4_copyFrom 23 = .ok (.iconst 0, 1) := by decide +kernel
theorem dX4_copyFrom_24 : decode cX4_copyFrom 24 = .ok (.aload_n 0, 1) := by decide +kernel
theorem dX4_copyFrom_25 : decode cX4_copyFrom 25 = .ok (.getfield 15, 3) := by decide +kernel
theorem dX4_copyFrom_28 : decode cX4_copyFrom 28 = .ok (.arraylength, 1) := by decide +kernel
theorem dX4_copyFrom_29 : decode cX4_copyFrom 29 = .ok (.invokestatic 21, 3) := by decide +kernel
theorem dX4_copyFrom_32 : decode cX4_copyFrom 32 = .ok (.return_, 1) := by decide +kernel
theorem dX6_init_0 : decode cX6_init 0 = .ok (.aload_n 0, 1) := by decide +kernel
theorem dX6_init_1 : decode cX6_init 1 = .ok (.invokespecial 3, 3) := by decide +kernel
theorem dX6_init_4 : decode cX6_init 4 = .ok (.aload_n 0, 1) := by decide +kernel
theorem dX6_init_5 : decode cX6_init 5 = .ok (.iconst 2, 1) := by decide +kernel
theorem dX6_init_6 : decode cX6_init 6 = .ok (.newarray .int, 2) := by decide +kernel
theorem dX6_init_8 : decode cX6_init 8 = .ok (.putfield 9, 3) := by decide +kernel
theorem dX6_init_11 : decode cX6_init 11 = .ok (.aload_n 0, 1) := by decide +kernel
theorem dX6_init_12 : decode cX6_init 12 = .ok (.bipush 24, 2) := by decide +kernel
theorem dX6_init_14 : decode cX6_init 14 = .ok (.newarray .int, 2) := by decide +kernel
theorem dX6_init_16 : decode cX6_init 16 = .ok (.putfield 15, 3) := by decide +kernel
theorem dX6_init_19 : decode cX6_init 19 = .ok (.return_, 1) := by decide +kernel
theorem dX6_reset_0 : decode cX6_reset 0 = .ok (.aload_n 0, 1) := by decide +kernel
theorem dX6_reset_1 : decode cX6_reset 1 = .ok (.getfield 9, 3) := by decide +kernel
theorem dX6_reset_4 : decode cX6_reset 4 = .ok (.iconst 0, 1) := by decide +kernel
theorem dX6_reset_5 : decode cX6_reset 5 = .ok (.iconst 0, 1) := by decide +kernel
theorem dX6_reset_6 : decode cX6_reset 6 = .ok (.iastore, 1) := by decide +kernel
theorem dX6_reset_7 : decode cX6_reset 7 = .ok (.aload_n 0, 1) := by decide +kernel
theorem dX6_reset_8 : decode cX6_reset 8 = .ok (.getfield 9, 3) := by decide +kernel
theorem dX6_reset_11 : decode cX6_reset 11 = .ok (.iconst 1, 1) := by decide +kernel
theorem dX6_reset_12 : decode cX6_reset 12 = .ok (.iconst 0, 1) := by decide +kernel
theorem dX6_reset_13 : decode cX6_reset 13 = .ok (.iastore, 1) := by decide +kernel
theorem dX6_reset_14 : decode cX6_reset 14 = .ok (.return_, 1) := by decide +kernel
theorem dX6_copyFrom_0 : decode cX6_copyFrom 0 = .ok (.aload_n 1, 1) := by decide +kernel
theorem dX6_copyFrom_1 : decode cX6_copyFrom 1 = .ok (.getfield 9, 3) := by decide +kernel
theorem dX6_copyFrom_4 : decode cX6_copyFrom 4 = .ok (.iconst 0, 1) := by decide +kernel
theorem dX6_copyFrom_5 : decode cX6_copyFrom 5 = .ok (.aload_n 0, 1) := by decide +kernel
theorem dX6_copyFrom_6 : decode cX6_copyFrom 6 = .ok (.getfield 9, 3) := by decide +kernel
theorem dX6_copyFrom_9 : decode cX6_copyFrom 9 = .ok (.iconst 0, 1) := by decide +kernel
theorem dX6_copyFrom_10 : decode cX6_copyFrom 10 = .ok (.iconst 2, 1) := by decide +kernel
theorem dX6_copyFrom_11 : decode cX6_copyFrom 11 = .ok (.invokestatic 18, 3) := by decide +kernel
theorem dX6_copyFrom_14 : decode cX6_copyFrom 14 = .ok (.aload_n 1, 1) := by decide +kernel
theorem dX6_copyFrom_15 : decode cX6_copyFrom 15 = .ok (.getfield 15, 3) := by decide +kernel
theorem dX6_copyFrom_18 : decode cX6_copyFrom 18 = .ok (.iconst 0, 1) := by decide +kernel
theorem dX6_copyFrom_19 : decode cX6_copyFrom 19 = .ok (.aload_n 0, 1) := by decide +kernel
theorem dX6_copyFrom_20 : decode cX6_copyFrom 20 = .ok (.getfield 15, 3) := by decide +kernel
theorem dX6_copyFrom_23 : decode cX6_copyFrom 23 = .ok (.iconst 0, 1) := by decide +kernel
theorem dX6_copyFrom_24 : decode cX6_copyFrom 24 = .ok (.aload_n 0, 1) := by decide +kernel
theorem dX6_copyFrom_25 : decode cX6_copyFrom 25 = .ok (.getfield 15, 3) := by decide +kernel
theorem dX6_copyFrom_28 : decode cX6_copyFrom 28 = .ok (.arraylength, 1) := by decide +kernel
theorem dX6_copyFrom_29 : decode cX6_copyFrom 29 = .ok (.invokestatic 18, 3) := by decide +kernel
theorem dX6_copyFrom_32 : decode cX6_copyFrom 32 = .ok (.return_, 1) := by decide +kernel
theorem dX6_giveNumber_0 : decode cX6_giveNumber 0 = .ok (.iload_n 3, 1) := by decide +kernel
theorem dX6_giveNumber_1 : decode cX6_giveNumber 1 = .ok (.bipush 12, 2) := by decide +kernel
theorem dX6_giveNumber_3 : decode cX6_giveNumber 3 = .ok (.invokestatic 24, 3) := by decide +kernel
theorem dX6_giveNumber_6 : decode cX6_giveNumber 6 = .ok (.istore 4, 2) := by decide +kernel
theorem dX6_giveNumber_8 : decode cX6_giveNumber 8 = .ok (.aload_n 0, 1) := by decide +kernel
theorem dX6_giveNumber_9 : decode cX6_giveNumber 9 = .ok (.getfield 9, 3) := by decide +kernel
theorem dX6_giveNumber_12 : decode cX6_giveNumber 12 = .ok (.iload_n 1, 1) := by decide +kernel
theorem dX6_giveNumber_13 : decode cX6_giveNumber 13 = .ok (.iload 4, 2) := by decide +kernel
theorem dX6_giveNumber_15 : decode cX6_giveNumber 15 = .ok (.iastore, 1) := by decide +kernel
theorem dX6_giveNumber_16 : decode cX6_giveNumber 16 = .ok (.iconst 0, 1) := by decide +kernel
theorem dX6_giveNumber_17 : decode cX6_giveNumber 17 = .ok (.istore 5, 2) := by decide +kernel
theorem dX6_giveNumber_19 : decode cX6_giveNumber 19 = .ok (.iload 5, 2) := by decide +kernel
theorem dX6_giveNumber_21 : decode cX6_giveNumber 21 = .ok (.iload 4, 2) := by decide +kernel
theorem dX6_giveNumber_23 : decode cX6_giveNumber 23 = .ok (.if_icmp .ge 34, 3) := by decide +kernel
theorem dX6_giveNumber_26 : decode cX6_giveNumber 26 = .ok (.aload_n 0, 1) := by decide +kernel
theorem dX6_giveNumber_27 : decode cX6_giveNumber 27 = .ok (.getfield 15, 3) := by decide +kernel
theorem dX6_giveNumber_30 : decode cX6_giveNumber 30 = .ok (.iload_n 1, 1) := by decide +kernel
theorem dX6_giveNumber_31 : decode cX6_giveNumber 31 = .ok (.bipush 12, 2) := by decide +kernel
theorem dX6_giveNumber_33 : decode cX6_giveNumber 33 = .ok (.imul, 1) := by decide +kernel
theorem dX6_giveNumber_34 : decode cX6_giveNumber 34 = .ok (.iload 5, 2) := by decide +kernel
theorem dX6_giveNumber_36 : decode cX6_giveNumber 36 = .ok (.iadd, 1) := by decide +kernel
theorem dX6_giveNumber_37 : decode cX6_giveNumber 37 = .ok (.iload_n 2, 1) := by decide +kernel
theorem dX6_giveNumber_38 : decode cX6_giveNumber 38 = .ok (.iconst 2, 1) := by decide +kernel
theorem dX6_giveNumber_39 : decode cX6_giveNumber 39 = .ok (.iload 4, 2) := by decide +kernel
theorem dX6_giveNumber_41 : decode cX6_giveNumber 41 = .ok (.iconst 1, 1) := by decide +kernel
theorem dX6_giveNumber_42 : decode cX6_giveNumber 42 = .ok (.isub, 1) := by decide +kernel
theorem dX6_giveNumber_43 : decode cX6_giveNumber 43 = .ok (.iload 5, 2) := by decide +kernel
theorem dX6_giveNumber_45 : decode cX6_giveNumber 45 = .ok (.isub, 1) := by decide +kernel
theorem dX6_giveNumber_46 : decode cX6_giveNumber 46 = .ok (.imul, 1) := by decide +kernel
theorem dX6_giveNumber_47 : decode cX6_giveNumber 47 = .ok (.ishr, 1) := by decide +kernel
theorem dX6_giveNumber_48 : decode cX6_giveNumber 48 = .ok (.iconst 3, 1) := by decide +kernel
theorem dX6_giveNumber_49 : decode cX6_giveNumber 49 = .ok (.iand, 1) := by decide +kernel
theorem dX6_giveNumber_50 : decode cX6_giveNumber 50 = .ok (.iastore, 1) := by decide +kernel
theorem dX6_giveNumber_51 : decode cX6_giveNumber 51 = .ok (.iinc 5 1, 3) := by decide +kernel
theorem dX6_giveNumber_54 : decode cX6_giveNumber 54 = .ok (.goto (-35), 3) := by decide +kernel
theorem dX6_giveNumber_57 : decode cX6_giveNumber 57 = .ok (.return_, 1) := by decide +kernel
theorem dX7_init_0 : decode cX7_init 0 = .ok (.aload_n 0, 1) := by decide +kernel
theorem dX7_init_1 : decode cX7_init 1 = .ok (.invokespecial 3, 3) := by decide +kernel
theorem dX7_init_4 : decode cX7_init 4 = .ok (.aload_n 0, 1) := by decide +kernel
theorem dX7_init_5 : decode cX7_init 5 = .ok (.bipush 8, 2) := by decide +kernel
theorem dX7_init_7 : decode cX7_init 7 = .ok (.bipush 60, 2) := by decide +kernel
theorem dX7_init_9 : decode cX7_init 9 = .ok (.multianewarray 9 2, 4) := by decide +kernel
theorem dX7_init_13 : decode cX7_init 13 = .ok (.putfield 11, 3) := by decide +kernel
theorem dX7_init_16 : decode cX7_init 16 = .ok (.aload_n 0, 1) := by decide +kernel
theorem dX7_init_17 : decode cX7_init 17 = .ok (.bipush 8, 2) := by decide +kernel
theorem dX7_init_19 : decode cX7_init 19 = .ok (.newarray .int, 2) := by decide +kernel
theorem dX7_init_21 : decode cX7_init 21 = .ok (.putfield 16, 3) := by decide +kernel
theorem dX7_init_24 : decode cX7_init 24 = .ok (.return_, 1) := by decide +kernel
theorem dX7_tell_0 : decode cX7_tell 0 = .ok (.iconst 0, 1) := by decide +kernel
theorem dX7_tell_1 : decode cX7_tell 1 = .ok (.istore_n 3, 1) := by decide +kernel
theorem dX7_tell_2 : decode cX7_tell 2 = .ok (.iload_n 3, 1) := by decide +kernel
theorem dX7_tell_3 : decode cX7_tell 3 = .ok (.aload_n 1, 1) := by decide +kernel
theorem dX7_tell_4 : decode cX7_tell 4 = .ok (.getfield 20, 3) := by decide +kernel
theorem dX7_tell_7 : decode cX7_tell 7 = .ok (.if_icmp .ge 65, 3) := by decide +kernel
theorem dX7_tell_10 : decode cX7_tell 10 = .ok (.aload_n 1, 1) := by decide +kernel
theorem dX7_tell_11 : decode cX7_tell 11 = .ok (.getfield 26, 3) := by decide +kernel
theorem dX7_tell_14 : decode cX7_tell 14 = .ok (.iload_n 3, 1) := by decide +kernel
theorem dX7_tell_15 : decode cX7_tell 15 = .ok (.iaload, 1) := by decide +kernel
theorem dX7_tell_16 : decode cX7_tell 16 = .ok (.istore 4, 2) := by decide +kernel
theorem dX7_tell_18 : decode cX7_tell 18 = .ok (.iload 4, 2) := by decide +kernel
theorem dX7_tell_20 : decode cX7_tell 20 = .ok (.ifCond .lt 32, 3) := by decide +kernel
theorem dX7_tell_23 : decode cX7_tell 23 = .ok (.iload 4, 2) := by decide +kernel
theorem dX7_tell_25 : decode cX7_tell 25 = .ok (.iload_n 3, 1) := by decide +kernel
theorem dX7_tell_26 : decode cX7_tell 26 = .ok (.if_icmp .ge 26, 3) := by decide +kernel
theorem dX7_tell_29 : decode cX7_tell 29 = .ok (.aload_n 0, 1) := by decide +kernel
theorem dX7_tell_30 : decode cX7_tell 30 = .ok (.aload_n 1, 1) := by decide +kernel
theorem dX7_tell_31 : decode cX7_tell 31 = .ok (.iload_n 3, 1) := by decide +kernel
theorem dX7_tell_32 : decode cX7_tell 32 = .ok (.aload_n 0, 1) := by decide +kernel
theorem dX7_tell_33 : decode cX7_tell 33 = .ok (.getfield 11, 3) := by decide +kernel
theorem dX7_tell_36 : decode cX7_tell 36 = .ok (.iload 4, 2) := by decide +kernel
theorem dX7_tell_38 : decode cX7_tell 38 = .ok (.aaload, 1) := by decide +kernel
theorem dX7_tell_39 : decode cX7_tell 39 = .ok (.aload_n 0, 1) := by decide +kernel
theorem dX7_tell_40 : decode cX7_tell 40 = .ok (.getfield 16, 3) := by decide +kernel
theorem dX7_tell_43 : decode cX7_tell 43 = .ok (.iload 4, 2) := by decide +kernel
theorem dX7_tell_45 : decode cX7_tell 45 = .ok (.iaload, 1) := by decide +kernel
theorem dX7_tell_46 : decode cX7_tell 46 = .ok (.invokevirtual 29, 3) := by decide +kernel
theorem dX7_tell_49 : decode cX7_tell 49 = .ok (.goto 17, 3) := by decide +kernel
theorem dX7_tell_52 : decode cX7_tell 52 = .ok (.aload_n 0, 1) := by decide +kernel
theorem dX7_tell_53 : decode cX7_tell 53 = .ok (.aload_n 1, 1) := by decide +kernel
theorem dX7_tell_54 : decode cX7_tell 54 = .ok (.iload_n 3, 1) := by decide +kernel
theorem dX7_tell_55 : decode cX7_tell 55 = .ok (.aload_n 2, 1) := by decide +kernel
theorem dX7_tell_56 : decode cX7_tell 56 = .ok (.getfield 33, 3) := by decide +kernel
theorem dX7_tell_59 : decode cX7_tell 59 = .ok (.aload_n 2, 1) := by decide +kernel
theorem dX7_tell_60 : decode cX7_tell 60 = .ok (.getfield 38, 3) := by decide +kernel
theorem dX7_tell_63 : decode cX7_tell 63 = .ok (.invokevirtual 29, 3) := by decide +kernel
theorem dX7_tell_66 : decode cX7_tell 66 = .ok (.iinc 3 1, 3) := by decide +kernel
theorem dX7_tell_69 : decode cX7_tell 69 = .ok (.goto (-67), 3) := by decide +kernel
theorem dX7_tell_72 : decode cX7_tell 72 = .ok (.return_, 1) := by decide +kernel
theorem dX7_repeat_0 : decode cX7_repeat 0 = .ok (.aload_n 1, 1) := by decide +kernel
theorem dX7_repeat_1 : decode cX7_repeat 1 = .ok (.getfield 41, 3) := by decide +kernel
theorem dX7_repeat_4 : decode cX7_repeat 4 = .ok (.iload_n 2, 1) := by decide +kernel
theorem dX7_repeat_5 : decode cX7_repeat 5 = .ok (.iaload, 1) := by decide +kernel
theorem dX7_repeat_6 : decode cX7_repeat 6 = .ok (.istore 5, 2) := by decide +kernel
theorem dX7_repeat_8 : decode cX7_repeat 8 = .ok (.aload_n 1, 1) := by decide +kernel
theorem dX7_repeat_9 : decode cX7_repeat 9 = .ok (.getfield 44, 3) := by decide +kernel
theorem dX7_repeat_12 : decode cX7_repeat 12 = .ok (.iload_n 2, 1) := by decide +kernel
theorem dX7_repeat_13 : decode cX7_repeat 13 = .ok (.iaload, 1) := by decide +kernel
theorem dX7_repeat_14 : decode cX7_repeat 14 = .ok (.istore 6, 2) := by decide +kernel
theorem dX7_repeat_16 : decode cX7_repeat 16 = .ok (.aload_n 0, 1) := by decide +kernel
theorem dX7_repeat_17 : decode cX7_repeat 17 = .ok (.getfield 16, 3) := by decide +kernel
theorem dX7_repeat_20 : decode cX7_repeat 20 = .ok (.iload_n 2, 1) := by decide +kernel
theorem dX7_repeat_21 : decode cX7_repeat 21 = .ok (.iconst 0, 1) := by decide +kernel
theorem dX7_repeat_22 : decode cX7_repeat 22 = .ok (.iastore, 1) := by decide +kernel
theorem dX7_repeat_23 : decode cX7_repeat 23 = .ok (.iconst 0, 1) := by decide +kernel
theorem dX7_repeat_24 : decode cX7_repeat 24 = .ok (.istore 7, 2) := by decide +kernel
theorem dX7_repeat_26 : decode cX7_repeat 26 = .ok (.iload 7, 2) := by decide +kernel
theorem dX7_repeat_28 : decode cX7_repeat 28 = .ok (.iload 4, 2) := by decide +kernel
theorem dX7_repeat_30 : decode cX7_repeat 30 = .ok (.if_icmp .ge 125, 3) := by decide +kernel
theorem dX7_repeat_33 : decode cX7_repeat 33 = .ok (.iload 5, 2) := by decide +kernel
theorem dX7_repeat_35 : decode cX7_repeat 35 = .ok (.ifCond .ne 22, 3) := by decide +kernel
theorem dX7_repeat_38 : decode cX7_repeat 38 = .ok (.iload 6, 2) := by decide +kernel
theorem dX7_repeat_40 : decode cX7_repeat 40 = .ok (.ifCond .le 17, 3) := by decide +kernel
theorem dX7_repeat_43 : decode cX7_repeat 43 = .ok (.iload 7, 2) := by decide +kernel
theorem dX7_repeat_45 : decode cX7_repeat 45 = .ok (.iconst 1, 1) := by decide +kernel
theorem dX7_repeat_46 : decode cX7_repeat 46 = .ok (.iadd, 1) := by decide +kernel
theorem dX7_repeat_47 : decode cX7_repeat 47 = .ok (.iload 6, 2) := by decide +kernel
theorem dX7_repeat_49 : decode cX7_repeat 49 = .ok (.irem, 1) := by decide +kernel
theorem dX7_repeat_50 : decode cX7_repeat 50 = .ok (.ifCond .ne 7, 3) := by decide +kernel
theorem dX7_repeat_53 : decode cX7_repeat 53 = .ok (.iconst 1, 1) := by decide +kernel
theorem dX7_repeat_54 : decode cX7_repeat 54 = .ok (.goto 4, 3) := by decide +kernel
theorem dX7_repeat_57 : decode cX7_repeat 57 = .ok (.iconst 0, 1) := by decide +kernel
theorem dX7_repeat_58 : decode cX7_repeat 58 = .ok (.istore 8, 2) := by decide +kernel
theorem dX7_repeat_60 : decode cX7_repeat 60 = .ok (.iload 5, 2) := by decide +kernel
theorem dX7_repeat_62 : decode cX7_repeat 62 = .ok (.iconst 3, 1) := by decide +kernel
theorem dX7_repeat_63 : decode cX7_repeat 63 = .ok (.if_icmp .ne 16, 3) := by decide +kernel
theorem dX7_repeat_66 : decode cX7_repeat 66 = .ok (.iload 7, 2) := by decide +kernel
theorem dX7_repeat_68 : decode cX7_repeat 68 = .ok (.iload 4, 2) := by decide +kernel
theorem dX7_repeat_70 : decode cX7_repeat 70 = .ok (.iconst 1, 1) := by decide +kernel
theorem dX7_repeat_71 : decode cX7_repeat 71 = .ok (.isub, 1) := by decide +kernel
theorem dX7_repeat_72 : decode cX7_repeat 72 = .ok (.if_icmp .ne 7, 3) := by decide +kernel
theorem dX7_repeat_75 : decode cX7_repeat 75 = .ok (.iconst 1, 1) := by decide +kernel
theorem dX7_repeat_76 : decode cX7_repeat 76 = .ok (.goto 4, 3) := by decide +kernel
theorem dX7_repeat_79 : decode cX7_repeat 79 = .ok (.iconst 0, 1) := by decide +kernel
theorem dX7_repeat_80 : decode cX7_repeat 80 = .ok (.istore 9, 2) := by decide +kernel
theorem dX7_repeat_82 : decode cX7_repeat 82 = .ok (.iload 8, 2) := by decide +kernel
theorem dX7_repeat_84 : decode cX7_repeat 84 = .ok (.ifCond .ne 65, 3) := by decide +kernel
theorem dX7_repeat_87 : decode cX7_repeat 87 = .ok (.iload 9, 2) := by decide +kernel
theorem dX7_repeat_89 : decode cX7_repeat 89 = .ok (.ifCond .ne 60, 3) := by decide +kernel
theorem dX7_repeat_92 : decode cX7_repeat 92 = .ok (.iload 5, 2) := by decide +kernel
theorem dX7_repeat_94 : decode cX7_repeat 94 = .ok (.iconst 1, 1) := by decide +kernel
theorem dX7_repeat_95 : decode cX7_repeat 95 = .ok (.if_icmp .ne 21, 3) := by decide +kernel
theorem dX7_repeat_98 : decode cX7_repeat 98 = .ok (.aload_n 3, 1) := by decide +kernel
theorem dX7_repeat_99 : decode cX7_repeat 99 = .ok (.iload 7, 2) := by decide +kernel
theorem dX7_repeat_101 : decode cX7_repeat 101 = .ok (.iaload, 1) := by decide +kernel
theorem dX7_repeat_102 : decode cX7_repeat 102 = .ok (.iload 6, 2) := by decide +kernel
theorem dX7_repeat_104 : decode cX7_repeat 104 = .ok (.aload_n 1, 1) := by decide +kernel
theorem dX7_repeat_105 : decode cX7_repeat 105 = .ok (.getfield 47, 3) := by decide +kernel
theorem dX7_repeat_108 : decode cX7_repeat 108 = .ok (.iload_n 2, 1) := by decide +kernel
theorem dX7_repeat_109 : decode cX7_repeat 109 = .ok (.iaload, 1) := by decide +kernel
theorem dX7_repeat_110 : decode cX7_repeat 110 = .ok (.invokestatic 50, 3) := by decide +kernel
theorem dX7_repeat_113 : decode cX7_repeat 113 = .ok (.goto 7, 3) := by decide +kernel
theorem dX7_repeat_116 : decode cX7_repeat 116 = .ok (.aload_n 3, 1) := by decide +kernel
theorem dX7_repeat_117 : decode cX7_repeat 117 = .ok (.iload 7, 2) := by decide +kernel
theorem dX7_repeat_119 : decode cX7_repeat 119 = .ok (.iaload, 1) := by decide +kernel
theorem dX7_repeat_120 : decode cX7_repeat 120 = .ok (.istore 10, 2) := by decide +kernel
theorem dX7_repeat_122 : decode cX7_repeat 122 = .ok (.aload_n 0, 1) := by decide +kernel
theorem dX7_repeat_123 : decode cX7_repeat 123 = .ok (.iload_n 2, 1) := by decide +kernel
theorem dX7_repeat_124 : decode cX7_repeat 124 = .ok (.iload 10, 2) := by decide +kernel
theorem dX7_repeat_126 : decode cX7_repeat 126 = .ok (.invokevirtual 54, 3) := by decide +kernel
theorem dX7_repeat_129 : decode cX7_repeat 129 = .ok (.iload 5, 2) := by decide +kernel
theorem dX7_repeat_131 : decode cX7_repeat 131 = .ok (.iconst 2, 1) := by decide +kernel
theorem dX7_repeat_132 : decode cX7_repeat 132 = .ok (.if_icmp .ne 17, 3) := by decide +kernel
theorem dX7_repeat_135 : decode cX7_repeat 135 = .ok (.iload 10, 2) := by decide +kernel
theorem dX7_repeat_137 : decode cX7_repeat 137 = .ok (.iload 6, 2) := by decide +kernel
theorem dX7_repeat_139 : decode cX7_repeat 139 = .ok (.if_icmp .ne 10, 3) := by decide +kernel
theorem dX7_repeat_142 : decode cX7_repeat 142 = .ok (.aload_n 0, 1) := by decide +kernel
theorem dX7_repeat_143 : decode cX7_repeat 143 = .ok (.iload_n 2, 1) := by decide +kernel
theorem dX7_repeat_144 : decode cX7_repeat 144 = .ok (.iload 10, 2) := by decide +kernel
theorem dX7_repeat_146 : decode cX7_repeat 146 = .ok (.invokevirtual 54, 3) := by decide +kernel
theorem dX7_repeat_149 : decode cX7_repeat 149 = .ok (.iinc 7 1, 3) := by decide +kernel
theorem dX7_repeat_152 : decode cX7_repeat 152 = .ok (.goto (-126), 3) := by decide +kernel
theorem dX7_repeat_155 : decode cX7_repeat 155 = .ok (.return_, 1) := by decide +kernel
theorem dX7_swapped_0 : decode cX7_swapped 0 = .ok (.iload_n 0, 1) := by decide +kernel
theorem dX7_swapped_1 : decode cX7_swapped 1 = .ok (.iload_n 1, 1) := by decide +kernel
theorem dX7_swapped_2 : decode cX7_swapped 2 = .ok (.if_icmp .ne 5, 3) := by decide +kernel
theorem dX7_swapped_5 : decode cX7_swapped 5 = .ok (.iload_n 2, 1) := by decide +kernel
theorem dX7_swapped_6 : decode cX7_swapped 6 = .ok (.ireturn, 1) := by decide +kernel
theorem dX7_swapped_7 : decode cX7_swapped 7 = .ok (.iload_n 0, 1) := by decide +kernel
theorem dX7_swapped_8 : decode cX7_swapped 8 = .ok (.iload_n 2, 1) := by decide +kernel
theorem dX7_swapped_9 : decode cX7_swapped 9 = .ok (.if_icmp .ne 7, 3) := by decide +kernel
theorem dX7_swapped_12 : decode cX7_swapped 12 = .ok (.iload_n 1, 1) := by decide +kernel
theorem dX7_swapped_13 : decode cX7_swapped 13 = .ok (.goto 4, 3) := by decide +kernel
theorem dX7_swapped_16 : decode cX7_swapped 16 = .ok (.iload_n 0, 1) := by decide +kernel
theorem dX7_swapped_17 : decode cX7_swapped 17 = .ok (.ireturn, 1) := by decide +kernel
theorem dX7_say_0 : decode cX7_say 0 = .ok (.aload_n 0, 1) := by decide +kernel
theorem dX7_say_1 : decode cX7_say 1 = .ok (.getfield 16, 3) := by decide +kernel
theorem dX7_say_4 : decode cX7_say 4 = .ok (.iload_n 1, 1) := by decide +kernel
theorem dX7_say_5 : decode cX7_say 5 = .ok (.iaload, 1) := by decide +kernel
theorem dX7_say_6 : decode cX7_say 6 = .ok (.istore_n 3, 1) := by decide +kernel
theorem dX7_say_7 : decode cX7_say 7 = .ok (.iload_n 3, 1) := by decide +kernel
theorem dX7_say_8 : decode cX7_say 8 = .ok (.bipush 60, 2) := by decide +kernel
theorem dX7_say_10 : decode cX7_say 10 = .ok (.if_icmp .ge 21, 3) := by decide +kernel
theorem dX7_say_13 : decode cX7_say 13 = .ok (.aload_n 0, 1) := by decide +kernel
theorem dX7_say_14 : decode cX7_say 14 = .ok (.getfield 11, 3) := by decide +kernel
theorem dX7_say_17 : decode cX7_say 17 = .ok (.iload_n 1, 1) := by decide +kernel
theorem dX7_say_18 : decode cX7_say 18 = .ok (.aaload, 1) := by decide +kernel
theorem dX7_say_19 : decode cX7_say 19 = .ok (.iload_n 3, 1) := by decide +kernel
theorem dX7_say_20 : decode cX7_say 20 = .ok (.iload_n 2, 1) := by decide +kernel
theorem dX7_say_21 : decode cX7_say 21 = .ok (.iastore, 1) := by decide +kernel
theorem dX7_say_22 : decode cX7_say 22 = .ok (.aload_n 0, 1) := by decide +kernel
theorem dX7_say_23 : decode cX7_say 23 = .ok (.getfield 16, 3) := by decide +kernel
theorem dX7_say_26 : decode cX7_say 26 = .ok (.iload_n 1, 1) := by decide +kernel
theorem dX7_say_27 : decode cX7_say 27 = .ok (.iload_n 3, 1) := by decide +kernel
theorem dX7_say_28 : decode cX7_say 28 = .ok (.iconst 1, 1) := by decide +kernel
theorem dX7_say_29 : decode cX7_say 29 = .ok (.iadd, 1) := by decide +kernel
theorem dX7_say_30 : decode cX7_say 30 = .ok (.iastore, 1) := by decide +kernel
theorem dX7_say_31 : decode cX7_say 31 = .ok (.return_, 1) := by decide +kernel
theorem dX7_likeBits_0 : decode cX7_likeBits 0 = .ok (.iconst 0, 1) := by decide +kernel
theorem dX7_likeBits_1 : decode cX7_likeBits 1 = .ok (.istore_n 3, 1) := by decide +kernel
theorem dX7_likeBits_2 : decode cX7_likeBits 2 = .ok (.iconst 0, 1) := by decide +kernel
theorem dX7_likeBits_3 : decode cX7_likeBits 3 = .ok (.istore 4, 2) := by decide +kernel
theorem dX7_likeBits_5 : decode cX7_likeBits 5 = .ok (.iload 4, 2) := by decide +kernel
theorem dX7_likeBits_7 : decode cX7_likeBits 7 = .ok (.iload_n 2, 1) := by decide +kernel
theorem dX7_likeBits_8 : decode cX7_likeBits 8 = .ok (.if_icmp .ge 37, 3) := by decide +kernel
theorem dX7_likeBits_11 : decode cX7_likeBits 11 = .ok (.iload 4, 2) := by decide +kernel
theorem dX7_likeBits_13 : decode cX7_likeBits 13 = .ok (.bipush 8, 2) := by decide +kernel
theorem dX7_likeBits_15 : decode cX7_likeBits 15 = .ok (.if_icmp .ge 30, 3) := by decide +kernel
theorem dX7_likeBits_18 : decode cX7_likeBits 18 = .ok (.iload_n 3, 1) := by decide +kernel
theorem dX7_likeBits_19 : decode cX7_likeBits 19 = .ok (.aload_n 0, 1) := by decide +kernel
theorem dX7_likeBits_20 : decode cX7_likeBits 20 = .ok (.iload_n 1, 1) := by decide +kernel
theorem dX7_likeBits_21 : decode cX7_likeBits 21 = .ok (.iload 4, 2) := by decide +kernel
theorem dX7_likeBits_23 : decode cX7_likeBits 23 = .ok (.invokevirtual 58, 3) := by decide +kernel
theorem dX7_likeBits_26 : decode cX7_likeBits 26 = .ok (.ifCond .eq 10, 3) := by decide +kernel
theorem dX7_likeBits_29 : decode cX7_likeBits 29 = .ok (.iconst 1, 1) := by decide +kernel
theorem dX7_likeBits_30 : decode cX7_likeBits 30 = .ok (.iload 4, 2) := by decide +kernel
theorem dX7_likeBits_32 : decode cX7_likeBits 32 = .ok (.ishl, 1) := by decide +kernel
theorem dX7_likeBits_33 : decode cX7_likeBits 33 = .ok (.goto 4, 3) := by decide +kernel
theorem dX7_likeBits_36 : decode cX7_likeBits 36 = .ok (.iconst 0, 1) := by decide +kernel
theorem dX7_likeBits_37 : decode cX7_likeBits 37 = .ok (.ior, 1) := by decide +kernel
theorem dX7_likeBits_38 : decode cX7_likeBits 38 = .ok (.istore_n 3, 1) := by decide +kernel
theorem dX7_likeBits_39 : decode cX7_likeBits 39 = .ok (.iinc 4 1, 3) := by decide +kernel
theorem dX7_likeBits_42 : decode cX7_likeBits 42 = .ok (.goto (-37), 3) := by decide +kernel
theorem dX7_likeBits_45 : decode cX7_likeBits 45 = .ok (.iload_n 3, 1) := by decide +kernel
theorem dX7_likeBits_46 : decode cX7_likeBits 46 = .ok (.ireturn, 1) := by decide +kernel
theorem dX7_sameVersion_0 : decode cX7_sameVersion 0 = .ok (.aload_n 0, 1) := by decide +kernel
theorem dX7_sameVersion_1 : decode cX7_sameVersion 1 = .ok (.getfield 16, 3) := by decide +kernel
theorem dX7_sameVersion_4 : decode cX7_sameVersion 4 = .ok (.iload_n 1, 1) := by decide +kernel
theorem dX7_sameVersion_5 : decode cX7_sameVersion 5 = .ok (.iaload, 1) := by decide +kernel
theorem dX7_sameVersion_6 : decode cX7_sameVersion 6 = .ok (.aload_n 0, 1) := by decide +kernel
theorem dX7_sameVersion_7 : decode cX7_sameVersion 7 = .ok (.getfield 16, 3) := by decide +kernel
theorem dX7_sameVersion_10 : decode cX7_sameVersion 10 = .ok (.iload_n 2, 1) := by decide +kernel
theorem dX7_sameVersion_11 : decode cX7_sameVersion 11 = .ok (.iaload, 1) := by decide +kernel
theorem dX7_sameVersion_12 : decode cX7_sameVersion 12 = .ok (.if_icmp .eq 5, 3) := by decide +kernel
theorem dX7_sameVersion_15 : decode cX7_sameVersion 15 = .ok (.iconst 0, 1) := by decide +kernel
theorem dX7_sameVersion_16 : decode cX7_sameVersion 16 = .ok (.ireturn, 1) := by decide +kernel
theorem dX7_sameVersion_17 : decode cX7_sameVersion 17 = .ok (.iconst 0, 1) := by decide +kernel
theorem dX7_sameVersion_18 : decode cX7_sameVersion 18 = .ok (.istore_n 3, 1) := by decide +kernel
theorem dX7_sameVersion_19 : decode cX7_sameVersion 19 = .ok (.iload_n 3, 1) := by decide +kernel
theorem dX7_sameVersion_20 : decode cX7_sameVersion 20 = .ok (.aload_n 0, 1) := by decide +kernel
theorem dX7_sameVersion_21 : decode cX7_sameVersion 21 = .ok (.getfield 16, 3) := by decide +kernel
theorem dX7_sameVersion_24 : decode cX7_sameVersion 24 = .ok (.iload_n 1, 1) := by decide +kernel
theorem dX7_sameVersion_25 : decode cX7_sameVersion 25 = .ok (.iaload, 1) := by decide +kernel
theorem dX7_sameVersion_26 : decode cX7_sameVersion 26 = .ok (.if_icmp .ge 30, 3) := by decide +kernel
theorem dX7_sameVersion_29 : decode cX7_sameVersion 29 = .ok (.aload_n 0, 1) := by decide +kernel
theorem dX7_sameVersion_30 : decode cX7_sameVersion 30 = .ok (.getfield 11, 3) := by decide +kernel
theorem dX7_sameVersion_33 : decode cX7_sameVersion 33 = .ok (.iload_n 1, 1) := by decide +kernel
theorem dX7_sameVersion_34 : decode cX7_sameVersion 34 = .ok (.aaload, 1) := by decide +kernel
theorem dX7_sameVersion_35 : decode cX7_sameVersion 35 = .ok (.iload_n 3, 1) := by decide +kernel
theorem dX7_sameVersion_36 : decode cX7_sameVersion 36 = .ok (.iaload, 1) := by decide +kernel
theorem dX7_sameVersion_37 : decode cX7_sameVersion 37 = .ok (.aload_n 0, 1) := by decide +kernel
theorem dX7_sameVersion_38 : decode cX7_sameVersion 38 = .ok (.getfield 11, 3) := by decide +kernel
theorem dX7_sameVersion_41 : decode cX7_sameVersion 41 = .ok (.iload_n 2, 1) := by decide +kernel
theorem dX7_sameVersion_42 : decode cX7_sameVersion 42 = .ok (.aaload, 1) := by decide +kernel
theorem dX7_sameVersion_43 : decode cX7_sameVersion 43 = .ok (.iload_n 3, 1) := by decide +kernel
theorem dX7_sameVersion_44 : decode cX7_sameVersion 44 = .ok (.iaload, 1) := by decide +kernel
theorem dX7_sameVersion_45 : decode cX7_sameVersion 45 = .ok (.if_icmp .eq 5, 3) := by decide +kernel
theorem dX7_sameVersion_48 : decode cX7_sameVersion 48 = .ok (.iconst 0, 1) := by decide +kernel
theorem dX7_sameVersion_49 : decode cX7_sameVersion 49 = .ok (.ireturn, 1) := by decide +kernel
theorem dX7_sameVersion_50 : decode cX7_sameVersion 50 = .ok (.iinc 3 1, 3) := by decide +kernel
theorem dX7_sameVersion_53 : decode cX7_sameVersion 53 = .ok (.goto (-34), 3) := by decide +kernel
theorem dX7_sameVersion_56 : decode cX7_sameVersion 56 = .ok (.iconst 1, 1) := by decide +kernel
theorem dX7_sameVersion_57 : decode cX7_sameVersion 57 = .ok (.ireturn, 1) := by decide +kernel
theorem dX8_init_0 : decode cX8_init 0 = .ok (.aload_n 0, 1) := by decide +kernel
theorem dX8_init_1 : decode cX8_init 1 = .ok (.invokespecial 3, 3) := by decide +kernel
theorem dX8_init_4 : decode cX8_init 4 = .ok (.aload_n 0, 1) := by decide +kernel
theorem dX8_init_5 : decode cX8_init 5 = .ok (.sipush 600, 3) := by decide +kernel
theorem dX8_init_8 : decode cX8_init 8 = .ok (.newarray .byte, 2) := by decide +kernel
theorem dX8_init_10 : decode cX8_init 10 = .ok (.putfield 9, 3) := by decide +kernel
theorem dX8_init_13 : decode cX8_init 13 = .ok (.aload_n 0, 1) := by decide +kernel
theorem dX8_init_14 : decode cX8_init 14 = .ok (.iconst 0, 1) := by decide +kernel
theorem dX8_init_15 : decode cX8_init 15 = .ok (.putfield 15, 3) := by decide +kernel
theorem dX8_init_18 : decode cX8_init 18 = .ok (.aload_n 0, 1) := by decide +kernel
theorem dX8_init_19 : decode cX8_init 19 = .ok (.iconst 0, 1) := by decide +kernel
theorem dX8_init_20 : decode cX8_init 20 = .ok (.putfield 19, 3) := by decide +kernel
theorem dX8_init_23 : decode cX8_init 23 = .ok (.aload_n 0, 1) := by decide +kernel
theorem dX8_init_24 : decode cX8_init 24 = .ok (.iconst (-1), 1) := by decide +kernel
theorem dX8_init_25 : decode cX8_init 25 = .ok (.putfield 22, 3) := by decide +kernel
theorem dX8_init_28 : decode cX8_init 28 = .ok (.aload_n 0, 1) := by decide +kernel
theorem dX8_init_29 : decode cX8_init 29 = .ok (.iconst 4, 1) := by decide +kernel
theorem dX8_init_30 : decode cX8_init 30 = .ok (.newarray .int, 2) := by decide +kernel
theorem dX8_init_32 : decode cX8_init 32 = .ok (.putfield 25, 3) := by decide +kernel
theorem dX8_init_35 : decode cX8_init 35 = .ok (.aload_n 0, 1) := by decide +kernel
theorem dX8_init_36 : decode cX8_init 36 = .ok (.iconst 2, 1) := by decide +kernel
theorem dX8_init_37 : decode cX8_init 37 = .ok (.anewarray 29, 3) := by decide +kernel
theorem dX8_init_40 : decode cX8_init 40 = .ok (.putfield 31, 3) := by decide +kernel
theorem dX8_init_43 : decode cX8_init 43 = .ok (.aload_n 0, 1) := by decide +kernel
theorem dX8_init_44 : decode cX8_init 44 = .ok (.iconst 2, 1) := by decide +kernel
theorem dX8_init_45 : decode cX8_init 45 = .ok (.anewarray 35, 3) := by decide +kernel
theorem dX8_init_48 : decode cX8_init 48 = .ok (.putfield 37, 3) := by decide +kernel
theorem dX8_init_51 : decode cX8_init 51 = .ok (.aload_n 0, 1) := by decide +kernel
theorem dX8_init_52 : decode cX8_init 52 = .ok (.iconst 2, 1) := by decide +kernel
theorem dX8_init_53 : decode cX8_init 53 = .ok (.anewarray 41, 3) := by decide +kernel
theorem dX8_init_56 : decode cX8_init 56 = .ok (.putfield 43, 3) := by decide +kernel
theorem dX8_init_59 : decode cX8_init 59 = .ok (.aload_n 0, 1) := by decide +kernel
theorem dX8_init_60 : decode cX8_init 60 = .ok (.iconst 2, 1) := by decide +kernel
theorem dX8_init_61 : decode cX8_init 61 = .ok (.anewarray 47, 3) := by decide +kernel
theorem dX8_init_64 : decode cX8_init 64 = .ok (.putfield 49, 3) := by decide +kernel
theorem dX8_init_67 : decode cX8_init 67 = .ok (.iconst 0, 1) := by decide +kernel
theorem dX8_init_68 : decode cX8_init 68 = .ok (.istore_n 1, 1) := by decide +kernel
theorem dX8_init_69 : decode cX8_init 69 = .ok (.iload_n 1, 1) := by decide +kernel
theorem dX8_init_70 : decode cX8_init 70 = .ok (.iconst 2, 1) := by decide +kernel
theorem dX8_init_71 : decode cX8_init 71 = .ok (.if_icmp .ge 61, 3) := by decide +kernel
theorem dX8_init_74 : decode cX8_init 74 = .ok (.aload_n 0, 1) := by decide +kernel
theorem dX8_init_75 : decode cX8_init 75 = .ok (.getfield 31, 3) := by decide +kernel
theorem dX8_init_78 : decode cX8_init 78 = .ok (.iload_n 1, 1) := by decide +kernel
theorem dX8_init_79 : decode cX8_init 79 = .ok (.new 29, 3) := by decide +kernel
theorem dX8_init_82 : decode cX8_init 82 = .ok (.dup, 1) := by decide +kernel
theorem dX8_init_83 : decode cX8_init 83 = .ok (.invokespecial 53, 3) := by decide +kernel
theorem dX8_init_86 : decode cX8_init 86 = .ok (.aastore, 1) := by decide +kernel
theorem dX8_init_87 : decode cX8_init 87 = .ok (.aload_n 0, 1) := by decide +kernel
theorem dX8_init_88 : decode cX8_init 88 = .ok (.getfield 37, 3) := by decide +kernel
theorem dX8_init_91 : decode cX8_init 91 = .ok (.iload_n 1, 1) := by decide +kernel
theorem dX8_init_92 : decode cX8_init 92 = .ok (.new 35, 3) := by decide +kernel
theorem dX8_init_95 : decode cX8_init 95 = .ok (.dup, 1) := by decide +kernel
theorem dX8_init_96 : decode cX8_init 96 = .ok (.invokespecial 54, 3) := by decide +kernel
theorem dX8_init_99 : decode cX8_init 99 = .ok (.aastore, 1) := by decide +kernel
theorem dX8_init_100 : decode cX8_init 100 = .ok (.aload_n 0, 1) := by decide +kernel
theorem dX8_init_101 : decode cX8_init 101 = .ok (.getfield 43, 3) := by decide +kernel
theorem dX8_init_104 : decode cX8_init 104 = .ok (.iload_n 1, 1) := by decide +kernel
theorem dX8_init_105 : decode cX8_init 105 = .ok (.new 41, 3) := by decide +kernel
theorem dX8_init_108 : decode cX8_init 108 = .ok (.dup, 1) := by decide +kernel
theorem dX8_init_109 : decode cX8_init 109 = .ok (.invokespecial 55, 3) := by decide +kernel
theorem dX8_init_112 : decode cX8_init 112 = .ok (.aastore, 1) := by decide +kernel
theorem dX8_init_113 : decode cX8_init 113 = .ok (.aload_n 0, 1) := by decide +kernel
theorem dX8_init_114 : decode cX8_init 114 = .ok (.getfield 49, 3) := by decide +kernel
theorem dX8_init_117 : decode cX8_init 117 = .ok (.iload_n 1, 1) := by decide +kernel
theorem dX8_init_118 : decode cX8_init 118 = .ok (.new 47, 3) := by decide +kernel
theorem dX8_init_121 : decode cX8_init 121 = .ok (.dup, 1) := by decide +kernel
theorem dX8_init_122 : decode cX8_init 122 = .ok (.invokespecial 56, 3) := by decide +kernel
theorem dX8_init_125 : decode cX8_init 125 = .ok (.aastore, 1) := by decide +kernel
theorem dX8_init_126 : decode cX8_init 126 = .ok (.iinc 1 1, 3) := by decide +kernel
theorem dX8_init_129 : decode cX8_init 129 = .ok (.goto (-60), 3) := by decide +kernel
theorem dX8_init_132 : decode cX8_init 132 = .ok (.return_, 1) := by decide +kernel
theorem dX8_push_0 : decode cX8_push 0 = .ok (.bipush 24, 2) := by decide +kernel
theorem dX8_push_2 : decode cX8_push 2 = .ok (.istore_n 2, 1) := by decide +kernel
theorem dX8_push_3 : decode cX8_push 3 = .ok (.iload_n 2, 1) := by decide +kernel
theorem dX8_push_4 : decode cX8_push 4 = .ok (.ifCond .lt 42, 3) := by decide +kernel
theorem dX8_push_7 : decode cX8_push 7 = .ok (.aload_n 0, 1) := by decide +kernel
theorem dX8_push_8 : decode cX8_push 8 = .ok (.getfield 15, 3) := by decide +kernel
theorem dX8_push_11 : decode cX8_push 11 = .ok (.sipush 600, 3) := by decide +kernel
theorem dX8_push_14 : decode cX8_push 14 = .ok (.if_icmp .ge 32, 3) := by decide +kernel
theorem dX8_push_17 : decode cX8_push 17 = .ok (.aload_n 0, 1) := by decide +kernel
theorem dX8_push_18 : decode cX8_push 18 = .ok (.getfield 9, 3) := by decide +kernel
theorem dX8_push_21 : decode cX8_push 21 = .ok (.aload_n 0, 1) := by decide +kernel
theorem dX8_push_22 : decode cX8_push 22 = .ok (.getfield 15, 3) := by decide +kernel
theorem dX8_push_25 : decode cX8_push 25 = .ok (.iload_n 1, 1) := by decide +kernel
theorem dX8_push_26 : decode cX8_push 26 = .ok (.iload_n 2, 1) := by decide +kernel
theorem dX8_push_27 : decode cX8_push 27 = .ok (.ishr, 1) := by decide +kernel
theorem dX8_push_28 : decode cX8_push 28 = .ok (.i2b, 1) := by decide +kernel
theorem dX8_push_29 : decode cX8_push 29 = .ok (.bastore, 1) := by decide +kernel
theorem dX8_push_30 : decode cX8_push 30 = .ok (.aload_n 0, 1) := by decide +kernel
theorem dX8_push_31 : decode cX8_push 31 = .ok (.dup, 1) := by decide +kernel
theorem dX8_push_32 : decode cX8_push 32 = .ok (.getfield 15, 3) := by decide +kernel
theorem dX8_push_35 : decode cX8_push 35 = .ok (.iconst 1, 1) := by decide +kernel
theorem dX8_push_36 : decode cX8_push 36 = .ok (.iadd, 1) := by decide +kernel
theorem dX8_push_37 : decode cX8_push 37 = .ok (.putfield 15, 3) := by decide +kernel
theorem dX8_push_40 : decode cX8_push 40 = .ok (.iinc 2 (-8), 3) := by decide +kernel
theorem dX8_push_43 : decode cX8_push 43 = .ok (.goto (-40), 3) := by decide +kernel
theorem dX8_push_46 : decode cX8_push 46 = .ok (.return_, 1) := by decide +kernel
theorem dX8_copyFrom_0 : decode cX8_copyFrom 0 = .ok (.aload_n 1, 1) := by decide +kernel
theorem dX8_copyFrom_1 : decode cX8_copyFrom 1 = .ok (.getfield 9, 3) := by decide +kernel
theorem dX8_copyFrom_4 : decode cX8_copyFrom 4 = .ok (.iconst 0, 1) := by decide +kernel
theorem dX8_copyFrom_5 : decode cX8_copyFrom 5 = .ok (.aload_n 0, 1) := by decide +kernel
theorem dX8_copyFrom_6 : decode cX8_copyFrom 6 = .ok (.getfield 9, 3) := by decide +kernel
theorem dX8_copyFrom_9 : decode cX8_copyFrom 9 = .ok (.iconst 0, 1) := by decide +kernel
theorem dX8_copyFrom_10 : decode cX8_copyFrom 10 = .ok (.sipush 600, 3) := by decide +kernel
theorem dX8_copyFrom_13 : decode cX8_copyFrom 13 = .ok (.invokestatic 57, 3) := by decide +kernel
theorem dX8_copyFrom_16 : decode cX8_copyFrom 16 = .ok (.aload_n 0, 1) := by decide +kernel
theorem dX8_copyFrom_17 : decode cX8_copyFrom 17 = .ok (.aload_n 1, 1) := by decide +kernel
theorem dX8_copyFrom_18 : decode cX8_copyFrom 18 = .ok (.getfield 15, 3) := by decide +kernel
theorem dX8_copyFrom_21 : decode cX8_copyFrom 21 = .ok (.putfield 15, 3) := by decide +kernel
theorem dX8_copyFrom_24 : decode cX8_copyFrom 24 = .ok (.aload_n 0, 1) := by decide +kernel
theorem dX8_copyFrom_25 : decode cX8_copyFrom 25 = .ok (.aload_n 1, 1) := by decide +kernel
theorem dX8_copyFrom_26 : decode cX8_copyFrom 26 = .ok (.getfield 19, 3) := by decide +kernel
theorem dX8_copyFrom_29 : decode cX8_copyFrom 29 = .ok (.putfield 19, 3) := by decide +kernel
theorem dX8_copyFrom_32 : decode cX8_copyFrom 32 = .ok (.aload_n 0, 1) := by decide +kernel
theorem dX8_copyFrom_33 : decode cX8_copyFrom 33 = .ok (.aload_n 1, 1) := by decide +kernel
theorem dX8_copyFrom_34 : decode cX8_copyFrom 34 = .ok (.getfield 22, 3) := by decide +kernel
theorem dX8_copyFrom_37 : decode cX8_copyFrom 37 = .ok (.putfield 22, 3) := by decide +kernel
theorem dX8_copyFrom_40 : decode cX8_copyFrom 40 = .ok (.aload_n 1, 1) := by decide +kernel
theorem dX8_copyFrom_41 : decode cX8_copyFrom 41 = .ok (.getfield 25, 3) := by decide +kernel
theorem dX8_copyFrom_44 : decode cX8_copyFrom 44 = .ok (.iconst 0, 1) := by decide +kernel
theorem dX8_copyFrom_45 : decode cX8_copyFrom 45 = .ok (.aload_n 0, 1) := by decide +kernel
theorem dX8_copyFrom_46 : decode cX8_copyFrom 46 = .ok (.getfield 25, 3) := by decide +kernel
theorem dX8_copyFrom_49 : decode cX8_copyFrom 49 = .ok (.iconst 0, 1) := by decide +kernel
theorem dX8_copyFrom_50 : decode cX8_copyFrom 50 = .ok (.iconst 4, 1) := by decide +kernel
theorem dX8_copyFrom_51 : decode cX8_copyFrom 51 = .ok (.invokestatic 57, 3) := by decide +kernel
theorem dX8_copyFrom_54 : decode cX8_copyFrom 54 = .ok (.iconst 0, 1) := by decide +kernel
theorem dX8_copyFrom_55 : decode cX8_copyFrom 55 = .ok (.istore_n 2, 1) := by decide +kernel
theorem dX8_copyFrom_56 : decode cX8_copyFrom 56 = .ok (.iload_n 2, 1) := by decide +kernel
theorem dX8_copyFrom_57 : decode cX8_copyFrom 57 = .ok (.iconst 2, 1) := by decide +kernel
theorem dX8_copyFrom_58 : decode cX8_copyFrom 58 = .ok (.if_icmp .ge 69, 3) := by decide +kernel
theorem dX8_copyFrom_61 : decode cX8_copyFrom 61 = .ok (.aload_n 0, 1) := by decide +kernel
theorem dX8_copyFrom_62 : decode cX8_copyFrom 62 = .ok (.getfield 31, 3) := by decide +kernel
theorem dX8_copyFrom_65 : decode cX8_copyFrom 65 = .ok (.iload_n 2, 1) := by decide +kernel
theorem dX8_copyFrom_66 : decode cX8_copyFrom 66 = .ok (.aaload, 1) := by decide +kernel
theorem dX8_copyFrom_67 : decode cX8_copyFrom 67 = .ok (.aload_n 1, 1) := by decide +kernel
theorem dX8_copyFrom_68 : decode cX8_copyFrom 68 = .ok (.getfield 31, 3) := by decide +kernel
theorem dX8_copyFrom_71 : decode cX8_copyFrom 71 = .ok (.iload_n 2, 1) := by decide +kernel
theorem dX8_copyFrom_72 : decode cX8_copyFrom 72 = .ok (.aaload, 1) := by decide +kernel
theorem dX8_copyFrom_73 : decode cX8_copyFrom 73 = .ok (.invokevirtual 63, 3) := by decide +kernel
theorem dX8_copyFrom_76 : decode cX8_copyFrom 76 = .ok (.aload_n 0, 1) := by decide +kernel
theorem dX8_copyFrom_77 : decode cX8_copyFrom 77 = .ok (.getfield 37, 3) := by decide +kernel
theorem dX8_copyFrom_80 : decode cX8_copyFrom 80 = .ok (.iload_n 2, 1) := by decide +kernel
theorem dX8_copyFrom_81 : decode cX8_copyFrom 81 = .ok (.aaload, 1) := by decide +kernel
theorem dX8_copyFrom_82 : decode cX8_copyFrom 82 = .ok (.aload_n 1, 1) := by decide +kernel
theorem dX8_copyFrom_83 : decode cX8_copyFrom 83 = .ok (.getfield 37, 3) := by decide +kernel
theorem dX8_copyFrom_86 : decode cX8_copyFrom 86 = .ok (.iload_n 2, 1) := by decide +kernel
theorem dX8_copyFrom_87 : decode cX8_copyFrom 87 = .ok (.aaload, 1) := by decide +kernel
theorem dX8_copyFrom_88 : decode cX8_copyFrom 88 = .ok (.invokevirtual 67, 3) := by decide +kernel
theorem dX8_copyFrom_91 : decode cX8_copyFrom 91 = .ok (.aload_n 0, 1) := by decide +kernel
theorem dX8_copyFrom_92 : decode cX8_copyFrom 92 = .ok (.getfield 43, 3) := by decide +kernel
theorem dX8_copyFrom_95 : decode cX8_copyFrom 95 = .ok (.iload_n 2, 1) := by decide +kernel
theorem dX8_copyFrom_96 : decode cX8_copyFrom 96 = .ok (.aaload, 1) := by decide +kernel
theorem dX8_copyFrom_97 : decode cX8_copyFrom 97 = .ok (.aload_n 1, 1) := by decide +kernel
theorem dX8_copyFrom_98 : decode cX8_copyFrom 98 = .ok (.getfield 43, 3) := by decide +kernel
theorem dX8_copyFrom_101 : decode cX8_copyFrom 101 = .ok (.iload_n 2, 1) := by decide +kernel
theorem dX8_copyFrom_102 : decode cX8_copyFrom 102 = .ok (.aaload, 1) := by decide +kernel
theorem dX8_copyFrom_103 : decode cX8_copyFrom 103 = .ok (.invokevirtual 70, 3) := by decide +kernel
theorem dX8_copyFrom_106 : decode cX8_copyFrom 106 = .ok (.aload_n 0, 1) := by decide +kernel
theorem dX8_copyFrom_107 : decode cX8_copyFrom 107 = .ok (.getfield 49, 3) := by decide +kernel
theorem dX8_copyFrom_110 : decode cX8_copyFrom 110 = .ok (.iload_n 2, 1) := by decide +kernel
theorem dX8_copyFrom_111 : decode cX8_copyFrom 111 = .ok (.aaload, 1) := by decide +kernel
theorem dX8_copyFrom_112 : decode cX8_copyFrom 112 = .ok (.aload_n 1, 1) := by decide +kernel
theorem dX8_copyFrom_113 : decode cX8_copyFrom 113 = .ok (.getfield 49, 3) := by decide +kernel
theorem dX8_copyFrom_116 : decode cX8_copyFrom 116 = .ok (.iload_n 2, 1) := by decide +kernel
theorem dX8_copyFrom_117 : decode cX8_copyFrom 117 = .ok (.aaload, 1) := by decide +kernel
theorem dX8_copyFrom_118 : decode cX8_copyFrom 118 = .ok (.invokevirtual 73, 3) := by decide +kernel
theorem dX8_copyFrom_121 : decode cX8_copyFrom 121 = .ok (.iinc 2 1, 3) := by decide +kernel
theorem dX8_copyFrom_124 : decode cX8_copyFrom 124 = .ok (.goto (-68), 3) := by decide +kernel
theorem dX8_copyFrom_127 : decode cX8_copyFrom 127 = .ok (.return_, 1) := by decide +kernel
theorem dX9_init_0 : decode cX9_init 0 = .ok (.aload_n 0, 1) := by decide +kernel
theorem dX9_init_1 : decode cX9_init 1 = .ok (.invokespecial 3, 3) := by decide +kernel
theorem dX9_init_4 : decode cX9_init 4 = .ok (.aload_n 0, 1) := by decide +kernel
theorem dX9_init_5 : decode cX9_init 5 = .ok (.iconst 0, 1) := by decide +kernel
theorem dX9_init_6 : decode cX9_init 6 = .ok (.putfield 9, 3) := by decide +kernel
theorem dX9_init_9 : decode cX9_init 9 = .ok (.aload_n 0, 1) := by decide +kernel
theorem dX9_init_10 : decode cX9_init 10 = .ok (.bipush 8, 2) := by decide +kernel
theorem dX9_init_12 : decode cX9_init 12 = .ok (.newarray .int, 2) := by decide +kernel
theorem dX9_init_14 : decode cX9_init 14 = .ok (.putfield 15, 3) := by decide +kernel
theorem dX9_init_17 : decode cX9_init 17 = .ok (.aload_n 0, 1) := by decide +kernel
theorem dX9_init_18 : decode cX9_init 18 = .ok (.bipush 8, 2) := by decide +kernel
theorem dX9_init_20 : decode cX9_init 20 = .ok (.newarray .int, 2) := by decide +kernel
theorem dX9_init_22 : decode cX9_init 22 = .ok (.putfield 19, 3) := by decide +kernel
theorem dX9_init_25 : decode cX9_init 25 = .ok (.aload_n 0, 1) := by decide +kernel
theorem dX9_init_26 : decode cX9_init 26 = .ok (.bipush 8, 2) := by decide +kernel
theorem dX9_init_28 : decode cX9_init 28 = .ok (.newarray .int, 2) := by decide +kernel
theorem dX9_init_30 : decode cX9_init 30 = .ok (.putfield 22, 3) := by decide +kernel
theorem dX9_init_33 : decode cX9_init 33 = .ok (.aload_n 0, 1) := by decide +kernel
theorem dX9_init_34 : decode cX9_init 34 = .ok (.bipush 8, 2) := by decide +kernel
theorem dX9_init_36 : decode cX9_init 36 = .ok (.newarray .int, 2) := by decide +kernel
theorem dX9_init_38 : decode cX9_init 38 = .ok (.putfield 25, 3) := by decide +kernel
theorem dX9_init_41 : decode cX9_init 41 = .ok (.return_, 1) := by decide +kernel
theorem dX9_copyFrom_0 : decode cX9_copyFrom 0 = .ok (.aload_n 0, 1) := by decide +kernel
theorem dX9_copyFrom_1 : decode cX9_copyFrom 1 = .ok (.aload_n 1, 1) := by decide +kernel
theorem dX9_copyFrom_2 : decode cX9_copyFrom 2 = .ok (.getfield 9, 3) := by decide +kernel
theorem dX9_copyFrom_5 : decode cX9_copyFrom 5 = .ok (.putfield 9, 3) := by decide +kernel
theorem dX9_copyFrom_8 : decode cX9_copyFrom 8 = .ok (.aload_n 1, 1) := by decide +kernel
theorem dX9_copyFrom_9 : decode cX9_copyFrom 9 = .ok (.getfield 15, 3) := by decide +kernel
theorem dX9_copyFrom_12 : decode cX9_copyFrom 12 = .ok (.iconst 0, 1) := by decide +kernel
theorem dX9_copyFrom_13 : decode cX9_copyFrom 13 = .ok (.aload_n 0, 1) := by decide +kernel
theorem dX9_copyFrom_14 : decode cX9_copyFrom 14 = .ok (.getfield 15, 3) := by decide +kernel
theorem dX9_copyFrom_17 : decode cX9_copyFrom 17 = .ok (.iconst 0, 1) := by decide +kernel
theorem dX9_copyFrom_18 : decode cX9_copyFrom 18 = .ok (.bipush 8, 2) := by decide +kernel
theorem dX9_copyFrom_20 : decode cX9_copyFrom 20 = .ok (.invokestatic 28, 3) := by decide +kernel
theorem dX9_copyFrom_23 : decode cX9_copyFrom 23 = .ok (.aload_n 1, 1) := by decide +kernel
theorem dX9_copyFrom_24 : decode cX9_copyFrom 24 = .ok (.getfield 19, 3) := by decide +kernel
theorem dX9_copyFrom_27 : decode cX9_copyFrom 27 = .ok (.iconst 0, 1) := by decide +kernel
theorem dX9_copyFrom_28 : decode cX9_copyFrom 28 = .ok (.aload_n 0, 1) := by decide +kernel
theorem dX9_copyFrom_29 : decode cX9_copyFrom 29 = .ok (.getfield 19, 3) := by decide +kernel
theorem dX9_copyFrom_32 : decode cX9_copyFrom 32 = .ok (.iconst 0, 1) := by decide +kernel
theorem dX9_copyFrom_33 : decode cX9_copyFrom 33 = .ok (.bipush 8, 2) := by decide +kernel
theorem dX9_copyFrom_35 : decode cX9_copyFrom 35 = .ok (.invokestatic 28, 3) := by decide +kernel
theorem dX9_copyFrom_38 : decode cX9_copyFrom 38 = .ok (.aload_n 1, 1) := by decide +kernel
theorem dX9_copyFrom_39 : decode cX9_copyFrom 39 = .ok (.getfield 22, 3) := by decide +kernel
theorem dX9_copyFrom_42 : decode cX9_copyFrom 42 = .ok (.iconst 0, 1) := by decide +kernel
theorem dX9_copyFrom_43 : decode cX9_copyFrom 43 = .ok (.aload_n 0, 1) := by decide +kernel
theorem dX9_copyFrom_44 : decode cX9_copyFrom 44 = .ok (.getfield 22, 3) := by decide +kernel
theorem dX9_copyFrom_47 : decode cX9_copyFrom 47 = .ok (.iconst 0, 1) := by decide +kernel
theorem dX9_copyFrom_48 : decode cX9_copyFrom 48 = .ok (.bipush 8, 2) := by decide +kernel
theorem dX9_copyFrom_50 : decode cX9_copyFrom 50 = .ok (.invokestatic 28, 3) := by decide +kernel
theorem dX9_copyFrom_53 : decode cX9_copyFrom 53 = .ok (.aload_n 1, 1) := by decide +kernel
theorem dX9_copyFrom_54 : decode cX9_copyFrom 54 = .ok (.getfield 25, 3) := by decide +kernel
theorem dX9_copyFrom_57 : decode cX9_copyFrom 57 = .ok (.iconst 0, 1) := by decide +kernel
theorem dX9_copyFrom_58 : decode cX9_copyFrom 58 = .ok (.aload_n 0, 1) := by decide +kernel
theorem dX9_copyFrom_59 : decode cX9_copyFrom 59 = .ok (.getfield 25, 3) := by decide +kernel
theorem dX9_copyFrom_62 : decode cX9_copyFrom 62 = .ok (.iconst 0, 1) := by decide +kernel
theorem dX9_copyFrom_63 : decode cX9_copyFrom 63 = .ok (.bipush 8, 2) := by decide +kernel
theorem dX9_copyFrom_65 : decode cX9_copyFrom 65 = .ok (.invokestatic 28, 3) := by decide +kernel
theorem dX9_copyFrom_68 : decode cX9_copyFrom 68 = .ok (.return_, 1) := by decide +kernel
theorem dX9_depth_0 : decode cX9_depth 0 = .ok (.iconst 1, 1) := by decide +kernel
theorem dX9_depth_1 : decode cX9_depth 1 = .ok (.istore_n 2, 1) := by decide +kernel
theorem dX9_depth_2 : decode cX9_depth 2 = .ok (.iload_n 1, 1) := by decide +kernel
theorem dX9_depth_3 : decode cX9_depth 3 = .ok (.istore_n 3, 1) := by decide +kernel
theorem dX9_depth_4 : decode cX9_depth 4 = .ok (.iconst 0, 1) := by decide +kernel
theorem dX9_depth_5 : decode cX9_depth 5 = .ok (.istore 4, 2) := by decide +kernel
theorem dX9_depth_7 : decode cX9_depth 7 = .ok (.iload 4, 2) := by decide +kernel
theorem dX9_depth_9 : decode cX9_depth 9 = .ok (.bipush 8, 2) := by decide +kernel
theorem dX9_depth_11 : decode cX9_depth 11 = .ok (.if_icmp .ge 29, 3) := by decide +kernel
theorem dX9_depth_14 : decode cX9_depth 14 = .ok (.aload_n 0, 1) := by decide +kernel
theorem dX9_depth_15 : decode cX9_depth 15 = .ok (.getfield 15, 3) := by decide +kernel
theorem dX9_depth_18 : decode cX9_depth 18 = .ok (.iload_n 3, 1) := by decide +kernel
theorem dX9_depth_19 : decode cX9_depth 19 = .ok (.iaload, 1) := by decide +kernel
theorem dX9_depth_20 : decode cX9_depth 20 = .ok (.iload_n 3, 1) := by decide +kernel
theorem dX9_depth_21 : decode cX9_depth 21 = .ok (.if_icmp .ge 19, 3) := by decide +kernel
theorem dX9_depth_24 : decode cX9_depth 24 = .ok (.aload_n 0, 1) := by decide +kernel
theorem dX9_depth_25 : decode cX9_depth 25 = .ok (.getfield 15, 3) := by decide +kernel
theorem dX9_depth_28 : decode cX9_depth 28 = .ok (.iload_n 3, 1) := by decide +kernel
theorem dX9_depth_29 : decode cX9_depth 29 = .ok (.iaload, 1) := by decide +kernel
theorem dX9_depth_30 : decode cX9_depth 30 = .ok (.istore_n 3, 1) := by decide +kernel
theorem dX9_depth_31 : decode cX9_depth 31 = .ok (.iinc 2 1, 3) := by decide +kernel
theorem dX9_depth_34 : decode cX9_depth 34 = .ok (.iinc 4 1, 3) := by decide +kernel
theorem dX9_depth_37 : decode cX9_depth 37 = .ok (.goto (-30), 3) := by decide +kernel
theorem dX9_depth_40 : decode cX9_depth 40 = .ok (.iload_n 2, 1) := by decide +kernel
theorem dX9_depth_41 : decode cX9_depth 41 = .ok (.ireturn, 1) := by decide +kernel
theorem dX10_init_0 : decode cX10_init 0 = .ok (.aload_n 0, 1) := by decide +kernel
theorem dX10_init_1 : decode cX10_init 1 = .ok (.invokespecial 3, 3) := by decide +kernel
theorem dX10_init_4 : decode cX10_init 4 = .ok (.aload_n 0, 1) := by decide +kernel
theorem dX10_init_5 : decode cX10_init 5 = .ok (.iconst 4, 1) := by decide +kernel
theorem dX10_init_6 : decode cX10_init 6 = .ok (.newarray .int, 2) := by decide +kernel
theorem dX10_init_8 : decode cX10_init 8 = .ok (.putfield 9, 3) := by decide +kernel
theorem dX10_init_11 : decode cX10_init 11 = .ok (.aload_n 0, 1) := by decide +kernel
theorem dX10_init_12 : decode cX10_init 12 = .ok (.iconst 2, 1) := by decide +kernel
theorem dX10_init_13 : decode cX10_init 13 = .ok (.newarray .int, 2) := by decide +kernel
theorem dX10_init_15 : decode cX10_init 15 = .ok (.putfield 15, 3) := by decide +kernel
theorem dX10_init_18 : decode cX10_init 18 = .ok (.aload_n 0, 1) := by decide +kernel
theorem dX10_init_19 : decode cX10_init 19 = .ok (.iconst 2, 1) := by decide +kernel
theorem dX10_init_20 : decode cX10_init 20 = .ok (.newarray .int, 2) := by decide +kernel
theorem dX10_init_22 : decode cX10_init 22 = .ok (.putfield 18, 3) := by decide +kernel
theorem dX10_init_25 : decode cX10_init 25 = .ok (.aload_n 0, 1) := by decide +kernel
theorem dX10_init_26 : decode cX10_init 26 = .ok (.iconst 2, 1) := by decide +kernel
theorem dX10_init_27 : decode cX10_init 27 = .ok (.newarray .int, 2) := by decide +kernel
theorem dX10_init_29 : decode cX10_init 29 = .ok (.putfield 21, 3) := by decide +kernel
theorem dX10_init_32 : decode cX10_init 32 = .ok (.aload_n 0, 1) := by decide +kernel
theorem dX10_init_33 : decode cX10_init 33 = .ok (.iconst 2, 1) := by decide +kernel
theorem dX10_init_34 : decode cX10_init 34 = .ok (.newarray .int, 2) := by decide +kernel
theorem dX10_init_36 : decode cX10_init 36 = .ok (.putfield 24, 3) := by decide +kernel
theorem dX10_init_39 : decode cX10_init 39 = .ok (.aload_n 0, 1) := by decide +kernel
theorem dX10_init_40 : decode cX10_init 40 = .ok (.iconst 2, 1) := by decide +kernel
theorem dX10_init_41 : decode cX10_init 41 = .ok (.newarray .int, 2) := by decide +kernel
theorem dX10_init_43 : decode cX10_init 43 = .ok (.putfield 27, 3) := by decide +kernel
theorem dX10_init_46 : decode cX10_init 46 = .ok (.aload_n 0, 1) := by decide +kernel
theorem dX10_init_47 : decode cX10_init 47 = .ok (.bipush 12, 2) := by decide +kernel
theorem dX10_init_49 : decode cX10_init 49 = .ok (.newarray .int, 2) := by decide +kernel
theorem dX10_init_51 : decode cX10_init 51 = .ok (.putfield 30, 3) := by decide +kernel
theorem dX10_init_54 : decode cX10_init 54 = .ok (.aload_n 0, 1) := by decide +kernel
theorem dX10_init_55 : decode cX10_init 55 = .ok (.bipush 12, 2) := by decide +kernel
theorem dX10_init_57 : decode cX10_init 57 = .ok (.newarray .int, 2) := by decide +kernel
theorem dX10_init_59 : decode cX10_init 59 = .ok (.putfield 33, 3) := by decide +kernel
theorem dX10_init_62 : decode cX10_init 62 = .ok (.aload_n 0, 1) := by decide +kernel
theorem dX10_init_63 : decode cX10_init 63 = .ok (.bipush 48, 2) := by decide +kernel
theorem dX10_init_65 : decode cX10_init 65 = .ok (.newarray .int, 2) := by decide +kernel
theorem dX10_init_67 : decode cX10_init 67 = .ok (.putfield 36, 3) := by decide +kernel
theorem dX10_init_70 : decode cX10_init 70 = .ok (.aload_n 0, 1) := by decide +kernel
theorem dX10_init_71 : decode cX10_init 71 = .ok (.invokevirtual 39, 3) := by decide +kernel
theorem dX10_init_74 : decode cX10_init 74 = .ok (.return_, 1) := by decide +kernel
theorem dX10_slot_0 : decode cX10_slot 0 = .ok (.iload_n 0, 1) := by decide +kernel
theorem dX10_slot_1 : decode cX10_slot 1 = .ok (.bipush 6, 2) := by decide +kernel
theorem dX10_slot_3 : decode cX10_slot 3 = .ok (.imul, 1) := by decide +kernel
theorem dX10_slot_4 : decode cX10_slot 4 = .ok (.iload_n 1, 1) := by decide +kernel
theorem dX10_slot_5 : decode cX10_slot 5 = .ok (.iadd, 1) := by decide +kernel
theorem dX10_slot_6 : decode cX10_slot 6 = .ok (.ireturn, 1) := by decide +kernel
theorem dX10_reset_0 : decode cX10_reset 0 = .ok (.aload_n 0, 1) := by decide +kernel
theorem dX10_reset_1 : decode cX10_reset 1 = .ok (.iconst 1, 1) := by decide +kernel
theorem dX10_reset_2 : decode cX10_reset 2 = .ok (.putfield 42, 3) := by decide +kernel
theorem dX10_reset_5 : decode cX10_reset 5 = .ok (.aload_n 0, 1) := by decide +kernel
theorem dX10_reset_6 : decode cX10_reset 6 = .ok (.iconst 0, 1) := by decide +kernel
theorem dX10_reset_7 : decode cX10_reset 7 = .ok (.putfield 46, 3) := by decide +kernel
theorem dX10_reset_10 : decode cX10_reset 10 = .ok (.aload_n 0, 1) := by decide +kernel
theorem dX10_reset_11 : decode cX10_reset 11 = .ok (.iconst 0, 1) := by decide +kernel
theorem dX10_reset_12 : decode cX10_reset 12 = .ok (.putfield 49, 3) := by decide +kernel
theorem dX10_reset_15 : decode cX10_reset 15 = .ok (.iconst 0, 1) := by decide +kernel
theorem dX10_reset_16 : decode cX10_reset 16 = .ok (.istore_n 1, 1) := by decide +kernel
theorem dX10_reset_17 : decode cX10_reset 17 = .ok (.iload_n 1, 1) := by decide +kernel
theorem dX10_reset_18 : decode cX10_reset 18 = .ok (.iconst 4, 1) := by decide +kernel
theorem dX10_reset_19 : decode cX10_reset 19 = .ok (.if_icmp .ge 16, 3) := by decide +kernel
theorem dX10_reset_22 : decode cX10_reset 22 = .ok (.aload_n 0, 1) := by decide +kernel
theorem dX10_reset_23 : decode cX10_reset 23 = .ok (.getfield 9, 3) := by decide +kernel
theorem dX10_reset_26 : decode cX10_reset 26 = .ok (.iload_n 1, 1) := by decide +kernel
theorem dX10_reset_27 : decode cX10_reset 27 = .ok (.iload_n 1, 1) := by decide +kernel
theorem dX10_reset_28 : decode cX10_reset 28 = .ok (.iastore, 1) := by decide +kernel
theorem dX10_reset_29 : decode cX10_reset 29 = .ok (.iinc 1 1, 3) := by decide +kernel
theorem dX10_reset_32 : decode cX10_reset 32 = .ok (.goto (-15), 3) := by decide +kernel
theorem dX10_reset_35 : decode cX10_reset 35 = .ok (.iconst 0, 1) := by decide +kernel
theorem dX10_reset_36 : decode cX10_reset 36 = .ok (.istore_n 1, 1) := by decide +kernel
theorem dX10_reset_37 : decode cX10_reset 37 = .ok (.iload_n 1, 1) := by decide +kernel
theorem dX10_reset_38 : decode cX10_reset 38 = .ok (.iconst 2, 1) := by decide +kernel
theorem dX10_reset_39 : decode cX10_reset 39 = .ok (.if_icmp .ge 47, 3) := by decide +kernel
theorem dX10_reset_42 : decode cX10_reset 42 = .ok (.aload_n 0, 1) := by decide +kernel
theorem dX10_reset_43 : decode cX10_reset 43 = .ok (.getfield 15, 3) := by decide +kernel
theorem dX10_reset_46 : decode cX10_reset 46 = .ok (.iload_n 1, 1) := by decide +kernel
theorem dX10_reset_47 : decode cX10_reset 47 = .ok (.iconst 0, 1) := by decide +kernel
theorem dX10_reset_48 : decode cX10_reset 48 = .ok (.iastore, 1) := by decide +kernel
theorem dX10_reset_49 : decode cX10_reset 49 = .ok (.aload_n 0, 1) := by decide +kernel
theorem dX10_reset_50 : decode cX10_reset 50 = .ok (.getfield 18, 3) := by decide +kernel
theorem dX10_reset_53 : decode cX10_reset 53 = .ok (.iload_n 1, 1) := by decide +kernel
theorem dX10_reset_54 : decode cX10_reset 54 = .ok (.iconst 1, 1) := by decide +kernel
theorem dX10_reset_55 : decode cX10_reset 55 = .ok (.iastore, 1) := by decide +kernel
theorem dX10_reset_56 : decode cX10_reset 56 = .ok (.aload_n 0, 1) := by decide +kernel
theorem dX10_reset_57 : decode cX10_reset 57 = .ok (.getfield 21, 3) := by decide +kernel
theorem dX10_reset_60 : decode cX10_reset 60 = .ok (.iload_n 1, 1) := by decide +kernel
theorem dX10_reset_61 : decode cX10_reset 61 = .ok (.iconst 0, 1) := by decide +kernel
theorem dX10_reset_62 : decode cX10_reset 62 = .ok (.iastore, 1) := by decide +kernel
theorem dX10_reset_63 : decode cX10_reset 63 = .ok (.aload_n 0, 1) := by decide +kernel
theorem dX10_reset_64 : decode cX10_reset 64 = .ok (.getfield 24, 3) := by decide +kernel
theorem dX10_reset_67 : decode cX10_reset 67 = .ok (.iload_n 1, 1) := by decide +kernel
theorem dX10_reset_68 : decode cX10_reset 68 = .ok (.bipush 10, 2) := by decide +kernel
theorem dX10_reset_70 : decode cX10_reset 70 = .ok (.iload_n 1, 1) := by decide +kernel
theorem dX10_reset_71 : decode cX10_reset 71 = .ok (.imul, 1) := by decide +kernel
theorem dX10_reset_72 : decode cX10_reset 72 = .ok (.iastore, 1) := by decide +kernel
theorem dX10_reset_73 : decode cX10_reset 73 = .ok (.aload_n 0, 1) := by decide +kernel
theorem dX10_reset_74 : decode cX10_reset 74 = .ok (.getfield 27, 3) := by decide +kernel
theorem dX10_reset_77 : decode cX10_reset 77 = .ok (.iload_n 1, 1) := by decide +kernel
theorem dX10_reset_78 : decode cX10_reset 78 = .ok (.iconst 0, 1) := by decide +kernel
theorem dX10_reset_79 : decode cX10_reset 79 = .ok (.iastore, 1) := by decide +kernel
theorem dX10_reset_80 : decode cX10_reset 80 = .ok (.iinc 1 1, 3) := by decide +kernel
theorem dX10_reset_83 : decode cX10_reset 83 = .ok (.goto (-46), 3) := by decide +kernel
theorem dX10_reset_86 : decode cX10_reset 86 = .ok (.return_, 1) := by decide +kernel
theorem dX10_copyFrom_0 : decode cX10_copyFrom 0 = .ok (.aload_n 0, 1) := by decide +kernel
theorem dX10_copyFrom_1 : decode cX10_copyFrom 1 = .ok (.aload_n 1, 1) := by decide +kernel
theorem dX10_copyFrom_2 : decode cX10_copyFrom 2 = .ok (.getfield 42, 3) := by decide +kernel
theorem dX10_copyFrom_5 : decode cX10_copyFrom 5 = .ok (.putfield 42, 3) := by decide +kernel
theorem dX10_copyFrom_8 : decode cX10_copyFrom 8 = .ok (.aload_n 0, 1) := by decide +kernel
theorem dX10_copyFrom_9 : decode cX10_copyFrom 9 = .ok (.aload_n 1, 1) := by decide +kernel
theorem dX10_copyFrom_10 : decode cX10_copyFrom 10 = .ok (.getfield 46, 3) := by decide +kernel
theorem dX10_copyFrom_13 : decode cX10_copyFrom 13 = .ok (.putfield 46, 3) := by decide +kernel
theorem dX10_copyFrom_16 : decode cX10_copyFrom 16 = .ok (.aload_n 0, 1) := by decide +kernel
theorem dX10_copyFrom_17 : decode cX10_copyFrom 17 = .ok (.aload_n 1, 1) := by decide +kernel
theorem dX10_copyFrom_18 : decode cX10_copyFrom 18 = .ok (.getfield 49, 3) := by decide +kernel
theorem dX10_copyFrom_21 : decode cX10_copyFrom 21 = .ok (.putfield 49, 3) := by decide +kernel
theorem dX10_copyFrom_24 : decode cX10_copyFrom 24 = .ok (.aload_n 1, 1) := by decide +kernel
theorem dX10_copyFrom_25 : decode cX10_copyFrom 25 = .ok (.getfield 9, 3) := by decide +kernel
theorem dX10_copyFrom_28 : decode cX10_copyFrom 28 = .ok (.iconst 0, 1) := by decide +kernel
theorem dX10_copyFrom_29 : decode cX10_copyFrom 29 = .ok (.aload_n 0, 1) := by decide +kernel
theorem dX10_copyFrom_30 : decode cX10_copyFrom 30 = .ok (.getfield 9, 3) := by decide +kernel
theorem dX10_copyFrom_33 : decode cX10_copyFrom 33 = .ok (.iconst 0, 1) := by decide +kernel
theorem dX10_copyFrom_34 : decode cX10_copyFrom 34 = .ok (.aload_n 0, 1) := by decide +kernel
theorem dX10_copyFrom_35 : decode cX10_copyFrom 35 = .ok (.getfield 9, 3) := by decide +kernel
theorem dX10_copyFrom_38 : decode cX10_copyFrom 38 = .ok (.arraylength, 1) := by decide +kernel
theorem dX10_copyFrom_39 : decode cX10_copyFrom 39 = .ok (.invokestatic 52, 3) := by decide +kernel
theorem dX10_copyFrom_42 : decode cX10_copyFrom 42 = .ok (.aload_n 1, 1) := by decide +kernel
theorem dX10_copyFrom_43 : decode cX10_copyFrom 43 = .ok (.getfield 15, 3) := by decide +kernel
theorem dX10_copyFrom_46 : decode cX10_copyFrom 46 = .ok (.iconst 0, 1) := by decide +kernel
theorem dX10_copyFrom_47 : decode cX10_copyFrom 47 = .ok (.aload_n 0, 1) := by decide +kernel
theorem dX10_copyFrom_48 : decode cX10_copyFrom 48 = .ok (.getfield 15, 3) := by decide +kernel
theorem dX10_copyFrom_51 : decode cX10_copyFrom 51 = .ok (.iconst 0, 1) := by decide +kernel
theorem dX10_copyFrom_52 : decode cX10_copyFrom 52 = .ok (.iconst 2, 1) := by decide +kernel
theorem dX10_copyFrom_53 : decode cX10_copyFrom 53 = .ok (.invokestatic 52, 3) := by decide +kernel
theorem dX10_copyFrom_56 : decode cX10_copyFrom 56 = .ok (.aload_n 1, 1) := by decide +kernel
theorem dX10_copyFrom_57 : decode cX10_copyFrom 57 = .ok (.getfield 18, 3) := by decide +kernel
theorem dX10_copyFrom_60 : decode cX10_copyFrom 60 = .ok (.iconst 0, 1) := by decide +kernel
theorem dX10_copyFrom_61 : decode cX10_copyFrom 61 = .ok (.aload_n 0, 1) := by decide +kernel
theorem dX10_copyFrom_62 : decode cX10_copyFrom 62 = .ok (.getfield 18, 3) := by decide +kernel
theorem dX10_copyFrom_65 : decode cX10_copyFrom 65 = .ok (.iconst 0, 1) := by decide +kernel
theorem dX10_copyFrom_66 : decode cX10_copyFrom 66 = .ok (.iconst 2, 1) := by decide +kernel
theorem dX10_copyFrom_67 : decode cX10_copyFrom 67 = .ok (.invokestatic 52, 3) := by decide +kernel
theorem dX10_copyFrom_70 : decode cX10_copyFrom 70 = .ok (.aload_n 1, 1) := by decide +kernel
theorem dX10_copyFrom_71 : decode cX10_copyFrom 71 = .ok (.getfield 21, 3) := by decide +kernel
theorem dX10_copyFrom_74 : decode cX10_copyFrom 74 = .ok (.iconst 0, 1) := by decide +kernel
theorem dX10_copyFrom_75 : decode cX10_copyFrom 75 = .ok (.aload_n 0, 1) := by decide +kernel
theorem dX10_copyFrom_76 : decode cX10_copyFrom 76 = .ok (.getfield 21, 3) := by decide +kernel
theorem dX10_copyFrom_79 : decode cX10_copyFrom 79 = .ok (.iconst 0, 1) := by decide +kernel
theorem dX10_copyFrom_80 : decode cX10_copyFrom 80 = .ok (.iconst 2, 1) := by decide +kernel
theorem dX10_copyFrom_81 : decode cX10_copyFrom 81 = .ok (.invokestatic 52, 3) := by decide +kernel
theorem dX10_copyFrom_84 : decode cX10_copyFrom 84 = .ok (.aload_n 1, 1) := by decide +kernel
theorem dX10_copyFrom_85 : decode cX10_copyFrom 85 = .ok (.getfield 24, 3) := by decide +kernel
theorem dX10_copyFrom_88 : decode cX10_copyFrom 88 = .ok (.iconst 0, 1) := by decide +kernel
theorem dX10_copyFrom_89 : decode cX10_copyFrom 89 = .ok (.aload_n 0, 1) := by decide +kernel
theorem dX10_copyFrom_90 : decode cX10_copyFrom 90 = .ok (.getfield 24, 3) := by decide +kernel
theorem dX10_copyFrom_93 : decode cX10_copyFrom 93 = .ok (.iconst 0, 1) := by decide +kernel
theorem dX10_copyFrom_94 : decode cX10_copyFrom 94 = .ok (.iconst 2, 1) := by decide +kernel
theorem dX10_copyFrom_95 : decode cX10_copyFrom 95 = .ok (.invokestatic 52, 3) := by decide +kernel
theorem dX10_copyFrom_98 : decode cX10_copyFrom 98 = .ok (.aload_n 1, 1) := by decide +kernel
theorem dX10_copyFrom_99 : decode cX10_copyFrom 99 = .ok (.getfield 27, 3) := by decide +kernel
theorem dX10_copyFrom_102 : decode cX10_copyFrom 102 = .ok (.iconst 0, 1) := by decide +kernel
theorem dX10_copyFrom_103 : decode cX10_copyFrom 103 = .ok (.aload_n 0, 1) := by decide +kernel
theorem dX10_copyFrom_104 : decode cX10_copyFrom 104 = .ok (.getfield 27, 3) := by decide +kernel
theorem dX10_copyFrom_107 : decode cX10_copyFrom 107 = .ok (.iconst 0, 1) := by decide +kernel
theorem dX10_copyFrom_108 : decode cX10_copyFrom 108 = .ok (.iconst 2, 1) := by decide +kernel
theorem dX10_copyFrom_109 : decode cX10_copyFrom 109 = .ok (.invokestatic 52, 3) := by decide +kernel
theorem dX10_copyFrom_112 : decode cX10_copyFrom 112 = .ok (.aload_n 1, 1) := by decide +kernel
theorem dX10_copyFrom_113 : decode cX10_copyFrom 113 = .ok (.getfield 30, 3) := by decide +kernel
theorem dX10_copyFrom_116 : decode cX10_copyFrom 116 = .ok (.iconst 0, 1) := by decide +kernel
theorem dX10_copyFrom_117 : decode cX10_copyFrom 117 = .ok (.aload_n 0, 1) := by decide +kernel
theorem dX10_copyFrom_118 : decode cX10_copyFrom 118 = .ok (.getfield 30, 3) := by decide +kernel
theorem dX10_copyFrom_121 : decode cX10_copyFrom 121 = .ok (.iconst 0, 1) := by decide +kernel
theorem dX10_copyFrom_122 : decode cX10_copyFrom 122 = .ok (.aload_n 0, 1) := by decide +kernel
theorem dX10_copyFrom_123 : decode cX10_copyFrom 123 = .ok (.getfield 30, 3) := by decide +kernel
theorem dX10_copyFrom_126 : decode cX10_copyFrom 126 = .ok (.arraylength, 1) := by decide +kernel
theorem dX10_copyFrom_127 : decode cX10_copyFrom 127 = .ok (.invokestatic 52, 3) := by decide +kernel
theorem dX10_copyFrom_130 : decode cX10_copyFrom 130 = .ok (.aload_n 1, 1) := by decide +kernel
theorem dX10_copyFrom_131 : decode cX10_copyFrom 131 = .ok (.getfield 33, 3) := by decide +kernel
theorem dX10_copyFrom_134 : decode cX10_copyFrom 134 = .ok (.iconst 0, 1) := by decide +kernel
theorem dX10_copyFrom_135 : decode cX10_copyFrom 135 = .ok (.aload_n 0, 1) := by decide +kernel
theorem dX10_copyFrom_136 : decode cX10_copyFrom 136 = .ok (.getfield 33, 3) := by decide +kernel
theorem dX10_copyFrom_139 : decode cX10_copyFrom 139 = .ok (.iconst 0, 1) := by decide +kernel
theorem dX10_copyFrom_140 : decode cX10_copyFrom 140 = .ok (.aload_n 0, 1) := by decide +kernel
theorem dX10_copyFrom_141 : decode cX10_copyFrom 141 = .ok (.getfield 33, 3) := by decide +kernel
theorem dX10_copyFrom_144 : decode cX10_copyFrom 144 = .ok (.arraylength, 1) := by decide +kernel
theorem dX10_copyFrom_145 : decode cX10_copyFrom 145 = .ok (.invokestatic 52, 3) := by decide +kernel
theorem dX10_copyFrom_148 : decode cX10_copyFrom 148 = .ok (.aload_n 1, 1) := by decide +kernel
theorem dX10_copyFrom_149 : decode cX10_copyFrom 149 = .ok (.getfield 36, 3) := by decide +kernel
theorem dX10_copyFrom_152 : decode cX10_copyFrom 152 = .ok (.iconst 0, 1) := by decide +kernel
theorem dX10_copyFrom_153 : decode cX10_copyFrom 153 = .ok (.aload_n 0, 1) := by decide +kernel
theorem dX10_copyFrom_154 : decode cX10_copyFrom 154 = .ok (.getfield 36, 3) := by decide +kernel
theorem dX10_copyFrom_157 : decode cX10_copyFrom 157 = .ok (.iconst 0, 1) := by decide +kernel
theorem dX10_copyFrom_158 : decode cX10_copyFrom 158 = .ok (.aload_n 0, 1) := by decide +kernel
theorem dX10_copyFrom_159 : decode cX10_copyFrom 159 = .ok (.getfield 36, 3) := by decide +kernel
theorem dX10_copyFrom_162 : decode cX10_copyFrom 162 = .ok (.arraylength, 1) := by decide +kernel
theorem dX10_copyFrom_163 : decode cX10_copyFrom 163 = .ok (.invokestatic 52, 3) := by decide +kernel
theorem dX10_copyFrom_166 : decode cX10_copyFrom 166 = .ok (.return_, 1) := by decide +kernel
theorem dX10_sameBeats_0 : decode cX10_sameBeats 0 = .ok (.aload_n 0, 1) := by decide +kernel
theorem dX10_sameBeats_1 : decode cX10_sameBeats 1 = .ok (.getfield 33, 3) := by decide +kernel
theorem dX10_sameBeats_4 : decode cX10_sameBeats 4 = .ok (.iload_n 1, 1) := by decide +kernel
theorem dX10_sameBeats_5 : decode cX10_sameBeats 5 = .ok (.iaload, 1) := by decide +kernel
theorem dX10_sameBeats_6 : decode cX10_sameBeats 6 = .ok (.aload_n 0, 1) := by decide +kernel
theorem dX10_sameBeats_7 : decode cX10_sameBeats 7 = .ok (.getfield 33, 3) := by decide +kernel
theorem dX10_sameBeats_10 : decode cX10_sameBeats 10 = .ok (.iload_n 2, 1) := by decide +kernel
theorem dX10_sameBeats_11 : decode cX10_sameBeats 11 = .ok (.iaload, 1) := by decide +kernel
theorem dX10_sameBeats_12 : decode cX10_sameBeats 12 = .ok (.if_icmp .ne 23, 3) := by decide +kernel
theorem dX10_sameBeats_15 : decode cX10_sameBeats 15 = .ok (.aload_n 0, 1) := by decide +kernel
theorem dX10_sameBeats_16 : decode cX10_sameBeats 16 = .ok (.iload_n 1, 1) := by decide +kernel
theorem dX10_sameBeats_17 : decode cX10_sameBeats 17 = .ok (.iconst 0, 1) := by decide +kernel
theorem dX10_sameBeats_18 : decode cX10_sameBeats 18 = .ok (.iload_n 2, 1) := by decide +kernel
theorem dX10_sameBeats_19 : decode cX10_sameBeats 19 = .ok (.aload_n 0, 1) := by decide +kernel
theorem dX10_sameBeats_20 : decode cX10_sameBeats 20 = .ok (.getfield 33, 3) := by decide +kernel
theorem dX10_sameBeats_23 : decode cX10_sameBeats 23 = .ok (.iload_n 1, 1) := by decide +kernel
theorem dX10_sameBeats_24 : decode cX10_sameBeats 24 = .ok (.iaload, 1) := by decide +kernel
theorem dX10_sameBeats_25 : decode cX10_sameBeats 25 = .ok (.invokevirtual 58, 3) := by decide +kernel
theorem dX10_sameBeats_28 : decode cX10_sameBeats 28 = .ok (.ifCond .eq 7, 3) := by decide +kernel
theorem dX10_sameBeats_31 : decode cX10_sameBeats 31 = .ok (.iconst 1, 1) := by decide +kernel
theorem dX10_sameBeats_32 : decode cX10_sameBeats 32 = .ok (.goto 4, 3) := by decide +kernel
theorem dX10_sameBeats_35 : decode cX10_sameBeats 35 = .ok (.iconst 0, 1) := by decide +kernel
theorem dX10_sameBeats_36 : decode cX10_sameBeats 36 = .ok (.ireturn, 1) := by decide +kernel
theorem dX10_agree_0 : decode cX10_agree 0 = .ok (.iload_n 2, 1) := by decide +kernel
theorem dX10_agree_1 : decode cX10_agree 1 = .ok (.iload 4, 2) := by decide +kernel
theorem dX10_agree_3 : decode cX10_agree 3 = .ok (.iadd, 1) := by decide +kernel
theorem dX10_agree_4 : decode cX10_agree 4 = .ok (.aload_n 0, 1) := by decide +kernel
theorem dX10_agree_5 : decode cX10_agree 5 = .ok (.getfield 33, 3) := by decide +kernel
theorem dX10_agree_8 : decode cX10_agree 8 = .ok (.iload_n 1, 1) := by decide +kernel
theorem dX10_agree_9 : decode cX10_agree 9 = .ok (.iaload, 1) := by decide +kernel
theorem dX10_agree_10 : decode cX10_agree 10 = .ok (.if_icmp .gt 14, 3) := by decide +kernel
theorem dX10_agree_13 : decode cX10_agree 13 = .ok (.iload 4, 2) := by decide +kernel
theorem dX10_agree_15 : decode cX10_agree 15 = .ok (.aload_n 0, 1) := by decide +kernel
theorem dX10_agree_16 : decode cX10_agree 16 = .ok (.getfield 33, 3) := by decide +kernel
theorem dX10_agree_19 : decode cX10_agree 19 = .ok (.iload_n 3, 1) := by decide +kernel
theorem dX10_agree_20 : decode cX10_agree 20 = .ok (.iaload, 1) := by decide +kernel
theorem dX10_agree_21 : decode cX10_agree 21 = .ok (.if_icmp .le 5, 3) := by decide +kernel
theorem dX10_agree_24 : decode cX10_agree 24 = .ok (.iconst 0, 1) := by decide +kernel
theorem dX10_agree_25 : decode cX10_agree 25 = .ok (.ireturn, 1) := by decide +kernel
theorem dX10_agree_26 : decode cX10_agree 26 = .ok (.iconst 0, 1) := by decide +kernel
theorem dX10_agree_27 : decode cX10_agree 27 = .ok (.istore 5, 2) := by decide +kernel
theorem dX10_agree_29 : decode cX10_agree 29 = .ok (.iload 5, 2) := by decide +kernel
theorem dX10_agree_31 : decode cX10_agree 31 = .ok (.iload 4, 2) := by decide +kernel
theorem dX10_agree_33 : decode cX10_agree 33 = .ok (.if_icmp .ge 38, 3) := by decide +kernel
theorem dX10_agree_36 : decode cX10_agree 36 = .ok (.aload_n 0, 1) := by decide +kernel
theorem dX10_agree_37 : decode cX10_agree 37 = .ok (.getfield 36, 3) := by decide +kernel
theorem dX10_agree_40 : decode cX10_agree 40 = .ok (.iload_n 1, 1) := by decide +kernel
theorem dX10_agree_41 : decode cX10_agree 41 = .ok (.iconst 4, 1) := by decide +kernel
theorem dX10_agree_42 : decode cX10_agree 42 = .ok (.imul, 1) := by decide +kernel
theorem dX10_agree_43 : decode cX10_agree 43 = .ok (.iload_n 2, 1) := by decide +kernel
theorem dX10_agree_44 : decode cX10_agree 44 = .ok (.iadd, 1) := by decide +kernel
theorem dX10_agree_45 : decode cX10_agree 45 = .ok (.iload 5, 2) := by decide +kernel
theorem dX10_agree_47 : decode cX10_agree 47 = .ok (.iadd, 1) := by decide +kernel
theorem dX10_agree_48 : decode cX10_agree 48 = .ok (.iaload, 1) := by decide +kernel
theorem dX10_agree_49 : decode cX10_agree 49 = .ok (.aload_n 0, 1) := by decide +kernel
theorem dX10_agree_50 : decode cX10_agree 50 = .ok (.getfield 36, 3) := by decide +kernel
theorem dX10_agree_53 : decode cX10_agree 53 = .ok (.iload_n 3, 1) := by decide +kernel
theorem dX10_agree_54 : decode cX10_agree 54 = .ok (.iconst 4, 1) := by decide +kernel
theorem dX10_agree_55 : decode cX10_agree 55 = .ok (.imul, 1) := by decide +kernel
theorem dX10_agree_56 : decode cX10_agree 56 = .ok (.iload 5, 2) := by decide +kernel
theorem dX10_agree_58 : decode cX10_agree 58 = .ok (.iadd, 1) := by decide +kernel
theorem dX10_agree_59 : decode cX10_agree 59 = .ok (.iaload, 1) := by decide +kernel
theorem dX10_agree_60 : decode cX10_agree 60 = .ok (.if_icmp .eq 5, 3) := by decide +kernel
theorem dX10_agree_63 : decode cX10_agree 63 = .ok (.iconst 0, 1) := by decide +kernel
theorem dX10_agree_64 : decode cX10_agree 64 = .ok (.ireturn, 1) := by decide +kernel
theorem dX10_agree_65 : decode cX10_agree 65 = .ok (.iinc 5 1, 3) := by decide +kernel
theorem dX10_agree_68 : decode cX10_agree 68 = .ok (.goto (-39), 3) := by decide +kernel
theorem dX10_agree_71 : decode cX10_agree 71 = .ok (.iconst 1, 1) := by decide +kernel
theorem dX10_agree_72 : decode cX10_agree 72 = .ok (.ireturn, 1) := by decide +kernel

theorem dX11_init_0 : decode cX11_init 0 = .ok (.aload_n 0, 1) := by decide +kernel
theorem dX11_init_1 : decode cX11_init 1 = .ok (.invokespecial 1, 3) := by decide +kernel
theorem dX11_init_4 : decode cX11_init 4 = .ok (.aload_n 0, 1) := by decide +kernel
theorem dX11_init_5 : decode cX11_init 5 = .ok (.new 7, 3) := by decide +kernel
theorem dX11_init_8 : decode cX11_init 8 = .ok (.dup, 1) := by decide +kernel
theorem dX11_init_9 : decode cX11_init 9 = .ok (.invokespecial 9, 3) := by decide +kernel
theorem dX11_init_12 : decode cX11_init 12 = .ok (.putfield 10, 3) := by decide +kernel
theorem dX11_init_15 : decode cX11_init 15 = .ok (.aload_n 0, 1) := by decide +kernel
theorem dX11_init_16 : decode cX11_init 16 = .ok (.iconst 3, 1) := by decide +kernel
theorem dX11_init_17 : decode cX11_init 17 = .ok (.anewarray 7, 3) := by decide +kernel
theorem dX11_init_20 : decode cX11_init 20 = .ok (.putfield 16, 3) := by decide +kernel
theorem dX11_init_23 : decode cX11_init 23 = .ok (.aload_n 0, 1) := by decide +kernel
theorem dX11_init_24 : decode cX11_init 24 = .ok (.iconst 3, 1) := by decide +kernel
theorem dX11_init_25 : decode cX11_init 25 = .ok (.newarray .boolean, 2) := by decide +kernel
theorem dX11_init_27 : decode cX11_init 27 = .ok (.putfield 20, 3) := by decide +kernel
theorem dX11_init_30 : decode cX11_init 30 = .ok (.aload_n 0, 1) := by decide +kernel
theorem dX11_init_31 : decode cX11_init 31 = .ok (.new 24, 3) := by decide +kernel
theorem dX11_init_34 : decode cX11_init 34 = .ok (.dup, 1) := by decide +kernel
theorem dX11_init_35 : decode cX11_init 35 = .ok (.invokespecial 26, 3) := by decide +kernel
theorem dX11_init_38 : decode cX11_init 38 = .ok (.putfield 27, 3) := by decide +kernel
theorem dX11_init_41 : decode cX11_init 41 = .ok (.aload_n 0, 1) := by decide +kernel
theorem dX11_init_42 : decode cX11_init 42 = .ok (.new 31, 3) := by decide +kernel
theorem dX11_init_45 : decode cX11_init 45 = .ok (.dup, 1) := by decide +kernel
theorem dX11_init_46 : decode cX11_init 46 = .ok (.invokespecial 33, 3) := by decide +kernel
theorem dX11_init_49 : decode cX11_init 49 = .ok (.putfield 34, 3) := by decide +kernel
theorem dX11_init_52 : decode cX11_init 52 = .ok (.aload_n 0, 1) := by decide +kernel
theorem dX11_init_53 : decode cX11_init 53 = .ok (.new 38, 3) := by decide +kernel
theorem dX11_init_56 : decode cX11_init 56 = .ok (.dup, 1) := by decide +kernel
theorem dX11_init_57 : decode cX11_init 57 = .ok (.invokespecial 40, 3) := by decide +kernel
theorem dX11_init_60 : decode cX11_init 60 = .ok (.putfield 41, 3) := by decide +kernel
theorem dX11_init_63 : decode cX11_init 63 = .ok (.aload_n 0, 1) := by decide +kernel
theorem dX11_init_64 : decode cX11_init 64 = .ok (.iconst 2, 1) := by decide +kernel
theorem dX11_init_65 : decode cX11_init 65 = .ok (.anewarray 45, 3) := by decide +kernel
theorem dX11_init_68 : decode cX11_init 68 = .ok (.putfield 47, 3) := by decide +kernel
theorem dX11_init_71 : decode cX11_init 71 = .ok (.aload_n 0, 1) := by decide +kernel
theorem dX11_init_72 : decode cX11_init 72 = .ok (.new 51, 3) := by decide +kernel
theorem dX11_init_75 : decode cX11_init 75 = .ok (.dup, 1) := by decide +kernel
theorem dX11_init_76 : decode cX11_init 76 = .ok (.invokespecial 53, 3) := by decide +kernel
theorem dX11_init_79 : decode cX11_init 79 = .ok (.putfield 54, 3) := by decide +kernel
theorem dX11_init_82 : decode cX11_init 82 = .ok (.aload_n 0, 1) := by decide +kernel
theorem dX11_init_83 : decode cX11_init 83 = .ok (.new 58, 3) := by decide +kernel
theorem dX11_init_86 : decode cX11_init 86 = .ok (.dup, 1) := by decide +kernel
theorem dX11_init_87 : decode cX11_init 87 = .ok (.invokespecial 60, 3) := by decide +kernel
theorem dX11_init_90 : decode cX11_init 90 = .ok (.putfield 61, 3) := by decide +kernel
theorem dX11_init_93 : decode cX11_init 93 = .ok (.aload_n 0, 1) := by decide +kernel
theorem dX11_init_94 : decode cX11_init 94 = .ok (.new 65, 3) := by decide +kernel
theorem dX11_init_97 : decode cX11_init 97 = .ok (.dup, 1) := by decide +kernel
theorem dX11_init_98 : decode cX11_init 98 = .ok (.invokespecial 67, 3) := by decide +kernel
theorem dX11_init_101 : decode cX11_init 101 = .ok (.putfield 68, 3) := by decide +kernel
theorem dX11_init_104 : decode cX11_init 104 = .ok (.aload_n 0, 1) := by decide +kernel
theorem dX11_init_105 : decode cX11_init 105 = .ok (.bipush 10, 2) := by decide +kernel
theorem dX11_init_107 : decode cX11_init 107 = .ok (.newarray .int, 2) := by decide +kernel
theorem dX11_init_109 : decode cX11_init 109 = .ok (.putfield 72, 3) := by decide +kernel
theorem dX11_init_112 : decode cX11_init 112 = .ok (.iconst 0, 1) := by decide +kernel
theorem dX11_init_113 : decode cX11_init 113 = .ok (.istore_n 1, 1) := by decide +kernel
theorem dX11_init_114 : decode cX11_init 114 = .ok (.iload_n 1, 1) := by decide +kernel
theorem dX11_init_115 : decode cX11_init 115 = .ok (.iconst 3, 1) := by decide +kernel
theorem dX11_init_116 : decode cX11_init 116 = .ok (.if_icmp .ge 22, 3) := by decide +kernel
theorem dX11_init_119 : decode cX11_init 119 = .ok (.aload_n 0, 1) := by decide +kernel
theorem dX11_init_120 : decode cX11_init 120 = .ok (.getfield 16, 3) := by decide +kernel
theorem dX11_init_123 : decode cX11_init 123 = .ok (.iload_n 1, 1) := by decide +kernel
theorem dX11_init_124 : decode cX11_init 124 = .ok (.new 7, 3) := by decide +kernel
theorem dX11_init_127 : decode cX11_init 127 = .ok (.dup, 1) := by decide +kernel
theorem dX11_init_128 : decode cX11_init 128 = .ok (.invokespecial 9, 3) := by decide +kernel
theorem dX11_init_131 : decode cX11_init 131 = .ok (.aastore, 1) := by decide +kernel
theorem dX11_init_132 : decode cX11_init 132 = .ok (.iinc 1 1, 3) := by decide +kernel
theorem dX11_init_135 : decode cX11_init 135 = .ok (.goto (-21), 3) := by decide +kernel
theorem dX11_init_138 : decode cX11_init 138 = .ok (.iconst 0, 1) := by decide +kernel
theorem dX11_init_139 : decode cX11_init 139 = .ok (.istore_n 1, 1) := by decide +kernel
theorem dX11_init_140 : decode cX11_init 140 = .ok (.iload_n 1, 1) := by decide +kernel
theorem dX11_init_141 : decode cX11_init 141 = .ok (.iconst 2, 1) := by decide +kernel
theorem dX11_init_142 : decode cX11_init 142 = .ok (.if_icmp .ge 22, 3) := by decide +kernel
theorem dX11_init_145 : decode cX11_init 145 = .ok (.aload_n 0, 1) := by decide +kernel
theorem dX11_init_146 : decode cX11_init 146 = .ok (.getfield 47, 3) := by decide +kernel
theorem dX11_init_149 : decode cX11_init 149 = .ok (.iload_n 1, 1) := by decide +kernel
theorem dX11_init_150 : decode cX11_init 150 = .ok (.new 45, 3) := by decide +kernel
theorem dX11_init_153 : decode cX11_init 153 = .ok (.dup, 1) := by decide +kernel
theorem dX11_init_154 : decode cX11_init 154 = .ok (.invokespecial 76, 3) := by decide +kernel
theorem dX11_init_157 : decode cX11_init 157 = .ok (.aastore, 1) := by decide +kernel
theorem dX11_init_158 : decode cX11_init 158 = .ok (.iinc 1 1, 3) := by decide +kernel
theorem dX11_init_161 : decode cX11_init 161 = .ok (.goto (-21), 3) := by decide +kernel
theorem dX11_init_164 : decode cX11_init 164 = .ok (.return_, 1) := by decide +kernel
theorem dX11_feed_0 : decode cX11_feed 0 = .ok (.aload_n 0, 1) := by decide +kernel
theorem dX11_feed_1 : decode cX11_feed 1 = .ok (.getfield 10, 3) := by decide +kernel
theorem dX11_feed_4 : decode cX11_feed 4 = .ok (.getfield 77, 3) := by decide +kernel
theorem dX11_feed_7 : decode cX11_feed 7 = .ok (.bipush 20, 2) := by decide +kernel
theorem dX11_feed_9 : decode cX11_feed 9 = .ok (.iadd, 1) := by decide +kernel
theorem dX11_feed_10 : decode cX11_feed 10 = .ok (.sipush 600, 3) := by decide +kernel
theorem dX11_feed_13 : decode cX11_feed 13 = .ok (.if_icmp .le 5, 3) := by decide +kernel
theorem dX11_feed_16 : decode cX11_feed 16 = .ok (.iconst (-1), 1) := by decide +kernel
theorem dX11_feed_17 : decode cX11_feed 17 = .ok (.ireturn, 1) := by decide +kernel
theorem dX11_feed_18 : decode cX11_feed 18 = .ok (.aload_n 0, 1) := by decide +kernel
theorem dX11_feed_19 : decode cX11_feed 19 = .ok (.getfield 10, 3) := by decide +kernel
theorem dX11_feed_22 : decode cX11_feed 22 = .ok (.iload_n 1, 1) := by decide +kernel
theorem dX11_feed_23 : decode cX11_feed 23 = .ok (.invokevirtual 81, 3) := by decide +kernel
theorem dX11_feed_26 : decode cX11_feed 26 = .ok (.aload_n 0, 1) := by decide +kernel
theorem dX11_feed_27 : decode cX11_feed 27 = .ok (.getfield 10, 3) := by decide +kernel
theorem dX11_feed_30 : decode cX11_feed 30 = .ok (.iload_n 2, 1) := by decide +kernel
theorem dX11_feed_31 : decode cX11_feed 31 = .ok (.invokevirtual 81, 3) := by decide +kernel
theorem dX11_feed_34 : decode cX11_feed 34 = .ok (.aload_n 0, 1) := by decide +kernel
theorem dX11_feed_35 : decode cX11_feed 35 = .ok (.getfield 10, 3) := by decide +kernel
theorem dX11_feed_38 : decode cX11_feed 38 = .ok (.iload_n 3, 1) := by decide +kernel
theorem dX11_feed_39 : decode cX11_feed 39 = .ok (.invokevirtual 81, 3) := by decide +kernel
theorem dX11_feed_42 : decode cX11_feed 42 = .ok (.aload_n 0, 1) := by decide +kernel
theorem dX11_feed_43 : decode cX11_feed 43 = .ok (.getfield 10, 3) := by decide +kernel
theorem dX11_feed_46 : decode cX11_feed 46 = .ok (.iload 4, 2) := by decide +kernel
theorem dX11_feed_48 : decode cX11_feed 48 = .ok (.invokevirtual 81, 3) := by decide +kernel
theorem dX11_feed_51 : decode cX11_feed 51 = .ok (.aload_n 0, 1) := by decide +kernel
theorem dX11_feed_52 : decode cX11_feed 52 = .ok (.getfield 10, 3) := by decide +kernel
theorem dX11_feed_55 : decode cX11_feed 55 = .ok (.iload 5, 2) := by decide +kernel
theorem dX11_feed_57 : decode cX11_feed 57 = .ok (.invokevirtual 81, 3) := by decide +kernel
theorem dX11_feed_60 : decode cX11_feed 60 = .ok (.aload_n 0, 1) := by decide +kernel
theorem dX11_feed_61 : decode cX11_feed 61 = .ok (.getfield 10, 3) := by decide +kernel
theorem dX11_feed_64 : decode cX11_feed 64 = .ok (.getfield 77, 3) := by decide +kernel
theorem dX11_feed_67 : decode cX11_feed 67 = .ok (.ireturn, 1) := by decide +kernel
theorem dX11_end_0 : decode cX11_end 0 = .ok (.iload_n 1, 1) := by decide +kernel
theorem dX11_end_1 : decode cX11_end 1 = .ok (.ifCond .lt 14, 3) := by decide +kernel
theorem dX11_end_4 : decode cX11_end 4 = .ok (.iload_n 1, 1) := by decide +kernel
theorem dX11_end_5 : decode cX11_end 5 = .ok (.aload_n 0, 1) := by decide +kernel
theorem dX11_end_6 : decode cX11_end 6 = .ok (.getfield 10, 3) := by decide +kernel
theorem dX11_end_9 : decode cX11_end 9 = .ok (.getfield 77, 3) := by decide +kernel
theorem dX11_end_12 : decode cX11_end 12 = .ok (.if_icmp .le 5, 3) := by decide +kernel
theorem dX11_end_15 : decode cX11_end 15 = .ok (.iconst (-1), 1) := by decide +kernel
theorem dX11_end_16 : decode cX11_end 16 = .ok (.ireturn, 1) := by decide +kernel
theorem dX11_end_17 : decode cX11_end 17 = .ok (.aload_n 0, 1) := by decide +kernel
theorem dX11_end_18 : decode cX11_end 18 = .ok (.getfield 10, 3) := by decide +kernel
theorem dX11_end_21 : decode cX11_end 21 = .ok (.iload_n 1, 1) := by decide +kernel
theorem dX11_end_22 : decode cX11_end 22 = .ok (.putfield 77, 3) := by decide +kernel
theorem dX11_end_25 : decode cX11_end 25 = .ok (.iload_n 1, 1) := by decide +kernel
theorem dX11_end_26 : decode cX11_end 26 = .ok (.ireturn, 1) := by decide +kernel
theorem dX11_text_0 : decode cX11_text 0 = .ok (.aload_n 0, 1) := by decide +kernel
theorem dX11_text_1 : decode cX11_text 1 = .ok (.getfield 10, 3) := by decide +kernel
theorem dX11_text_4 : decode cX11_text 4 = .ok (.getfield 77, 3) := by decide +kernel
theorem dX11_text_7 : decode cX11_text 7 = .ok (.istore_n 3, 1) := by decide +kernel
theorem dX11_text_8 : decode cX11_text 8 = .ok (.aload_n 0, 1) := by decide +kernel
theorem dX11_text_9 : decode cX11_text 9 = .ok (.getfield 10, 3) := by decide +kernel
theorem dX11_text_12 : decode cX11_text 12 = .ok (.iconst 0, 1) := by decide +kernel
theorem dX11_text_13 : decode cX11_text 13 = .ok (.putfield 77, 3) := by decide +kernel
theorem dX11_text_16 : decode cX11_text 16 = .ok (.aload_n 0, 1) := by decide +kernel
theorem dX11_text_17 : decode cX11_text 17 = .ok (.getfield 10, 3) := by decide +kernel
theorem dX11_text_20 : decode cX11_text 20 = .ok (.iconst 0, 1) := by decide +kernel
theorem dX11_text_21 : decode cX11_text 21 = .ok (.putfield 85, 3) := by decide +kernel
theorem dX11_text_24 : decode cX11_text 24 = .ok (.aload_n 0, 1) := by decide +kernel
theorem dX11_text_25 : decode cX11_text 25 = .ok (.getfield 10, 3) := by decide +kernel
theorem dX11_text_28 : decode cX11_text 28 = .ok (.iconst (-1), 1) := by decide +kernel
theorem dX11_text_29 : decode cX11_text 29 = .ok (.putfield 88, 3) := by decide +kernel
theorem dX11_text_32 : decode cX11_text 32 = .ok (.iload_n 1, 1) := by decide +kernel
theorem dX11_text_33 : decode cX11_text 33 = .ok (.invokestatic 91, 3) := by decide +kernel
theorem dX11_text_36 : decode cX11_text 36 = .ok (.ifCond .eq 12, 3) := by decide +kernel
theorem dX11_text_39 : decode cX11_text 39 = .ok (.aload_n 0, 1) := by decide +kernel
theorem dX11_text_40 : decode cX11_text 40 = .ok (.iload_n 1, 1) := by decide +kernel
theorem dX11_text_41 : decode cX11_text 41 = .ok (.iload_n 2, 1) := by decide +kernel
theorem dX11_text_42 : decode cX11_text 42 = .ok (.invokevirtual 95, 3) := by decide +kernel
theorem dX11_text_45 : decode cX11_text 45 = .ok (.ifCond .ne 6, 3) := by decide +kernel
theorem dX11_text_48 : decode cX11_text 48 = .ok (.bipush (-2), 2) := by decide +kernel
theorem dX11_text_50 : decode cX11_text 50 = .ok (.ireturn, 1) := by decide +kernel
theorem dX11_text_51 : decode cX11_text 51 = .ok (.aload_n 0, 1) := by decide +kernel
theorem dX11_text_52 : decode cX11_text 52 = .ok (.getfield 27, 3) := by decide +kernel
theorem dX11_text_55 : decode cX11_text 55 = .ok (.aload_n 0, 1) := by decide +kernel
theorem dX11_text_56 : decode cX11_text 56 = .ok (.getfield 10, 3) := by decide +kernel
theorem dX11_text_59 : decode cX11_text 59 = .ok (.getfield 99, 3) := by decide +kernel
theorem dX11_text_62 : decode cX11_text 62 = .ok (.iload_n 3, 1) := by decide +kernel
theorem dX11_text_63 : decode cX11_text 63 = .ok (.iload_n 1, 1) := by decide +kernel
theorem dX11_text_64 : decode cX11_text 64 = .ok (.invokevirtual 103, 3) := by decide +kernel
theorem dX11_text_67 : decode cX11_text 67 = .ok (.aload_n 0, 1) := by decide +kernel
theorem dX11_text_68 : decode cX11_text 68 = .ok (.getfield 27, 3) := by decide +kernel
theorem dX11_text_71 : decode cX11_text 71 = .ok (.getfield 107, 3) := by decide +kernel
theorem dX11_text_74 : decode cX11_text 74 = .ok (.ifCond .eq 33, 3) := by decide +kernel
theorem dX11_text_77 : decode cX11_text 77 = .ok (.aload_n 0, 1) := by decide +kernel
theorem dX11_text_78 : decode cX11_text 78 = .ok (.getfield 10, 3) := by decide +kernel
theorem dX11_text_81 : decode cX11_text 81 = .ok (.aload_n 0, 1) := by decide +kernel
theorem dX11_text_82 : decode cX11_text 82 = .ok (.getfield 27, 3) := by decide +kernel
theorem dX11_text_85 : decode cX11_text 85 = .ok (.getfield 107, 3) := by decide +kernel
theorem dX11_text_88 : decode cX11_text 88 = .ok (.putfield 85, 3) := by decide +kernel
theorem dX11_text_91 : decode cX11_text 91 = .ok (.aload_n 0, 1) := by decide +kernel
theorem dX11_text_92 : decode cX11_text 92 = .ok (.getfield 10, 3) := by decide +kernel
theorem dX11_text_95 : decode cX11_text 95 = .ok (.aload_n 0, 1) := by decide +kernel
theorem dX11_text_96 : decode cX11_text 96 = .ok (.getfield 27, 3) := by decide +kernel
theorem dX11_text_99 : decode cX11_text 99 = .ok (.getfield 108, 3) := by decide +kernel
theorem dX11_text_102 : decode cX11_text 102 = .ok (.putfield 88, 3) := by decide +kernel
theorem dX11_text_105 : decode cX11_text 105 = .ok (.iconst (-1), 1) := by decide +kernel
theorem dX11_text_106 : decode cX11_text 106 = .ok (.ireturn, 1) := by decide +kernel
theorem dX11_text_107 : decode cX11_text 107 = .ok (.aload_n 0, 1) := by decide +kernel
theorem dX11_text_108 : decode cX11_text 108 = .ok (.iload_n 1, 1) := by decide +kernel
theorem dX11_text_109 : decode cX11_text 109 = .ok (.iload_n 2, 1) := by decide +kernel
theorem dX11_text_110 : decode cX11_text 110 = .ok (.invokevirtual 109, 3) := by decide +kernel
theorem dX11_text_113 : decode cX11_text 113 = .ok (.ireturn, 1) := by decide +kernel
theorem dX11_isSort_0 : decode cX11_isSort 0 = .ok (.iload_n 0, 1) := by decide +kernel
theorem dX11_isSort_1 : decode cX11_isSort 1 = .ok (.ifCond .lt 12, 3) := by decide +kernel
theorem dX11_isSort_4 : decode cX11_isSort 4 = .ok (.iload_n 0, 1) := by decide +kernel
theorem dX11_isSort_5 : decode cX11_isSort 5 = .ok (.iconst 4, 1) := by decide +kernel
theorem dX11_isSort_6 : decode cX11_isSort 6 = .ok (.if_icmp .ge 7, 3) := by decide +kernel
theorem dX11_isSort_9 : decode cX11_isSort 9 = .ok (.iconst 1, 1) := by decide +kernel
theorem dX11_isSort_10 : decode cX11_isSort 10 = .ok (.goto 4, 3) := by decide +kernel
theorem dX11_isSort_13 : decode cX11_isSort 13 = .ok (.iconst 0, 1) := by decide +kernel
theorem dX11_isSort_14 : decode cX11_isSort 14 = .ok (.ireturn, 1) := by decide +kernel
theorem dX11_mayStandAt_0 : decode cX11_mayStandAt 0 = .ok (.aload_n 0, 1) := by decide +kernel
theorem dX11_mayStandAt_1 : decode cX11_mayStandAt 1 = .ok (.getfield 10, 3) := by decide +kernel
theorem dX11_mayStandAt_4 : decode cX11_mayStandAt 4 = .ok (.getfield 113, 3) := by decide +kernel
theorem dX11_mayStandAt_7 : decode cX11_mayStandAt 7 = .ok (.iload_n 1, 1) := by decide +kernel
theorem dX11_mayStandAt_8 : decode cX11_mayStandAt 8 = .ok (.iaload, 1) := by decide +kernel
theorem dX11_mayStandAt_9 : decode cX11_mayStandAt 9 = .ok (.istore_n 3, 1) := by decide +kernel
theorem dX11_mayStandAt_10 : decode cX11_mayStandAt 10 = .ok (.iload_n 2, 1) := by decide +kernel
theorem dX11_mayStandAt_11 : decode cX11_mayStandAt 11 = .ok (.iconst (-1), 1) := by decide +kernel
theorem dX11_mayStandAt_12 : decode cX11_mayStandAt 12 = .ok (.if_icmp .ne 16, 3) := by decide +kernel
theorem dX11_mayStandAt_15 : decode cX11_mayStandAt 15 = .ok (.iload_n 3, 1) := by decide +kernel
theorem dX11_mayStandAt_16 : decode cX11_mayStandAt 16 = .ok (.iconst 2, 1) := by decide +kernel
theorem dX11_mayStandAt_17 : decode cX11_mayStandAt 17 = .ok (.if_icmp .ge 7, 3) := by decide +kernel
theorem dX11_mayStandAt_20 : decode cX11_mayStandAt 20 = .ok (.iconst 1, 1) := by decide +kernel
theorem dX11_mayStandAt_21 : decode cX11_mayStandAt 21 = .ok (.goto 21, 3) := by decide +kernel
theorem dX11_mayStandAt_24 : decode cX11_mayStandAt 24 = .ok (.iconst 0, 1) := by decide +kernel
theorem dX11_mayStandAt_25 : decode cX11_mayStandAt 25 = .ok (.goto 17, 3) := by decide +kernel
theorem dX11_mayStandAt_28 : decode cX11_mayStandAt 28 = .ok (.iload_n 2, 1) := by decide +kernel
theorem dX11_mayStandAt_29 : decode cX11_mayStandAt 29 = .ok (.ifCond .lt 12, 3) := by decide +kernel
theorem dX11_mayStandAt_32 : decode cX11_mayStandAt 32 = .ok (.iload_n 2, 1) := by decide +kernel
theorem dX11_mayStandAt_33 : decode cX11_mayStandAt 33 = .ok (.iload_n 3, 1) := by decide +kernel
theorem dX11_mayStandAt_34 : decode cX11_mayStandAt 34 = .ok (.if_icmp .ge 7, 3) := by decide +kernel
theorem dX11_mayStandAt_37 : decode cX11_mayStandAt 37 = .ok (.iconst 1, 1) := by decide +kernel
theorem dX11_mayStandAt_38 : decode cX11_mayStandAt 38 = .ok (.goto 4, 3) := by decide +kernel
theorem dX11_mayStandAt_41 : decode cX11_mayStandAt 41 = .ok (.iconst 0, 1) := by decide +kernel
theorem dX11_mayStandAt_42 : decode cX11_mayStandAt 42 = .ok (.ireturn, 1) := by decide +kernel
theorem dX11_keepText_0 : decode cX11_keepText 0 = .ok (.iload_n 2, 1) := by decide +kernel
theorem dX11_keepText_1 : decode cX11_keepText 1 = .ok (.istore_n 3, 1) := by decide +kernel
theorem dX11_keepText_2 : decode cX11_keepText 2 = .ok (.iload_n 2, 1) := by decide +kernel
theorem dX11_keepText_3 : decode cX11_keepText 3 = .ok (.iconst (-1), 1) := by decide +kernel
theorem dX11_keepText_4 : decode cX11_keepText 4 = .ok (.if_icmp .ne 25, 3) := by decide +kernel
theorem dX11_keepText_7 : decode cX11_keepText 7 = .ok (.aload_n 0, 1) := by decide +kernel
theorem dX11_keepText_8 : decode cX11_keepText 8 = .ok (.getfield 10, 3) := by decide +kernel
theorem dX11_keepText_11 : decode cX11_keepText 11 = .ok (.getfield 113, 3) := by decide +kernel
theorem dX11_keepText_14 : decode cX11_keepText 14 = .ok (.iload_n 1, 1) := by decide +kernel
theorem dX11_keepText_15 : decode cX11_keepText 15 = .ok (.iaload, 1) := by decide +kernel
theorem dX11_keepText_16 : decode cX11_keepText 16 = .ok (.istore_n 3, 1) := by decide +kernel
theorem dX11_keepText_17 : decode cX11_keepText 17 = .ok (.aload_n 0, 1) := by decide +kernel
theorem dX11_keepText_18 : decode cX11_keepText 18 = .ok (.getfield 10, 3) := by decide +kernel
theorem dX11_keepText_21 : decode cX11_keepText 21 = .ok (.getfield 113, 3) := by decide +kernel
theorem dX11_keepText_24 : decode cX11_keepText 24 = .ok (.iload_n 1, 1) := by decide +kernel
theorem dX11_keepText_25 : decode cX11_keepText 25 = .ok (.iload_n 3, 1) := by decide +kernel
theorem dX11_keepText_26 : decode cX11_keepText 26 = .ok (.iconst 1, 1) := by decide +kernel
theorem dX11_keepText_27 : decode cX11_keepText 27 = .ok (.iadd, 1) := by decide +kernel
theorem dX11_keepText_28 : decode cX11_keepText 28 = .ok (.iastore, 1) := by decide +kernel
theorem dX11_keepText_29 : decode cX11_keepText 29 = .ok (.iload_n 1, 1) := by decide +kernel
theorem dX11_keepText_30 : decode cX11_keepText 30 = .ok (.tableswitch 92 0 2 #[26, 48, 70], 26) := by decide +kernel
theorem dX11_keepText_56 : decode cX11_keepText 56 = .ok (.aload_n 0, 1) := by decide +kernel
theorem dX11_keepText_57 : decode cX11_keepText 57 = .ok (.getfield 10, 3) := by decide +kernel
theorem dX11_keepText_60 : decode cX11_keepText 60 = .ok (.getfield 116, 3) := by decide +kernel
theorem dX11_keepText_63 : decode cX11_keepText 63 = .ok (.iload_n 3, 1) := by decide +kernel
theorem dX11_keepText_64 : decode cX11_keepText 64 = .ok (.aaload, 1) := by decide +kernel
theorem dX11_keepText_65 : decode cX11_keepText 65 = .ok (.aload_n 0, 1) := by decide +kernel
theorem dX11_keepText_66 : decode cX11_keepText 66 = .ok (.getfield 27, 3) := by decide +kernel
theorem dX11_keepText_69 : decode cX11_keepText 69 = .ok (.getfield 120, 3) := by decide +kernel
theorem dX11_keepText_72 : decode cX11_keepText 72 = .ok (.invokevirtual 124, 3) := by decide +kernel
theorem dX11_keepText_75 : decode cX11_keepText 75 = .ok (.goto 66, 3) := by decide +kernel
theorem dX11_keepText_78 : decode cX11_keepText 78 = .ok (.aload_n 0, 1) := by decide +kernel
theorem dX11_keepText_79 : decode cX11_keepText 79 = .ok (.getfield 10, 3) := by decide +kernel
theorem dX11_keepText_82 : decode cX11_keepText 82 = .ok (.getfield 130, 3) := by decide +kernel
theorem dX11_keepText_85 : decode cX11_keepText 85 = .ok (.iload_n 3, 1) := by decide +kernel
theorem dX11_keepText_86 : decode cX11_keepText 86 = .ok (.aaload, 1) := by decide +kernel
theorem dX11_keepText_87 : decode cX11_keepText 87 = .ok (.aload_n 0, 1) := by decide +kernel
theorem dX11_keepText_88 : decode cX11_keepText 88 = .ok (.getfield 27, 3) := by decide +kernel
theorem dX11_keepText_91 : decode cX11_keepText 91 = .ok (.getfield 134, 3) := by decide +kernel
theorem dX11_keepText_94 : decode cX11_keepText 94 = .ok (.invokevirtual 137, 3) := by decide +kernel
theorem dX11_keepText_97 : decode cX11_keepText 97 = .ok (.goto 44, 3) := by decide +kernel
theorem dX11_keepText_100 : decode cX11_keepText 100 = .ok (.aload_n 0, 1) := by decide +kernel
theorem dX11_keepText_101 : decode cX11_keepText 101 = .ok (.getfield 10, 3) := by decide +kernel
theorem dX11_keepText_104 : decode cX11_keepText 104 = .ok (.getfield 140, 3) := by decide +kernel
theorem dX11_keepText_107 : decode cX11_keepText 107 = .ok (.iload_n 3, 1) := by decide +kernel
theorem dX11_keepText_108 : decode cX11_keepText 108 = .ok (.aaload, 1) := by decide +kernel
theorem dX11_keepText_109 : decode cX11_keepText 109 = .ok (.aload_n 0, 1) := by decide +kernel
theorem dX11_keepText_110 : decode cX11_keepText 110 = .ok (.getfield 27, 3) := by decide +kernel
theorem dX11_keepText_113 : decode cX11_keepText 113 = .ok (.getfield 144, 3) := by decide +kernel
theorem dX11_keepText_116 : decode cX11_keepText 116 = .ok (.invokevirtual 148, 3) := by decide +kernel
theorem dX11_keepText_119 : decode cX11_keepText 119 = .ok (.goto 22, 3) := by decide +kernel
theorem dX11_keepText_122 : decode cX11_keepText 122 = .ok (.aload_n 0, 1) := by decide +kernel
theorem dX11_keepText_123 : decode cX11_keepText 123 = .ok (.getfield 10, 3) := by decide +kernel
theorem dX11_keepText_126 : decode cX11_keepText 126 = .ok (.getfield 153, 3) := by decide +kernel
theorem dX11_keepText_129 : decode cX11_keepText 129 = .ok (.iload_n 3, 1) := by decide +kernel
theorem dX11_keepText_130 : decode cX11_keepText 130 = .ok (.aaload, 1) := by decide +kernel
theorem dX11_keepText_131 : decode cX11_keepText 131 = .ok (.aload_n 0, 1) := by decide +kernel
theorem dX11_keepText_132 : decode cX11_keepText 132 = .ok (.getfield 27, 3) := by decide +kernel
theorem dX11_keepText_135 : decode cX11_keepText 135 = .ok (.getfield 157, 3) := by decide +kernel
theorem dX11_keepText_138 : decode cX11_keepText 138 = .ok (.invokevirtual 160, 3) := by decide +kernel
theorem dX11_keepText_141 : decode cX11_keepText 141 = .ok (.iload_n 3, 1) := by decide +kernel
theorem dX11_keepText_142 : decode cX11_keepText 142 = .ok (.ireturn, 1) := by decide +kernel
theorem dX11_fault_0 : decode cX11_fault 0 = .ok (.iload_n 1, 1) := by decide +kernel
theorem dX11_fault_1 : decode cX11_fault 1 = .ok (.ifCond .ne 11, 3) := by decide +kernel
theorem dX11_fault_4 : decode cX11_fault 4 = .ok (.aload_n 0, 1) := by decide +kernel
theorem dX11_fault_5 : decode cX11_fault 5 = .ok (.getfield 10, 3) := by decide +kernel
theorem dX11_fault_8 : decode cX11_fault 8 = .ok (.getfield 85, 3) := by decide +kernel
theorem dX11_fault_11 : decode cX11_fault 11 = .ok (.ireturn, 1) := by decide +kernel
theorem dX11_fault_12 : decode cX11_fault 12 = .ok (.iload_n 1, 1) := by decide +kernel
theorem dX11_fault_13 : decode cX11_fault 13 = .ok (.iconst 1, 1) := by decide +kernel
theorem dX11_fault_14 : decode cX11_fault 14 = .ok (.if_icmp .ne 13, 3) := by decide +kernel
theorem dX11_fault_17 : decode cX11_fault 17 = .ok (.aload_n 0, 1) := by decide +kernel
theorem dX11_fault_18 : decode cX11_fault 18 = .ok (.getfield 10, 3) := by decide +kernel
theorem dX11_fault_21 : decode cX11_fault 21 = .ok (.getfield 88, 3) := by decide +kernel
theorem dX11_fault_24 : decode cX11_fault 24 = .ok (.goto 4, 3) := by decide +kernel
theorem dX11_fault_27 : decode cX11_fault 27 = .ok (.iconst (-1), 1) := by decide +kernel
theorem dX11_fault_28 : decode cX11_fault 28 = .ok (.ireturn, 1) := by decide +kernel
theorem dX11_war_0 : decode cX11_war 0 = .ok (.aload_n 0, 1) := by decide +kernel
theorem dX11_war_1 : decode cX11_war 1 = .ok (.iload_n 1, 1) := by decide +kernel
theorem dX11_war_2 : decode cX11_war 2 = .ok (.invokevirtual 165, 3) := by decide +kernel
theorem dX11_war_5 : decode cX11_war 5 = .ok (.astore_n 3, 1) := by decide +kernel
theorem dX11_war_6 : decode cX11_war 6 = .ok (.aload_n 3, 1) := by decide +kernel
theorem dX11_war_7 : decode cX11_war 7 = .ok (.ifnonnull 5, 3) := by decide +kernel
theorem dX11_war_10 : decode cX11_war 10 = .ok (.iconst (-1), 1) := by decide +kernel
theorem dX11_war_11 : decode cX11_war 11 = .ok (.ireturn, 1) := by decide +kernel
theorem dX11_war_12 : decode cX11_war 12 = .ok (.iload_n 2, 1) := by decide +kernel
theorem dX11_war_13 : decode cX11_war 13 = .ok (.ifCond .ne 8, 3) := by decide +kernel
theorem dX11_war_16 : decode cX11_war 16 = .ok (.aload_n 3, 1) := by decide +kernel
theorem dX11_war_17 : decode cX11_war 17 = .ok (.getfield 169, 3) := by decide +kernel
theorem dX11_war_20 : decode cX11_war 20 = .ok (.ireturn, 1) := by decide +kernel
theorem dX11_war_21 : decode cX11_war 21 = .ok (.iload_n 2, 1) := by decide +kernel
theorem dX11_war_22 : decode cX11_war 22 = .ok (.iconst 1, 1) := by decide +kernel
theorem dX11_war_23 : decode cX11_war 23 = .ok (.if_icmp .ne 8, 3) := by decide +kernel
theorem dX11_war_26 : decode cX11_war 26 = .ok (.aload_n 3, 1) := by decide +kernel
theorem dX11_war_27 : decode cX11_war 27 = .ok (.getfield 172, 3) := by decide +kernel
theorem dX11_war_30 : decode cX11_war 30 = .ok (.ireturn, 1) := by decide +kernel
theorem dX11_war_31 : decode cX11_war 31 = .ok (.iload_n 2, 1) := by decide +kernel
theorem dX11_war_32 : decode cX11_war 32 = .ok (.iconst 2, 1) := by decide +kernel
theorem dX11_war_33 : decode cX11_war 33 = .ok (.if_icmp .ne 8, 3) := by decide +kernel
theorem dX11_war_36 : decode cX11_war 36 = .ok (.aload_n 3, 1) := by decide +kernel
theorem dX11_war_37 : decode cX11_war 37 = .ok (.getfield 175, 3) := by decide +kernel
theorem dX11_war_40 : decode cX11_war 40 = .ok (.ireturn, 1) := by decide +kernel
theorem dX11_war_41 : decode cX11_war 41 = .ok (.iload_n 2, 1) := by decide +kernel
theorem dX11_war_42 : decode cX11_war 42 = .ok (.bipush 10, 2) := by decide +kernel
theorem dX11_war_44 : decode cX11_war 44 = .ok (.if_icmp .lt 19, 3) := by decide +kernel
theorem dX11_war_47 : decode cX11_war 47 = .ok (.iload_n 2, 1) := by decide +kernel
theorem dX11_war_48 : decode cX11_war 48 = .ok (.bipush 14, 2) := by decide +kernel
theorem dX11_war_50 : decode cX11_war 50 = .ok (.if_icmp .ge 13, 3) := by decide +kernel
theorem dX11_war_53 : decode cX11_war 53 = .ok (.aload_n 3, 1) := by decide +kernel
theorem dX11_war_54 : decode cX11_war 54 = .ok (.getfield 178, 3) := by decide +kernel
theorem dX11_war_57 : decode cX11_war 57 = .ok (.iload_n 2, 1) := by decide +kernel
theorem dX11_war_58 : decode cX11_war 58 = .ok (.bipush 10, 2) := by decide +kernel
theorem dX11_war_60 : decode cX11_war 60 = .ok (.isub, 1) := by decide +kernel
theorem dX11_war_61 : decode cX11_war 61 = .ok (.iaload, 1) := by decide +kernel
theorem dX11_war_62 : decode cX11_war 62 = .ok (.ireturn, 1) := by decide +kernel
theorem dX11_war_63 : decode cX11_war 63 = .ok (.iload_n 2, 1) := by decide +kernel
theorem dX11_war_64 : decode cX11_war 64 = .ok (.bipush 20, 2) := by decide +kernel
theorem dX11_war_66 : decode cX11_war 66 = .ok (.if_icmp .lt 28, 3) := by decide +kernel
theorem dX11_war_69 : decode cX11_war 69 = .ok (.iload_n 2, 1) := by decide +kernel
theorem dX11_war_70 : decode cX11_war 70 = .ok (.bipush 10, 2) := by decide +kernel
theorem dX11_war_72 : decode cX11_war 72 = .ok (.irem, 1) := by decide +kernel
theorem dX11_war_73 : decode cX11_war 73 = .ok (.invokestatic 181, 3) := by decide +kernel
theorem dX11_war_76 : decode cX11_war 76 = .ok (.ifCond .eq 18, 3) := by decide +kernel
theorem dX11_war_79 : decode cX11_war 79 = .ok (.aload_n 3, 1) := by decide +kernel
theorem dX11_war_80 : decode cX11_war 80 = .ok (.iload_n 2, 1) := by decide +kernel
theorem dX11_war_81 : decode cX11_war 81 = .ok (.bipush 10, 2) := by decide +kernel
theorem dX11_war_83 : decode cX11_war 83 = .ok (.idiv, 1) := by decide +kernel
theorem dX11_war_84 : decode cX11_war 84 = .ok (.iload_n 2, 1) := by decide +kernel
theorem dX11_war_85 : decode cX11_war 85 = .ok (.bipush 10, 2) := by decide +kernel
theorem dX11_war_87 : decode cX11_war 87 = .ok (.irem, 1) := by decide +kernel
theorem dX11_war_88 : decode cX11_war 88 = .ok (.invokestatic 184, 3) := by decide +kernel
theorem dX11_war_91 : decode cX11_war 91 = .ok (.goto 4, 3) := by decide +kernel
theorem dX11_war_94 : decode cX11_war 94 = .ok (.iconst (-1), 1) := by decide +kernel
theorem dX11_war_95 : decode cX11_war 95 = .ok (.ireturn, 1) := by decide +kernel
theorem dX11_ofArmy_0 : decode cX11_ofArmy 0 = .ok (.iload_n 1, 1) := by decide +kernel
theorem dX11_ofArmy_1 : decode cX11_ofArmy 1 = .ok (.tableswitch 70 2 6 #[35, 42, 49, 56, 63], 35) := by decide +kernel
theorem dX11_ofArmy_36 : decode cX11_ofArmy 36 = .ok (.aload_n 0, 1) := by decide +kernel
theorem dX11_ofArmy_37 : decode cX11_ofArmy 37 = .ok (.getfield 188, 3) := by decide +kernel
theorem dX11_ofArmy_40 : decode cX11_ofArmy 40 = .ok (.iload_n 2, 1) := by decide +kernel
theorem dX11_ofArmy_41 : decode cX11_ofArmy 41 = .ok (.iaload, 1) := by decide +kernel
theorem dX11_ofArmy_42 : decode cX11_ofArmy 42 = .ok (.ireturn, 1) := by decide +kernel
theorem dX11_ofArmy_43 : decode cX11_ofArmy 43 = .ok (.aload_n 0, 1) := by decide +kernel
theorem dX11_ofArmy_44 : decode cX11_ofArmy 44 = .ok (.getfield 191, 3) := by decide +kernel
theorem dX11_ofArmy_47 : decode cX11_ofArmy 47 = .ok (.iload_n 2, 1) := by decide +kernel
theorem dX11_ofArmy_48 : decode cX11_ofArmy 48 = .ok (.iaload, 1) := by decide +kernel
theorem dX11_ofArmy_49 : decode cX11_ofArmy 49 = .ok (.ireturn, 1) := by decide +kernel
theorem dX11_ofArmy_50 : decode cX11_ofArmy 50 = .ok (.aload_n 0, 1) := by decide +kernel
theorem dX11_ofArmy_51 : decode cX11_ofArmy 51 = .ok (.getfield 194, 3) := by decide +kernel
theorem dX11_ofArmy_54 : decode cX11_ofArmy 54 = .ok (.iload_n 2, 1) := by decide +kernel
theorem dX11_ofArmy_55 : decode cX11_ofArmy 55 = .ok (.iaload, 1) := by decide +kernel
theorem dX11_ofArmy_56 : decode cX11_ofArmy 56 = .ok (.ireturn, 1) := by decide +kernel
theorem dX11_ofArmy_57 : decode cX11_ofArmy 57 = .ok (.aload_n 0, 1) := by decide +kernel
theorem dX11_ofArmy_58 : decode cX11_ofArmy 58 = .ok (.getfield 197, 3) := by decide +kernel
theorem dX11_ofArmy_61 : decode cX11_ofArmy 61 = .ok (.iload_n 2, 1) := by decide +kernel
theorem dX11_ofArmy_62 : decode cX11_ofArmy 62 = .ok (.iaload, 1) := by decide +kernel
theorem dX11_ofArmy_63 : decode cX11_ofArmy 63 = .ok (.ireturn, 1) := by decide +kernel
theorem dX11_ofArmy_64 : decode cX11_ofArmy 64 = .ok (.aload_n 0, 1) := by decide +kernel
theorem dX11_ofArmy_65 : decode cX11_ofArmy 65 = .ok (.getfield 200, 3) := by decide +kernel
theorem dX11_ofArmy_68 : decode cX11_ofArmy 68 = .ok (.iload_n 2, 1) := by decide +kernel
theorem dX11_ofArmy_69 : decode cX11_ofArmy 69 = .ok (.iaload, 1) := by decide +kernel
theorem dX11_ofArmy_70 : decode cX11_ofArmy 70 = .ok (.ireturn, 1) := by decide +kernel
theorem dX11_ofArmy_71 : decode cX11_ofArmy 71 = .ok (.iconst (-1), 1) := by decide +kernel
theorem dX11_ofArmy_72 : decode cX11_ofArmy 72 = .ok (.ireturn, 1) := by decide +kernel
theorem dX11_order_0 : decode cX11_order 0 = .ok (.aload_n 0, 1) := by decide +kernel
theorem dX11_order_1 : decode cX11_order 1 = .ok (.iload_n 1, 1) := by decide +kernel
theorem dX11_order_2 : decode cX11_order 2 = .ok (.invokevirtual 165, 3) := by decide +kernel
theorem dX11_order_5 : decode cX11_order 5 = .ok (.astore 5, 2) := by decide +kernel
theorem dX11_order_7 : decode cX11_order 7 = .ok (.aload 5, 2) := by decide +kernel
theorem dX11_order_9 : decode cX11_order 9 = .ok (.ifnull 13, 3) := by decide +kernel
theorem dX11_order_12 : decode cX11_order 12 = .ok (.aload 5, 2) := by decide +kernel
theorem dX11_order_14 : decode cX11_order 14 = .ok (.iload_n 2, 1) := by decide +kernel
theorem dX11_order_15 : decode cX11_order 15 = .ok (.iload_n 3, 1) := by decide +kernel
theorem dX11_order_16 : decode cX11_order 16 = .ok (.invokestatic 203, 3) := by decide +kernel
theorem dX11_order_19 : decode cX11_order 19 = .ok (.ifCond .ne 5, 3) := by decide +kernel
theorem dX11_order_22 : decode cX11_order 22 = .ok (.iconst (-1), 1) := by decide +kernel
theorem dX11_order_23 : decode cX11_order 23 = .ok (.ireturn, 1) := by decide +kernel
theorem dX11_order_24 : decode cX11_order 24 = .ok (.iload_n 2, 1) := by decide +kernel
theorem dX11_order_25 : decode cX11_order 25 = .ok (.iload_n 3, 1) := by decide +kernel
theorem dX11_order_26 : decode cX11_order 26 = .ok (.invokestatic 207, 3) := by decide +kernel
theorem dX11_order_29 : decode cX11_order 29 = .ok (.istore 6, 2) := by decide +kernel
theorem dX11_order_31 : decode cX11_order 31 = .ok (.iload 4, 2) := by decide +kernel
theorem dX11_order_33 : decode cX11_order 33 = .ok (.ifCond .ne 12, 3) := by decide +kernel
theorem dX11_order_36 : decode cX11_order 36 = .ok (.aload 5, 2) := by decide +kernel
theorem dX11_order_38 : decode cX11_order 38 = .ok (.getfield 210, 3) := by decide +kernel
theorem dX11_order_41 : decode cX11_order 41 = .ok (.iload 6, 2) := by decide +kernel
theorem dX11_order_43 : decode cX11_order 43 = .ok (.iaload, 1) := by decide +kernel
theorem dX11_order_44 : decode cX11_order 44 = .ok (.ireturn, 1) := by decide +kernel
theorem dX11_order_45 : decode cX11_order 45 = .ok (.iload 4, 2) := by decide +kernel
theorem dX11_order_47 : decode cX11_order 47 = .ok (.iconst 1, 1) := by decide +kernel
theorem dX11_order_48 : decode cX11_order 48 = .ok (.if_icmp .ne 12, 3) := by decide +kernel
theorem dX11_order_51 : decode cX11_order 51 = .ok (.aload 5, 2) := by decide +kernel
theorem dX11_order_53 : decode cX11_order 53 = .ok (.getfield 213, 3) := by decide +kernel
theorem dX11_order_56 : decode cX11_order 56 = .ok (.iload 6, 2) := by decide +kernel
theorem dX11_order_58 : decode cX11_order 58 = .ok (.iaload, 1) := by decide +kernel
theorem dX11_order_59 : decode cX11_order 59 = .ok (.ireturn, 1) := by decide +kernel
theorem dX11_order_60 : decode cX11_order 60 = .ok (.iload 4, 2) := by decide +kernel
theorem dX11_order_62 : decode cX11_order 62 = .ok (.bipush 10, 2) := by decide +kernel
theorem dX11_order_64 : decode cX11_order 64 = .ok (.if_icmp .lt 23, 3) := by decide +kernel
theorem dX11_order_67 : decode cX11_order 67 = .ok (.iload 4, 2) := by decide +kernel
theorem dX11_order_69 : decode cX11_order 69 = .ok (.bipush 10, 2) := by decide +kernel
theorem dX11_order_71 : decode cX11_order 71 = .ok (.isub, 1) := by decide +kernel
theorem dX11_order_72 : decode cX11_order 72 = .ok (.aload 5, 2) := by decide +kernel
theorem dX11_order_74 : decode cX11_order 74 = .ok (.getfield 213, 3) := by decide +kernel
theorem dX11_order_77 : decode cX11_order 77 = .ok (.iload 6, 2) := by decide +kernel
theorem dX11_order_79 : decode cX11_order 79 = .ok (.iaload, 1) := by decide +kernel
theorem dX11_order_80 : decode cX11_order 80 = .ok (.if_icmp .ge 7, 3) := by decide +kernel
theorem dX11_order_83 : decode cX11_order 83 = .ok (.iconst 1, 1) := by decide +kernel
theorem dX11_order_84 : decode cX11_order 84 = .ok (.goto 4, 3) := by decide +kernel
theorem dX11_order_87 : decode cX11_order 87 = .ok (.iconst 0, 1) := by decide +kernel
theorem dX11_order_88 : decode cX11_order 88 = .ok (.istore 7, 2) := by decide +kernel
theorem dX11_order_90 : decode cX11_order 90 = .ok (.iload 7, 2) := by decide +kernel
theorem dX11_order_92 : decode cX11_order 92 = .ok (.ifCond .eq 22, 3) := by decide +kernel
theorem dX11_order_95 : decode cX11_order 95 = .ok (.aload 5, 2) := by decide +kernel
theorem dX11_order_97 : decode cX11_order 97 = .ok (.getfield 216, 3) := by decide +kernel
theorem dX11_order_100 : decode cX11_order 100 = .ok (.iload 6, 2) := by decide +kernel
theorem dX11_order_102 : decode cX11_order 102 = .ok (.iconst 4, 1) := by decide +kernel
theorem dX11_order_103 : decode cX11_order 103 = .ok (.imul, 1) := by decide +kernel
theorem dX11_order_104 : decode cX11_order 104 = .ok (.iload 4, 2) := by decide +kernel
theorem dX11_order_106 : decode cX11_order 106 = .ok (.iadd, 1) := by decide +kernel
theorem dX11_order_107 : decode cX11_order 107 = .ok (.bipush 10, 2) := by decide +kernel
theorem dX11_order_109 : decode cX11_order 109 = .ok (.isub, 1) := by decide +kernel
theorem dX11_order_110 : decode cX11_order 110 = .ok (.iaload, 1) := by decide +kernel
theorem dX11_order_111 : decode cX11_order 111 = .ok (.goto 4, 3) := by decide +kernel
theorem dX11_order_114 : decode cX11_order 114 = .ok (.iconst (-1), 1) := by decide +kernel
theorem dX11_order_115 : decode cX11_order 115 = .ok (.ireturn, 1) := by decide +kernel
theorem dX11_given_0 : decode cX11_given 0 = .ok (.aload_n 0, 1) := by decide +kernel
theorem dX11_given_1 : decode cX11_given 1 = .ok (.iload_n 1, 1) := by decide +kernel
theorem dX11_given_2 : decode cX11_given 2 = .ok (.invokevirtual 219, 3) := by decide +kernel
theorem dX11_given_5 : decode cX11_given 5 = .ok (.astore 4, 2) := by decide +kernel
theorem dX11_given_7 : decode cX11_given 7 = .ok (.aload 4, 2) := by decide +kernel
theorem dX11_given_9 : decode cX11_given 9 = .ok (.ifnull 10, 3) := by decide +kernel
theorem dX11_given_12 : decode cX11_given 12 = .ok (.iload_n 2, 1) := by decide +kernel
theorem dX11_given_13 : decode cX11_given 13 = .ok (.invokestatic 181, 3) := by decide +kernel
theorem dX11_given_16 : decode cX11_given 16 = .ok (.ifCond .ne 5, 3) := by decide +kernel
theorem dX11_given_19 : decode cX11_given 19 = .ok (.iconst (-1), 1) := by decide +kernel
theorem dX11_given_20 : decode cX11_given 20 = .ok (.ireturn, 1) := by decide +kernel
theorem dX11_given_21 : decode cX11_given 21 = .ok (.iload_n 3, 1) := by decide +kernel
theorem dX11_given_22 : decode cX11_given 22 = .ok (.iconst (-1), 1) := by decide +kernel
theorem dX11_given_23 : decode cX11_given 23 = .ok (.if_icmp .ne 11, 3) := by decide +kernel
theorem dX11_given_26 : decode cX11_given 26 = .ok (.aload 4, 2) := by decide +kernel
theorem dX11_given_28 : decode cX11_given 28 = .ok (.getfield 223, 3) := by decide +kernel
theorem dX11_given_31 : decode cX11_given 31 = .ok (.iload_n 2, 1) := by decide +kernel
theorem dX11_given_32 : decode cX11_given 32 = .ok (.iaload, 1) := by decide +kernel
theorem dX11_given_33 : decode cX11_given 33 = .ok (.ireturn, 1) := by decide +kernel
theorem dX11_given_34 : decode cX11_given 34 = .ok (.iload_n 3, 1) := by decide +kernel
theorem dX11_given_35 : decode cX11_given 35 = .ok (.ifCond .lt 29, 3) := by decide +kernel
theorem dX11_given_38 : decode cX11_given 38 = .ok (.iload_n 3, 1) := by decide +kernel
theorem dX11_given_39 : decode cX11_given 39 = .ok (.aload 4, 2) := by decide +kernel
theorem dX11_given_41 : decode cX11_given 41 = .ok (.getfield 223, 3) := by decide +kernel
theorem dX11_given_44 : decode cX11_given 44 = .ok (.iload_n 2, 1) := by decide +kernel
theorem dX11_given_45 : decode cX11_given 45 = .ok (.iaload, 1) := by decide +kernel
theorem dX11_given_46 : decode cX11_given 46 = .ok (.if_icmp .ge 18, 3) := by decide +kernel
theorem dX11_given_49 : decode cX11_given 49 = .ok (.aload 4, 2) := by decide +kernel
theorem dX11_given_51 : decode cX11_given 51 = .ok (.getfield 224, 3) := by decide +kernel
theorem dX11_given_54 : decode cX11_given 54 = .ok (.iload_n 2, 1) := by decide +kernel
theorem dX11_given_55 : decode cX11_given 55 = .ok (.bipush 12, 2) := by decide +kernel
theorem dX11_given_57 : decode cX11_given 57 = .ok (.imul, 1) := by decide +kernel
theorem dX11_given_58 : decode cX11_given 58 = .ok (.iload_n 3, 1) := by decide +kernel
theorem dX11_given_59 : decode cX11_given 59 = .ok (.iadd, 1) := by decide +kernel
theorem dX11_given_60 : decode cX11_given 60 = .ok (.iaload, 1) := by decide +kernel
theorem dX11_given_61 : decode cX11_given 61 = .ok (.goto 4, 3) := by decide +kernel
theorem dX11_given_64 : decode cX11_given 64 = .ok (.iconst (-1), 1) := by decide +kernel
theorem dX11_given_65 : decode cX11_given 65 = .ok (.ireturn, 1) := by decide +kernel
theorem dX11_row_0 : decode cX11_row 0 = .ok (.aload_n 0, 1) := by decide +kernel
theorem dX11_row_1 : decode cX11_row 1 = .ok (.iload_n 1, 1) := by decide +kernel
theorem dX11_row_2 : decode cX11_row 2 = .ok (.iload_n 2, 1) := by decide +kernel
theorem dX11_row_3 : decode cX11_row 3 = .ok (.invokevirtual 225, 3) := by decide +kernel
theorem dX11_row_6 : decode cX11_row 6 = .ok (.ifCond .ne 6, 3) := by decide +kernel
theorem dX11_row_9 : decode cX11_row 9 = .ok (.bipush (-2), 2) := by decide +kernel
theorem dX11_row_11 : decode cX11_row 11 = .ok (.ireturn, 1) := by decide +kernel
theorem dX11_row_12 : decode cX11_row 12 = .ok (.iload_n 3, 1) := by decide +kernel
theorem dX11_row_13 : decode cX11_row 13 = .ok (.iconst (-1), 1) := by decide +kernel
theorem dX11_row_14 : decode cX11_row 14 = .ok (.if_icmp .ne 21, 3) := by decide +kernel
theorem dX11_row_17 : decode cX11_row 17 = .ok (.iload 4, 2) := by decide +kernel
theorem dX11_row_19 : decode cX11_row 19 = .ok (.ifCond .ne 13, 3) := by decide +kernel
theorem dX11_row_22 : decode cX11_row 22 = .ok (.aload_n 0, 1) := by decide +kernel
theorem dX11_row_23 : decode cX11_row 23 = .ok (.getfield 41, 3) := by decide +kernel
theorem dX11_row_26 : decode cX11_row 26 = .ok (.getfield 228, 3) := by decide +kernel
theorem dX11_row_29 : decode cX11_row 29 = .ok (.goto 5, 3) := by decide +kernel
theorem dX11_row_32 : decode cX11_row 32 = .ok (.bipush (-2), 2) := by decide +kernel
theorem dX11_row_34 : decode cX11_row 34 = .ok (.ireturn, 1) := by decide +kernel
theorem dX11_row_35 : decode cX11_row 35 = .ok (.iload_n 3, 1) := by decide +kernel
theorem dX11_row_36 : decode cX11_row 36 = .ok (.ifCond .lt 14, 3) := by decide +kernel
theorem dX11_row_39 : decode cX11_row 39 = .ok (.iload_n 3, 1) := by decide +kernel
theorem dX11_row_40 : decode cX11_row 40 = .ok (.aload_n 0, 1) := by decide +kernel
theorem dX11_row_41 : decode cX11_row 41 = .ok (.getfield 41, 3) := by decide +kernel
theorem dX11_row_44 : decode cX11_row 44 = .ok (.getfield 228, 3) := by decide +kernel
theorem dX11_row_47 : decode cX11_row 47 = .ok (.if_icmp .lt 6, 3) := by decide +kernel
theorem dX11_row_50 : decode cX11_row 50 = .ok (.bipush (-2), 2) := by decide +kernel
theorem dX11_row_52 : decode cX11_row 52 = .ok (.ireturn, 1) := by decide +kernel
theorem dX11_row_53 : decode cX11_row 53 = .ok (.iload 4, 2) := by decide +kernel
theorem dX11_row_55 : decode cX11_row 55 = .ok (.tableswitch 76 0 3 #[29, 39, 49, 59], 29) := by decide +kernel
theorem dX11_row_84 : decode cX11_row 84 = .ok (.aload_n 0, 1) := by decide +kernel
theorem dX11_row_85 : decode cX11_row 85 = .ok (.getfield 41, 3) := by decide +kernel
theorem dX11_row_88 : decode cX11_row 88 = .ok (.getfield 231, 3) := by decide +kernel
theorem dX11_row_91 : decode cX11_row 91 = .ok (.iload_n 3, 1) := by decide +kernel
theorem dX11_row_92 : decode cX11_row 92 = .ok (.iaload, 1) := by decide +kernel
theorem dX11_row_93 : decode cX11_row 93 = .ok (.ireturn, 1) := by decide +kernel
theorem dX11_row_94 : decode cX11_row 94 = .ok (.aload_n 0, 1) := by decide +kernel
theorem dX11_row_95 : decode cX11_row 95 = .ok (.getfield 41, 3) := by decide +kernel
theorem dX11_row_98 : decode cX11_row 98 = .ok (.getfield 234, 3) := by decide +kernel
theorem dX11_row_101 : decode cX11_row 101 = .ok (.iload_n 3, 1) := by decide +kernel
theorem dX11_row_102 : decode cX11_row 102 = .ok (.iaload, 1) := by decide +kernel
theorem dX11_row_103 : decode cX11_row 103 = .ok (.ireturn, 1) := by decide +kernel
theorem dX11_row_104 : decode cX11_row 104 = .ok (.aload_n 0, 1) := by decide +kernel
theorem dX11_row_105 : decode cX11_row 105 = .ok (.getfield 41, 3) := by decide +kernel
theorem dX11_row_108 : decode cX11_row 108 = .ok (.getfield 237, 3) := by decide +kernel
theorem dX11_row_111 : decode cX11_row 111 = .ok (.iload_n 3, 1) := by decide +kernel
theorem dX11_row_112 : decode cX11_row 112 = .ok (.iaload, 1) := by decide +kernel
theorem dX11_row_113 : decode cX11_row 113 = .ok (.ireturn, 1) := by decide +kernel
theorem dX11_row_114 : decode cX11_row 114 = .ok (.aload_n 0, 1) := by decide +kernel
theorem dX11_row_115 : decode cX11_row 115 = .ok (.getfield 41, 3) := by decide +kernel
theorem dX11_row_118 : decode cX11_row 118 = .ok (.iload_n 3, 1) := by decide +kernel
theorem dX11_row_119 : decode cX11_row 119 = .ok (.invokevirtual 240, 3) := by decide +kernel
theorem dX11_row_122 : decode cX11_row 122 = .ok (.ifCond .eq 7, 3) := by decide +kernel
theorem dX11_row_125 : decode cX11_row 125 = .ok (.iconst 1, 1) := by decide +kernel
theorem dX11_row_126 : decode cX11_row 126 = .ok (.goto 4, 3) := by decide +kernel
theorem dX11_row_129 : decode cX11_row 129 = .ok (.iconst 0, 1) := by decide +kernel
theorem dX11_row_130 : decode cX11_row 130 = .ok (.ireturn, 1) := by decide +kernel
theorem dX11_row_131 : decode cX11_row 131 = .ok (.bipush (-2), 2) := by decide +kernel
theorem dX11_row_133 : decode cX11_row 133 = .ok (.ireturn, 1) := by decide +kernel
theorem dX11_heard_0 : decode cX11_heard 0 = .ok (.iload_n 3, 1) := by decide +kernel
theorem dX11_heard_1 : decode cX11_heard 1 = .ok (.invokestatic 181, 3) := by decide +kernel
theorem dX11_heard_4 : decode cX11_heard 4 = .ok (.ifCond .eq 12, 3) := by decide +kernel
theorem dX11_heard_7 : decode cX11_heard 7 = .ok (.aload_n 0, 1) := by decide +kernel
theorem dX11_heard_8 : decode cX11_heard 8 = .ok (.iload_n 1, 1) := by decide +kernel
theorem dX11_heard_9 : decode cX11_heard 9 = .ok (.iload_n 2, 1) := by decide +kernel
theorem dX11_heard_10 : decode cX11_heard 10 = .ok (.invokevirtual 243, 3) := by decide +kernel
theorem dX11_heard_13 : decode cX11_heard 13 = .ok (.ifCond .ne 5, 3) := by decide +kernel
theorem dX11_heard_16 : decode cX11_heard 16 = .ok (.iconst (-1), 1) := by decide +kernel
theorem dX11_heard_17 : decode cX11_heard 17 = .ok (.ireturn, 1) := by decide +kernel
theorem dX11_heard_18 : decode cX11_heard 18 = .ok (.aload_n 0, 1) := by decide +kernel
theorem dX11_heard_19 : decode cX11_heard 19 = .ok (.getfield 47, 3) := by decide +kernel
theorem dX11_heard_22 : decode cX11_heard 22 = .ok (.iload_n 3, 1) := by decide +kernel
theorem dX11_heard_23 : decode cX11_heard 23 = .ok (.aaload, 1) := by decide +kernel
theorem dX11_heard_24 : decode cX11_heard 24 = .ok (.astore 5, 2) := by decide +kernel
theorem dX11_heard_26 : decode cX11_heard 26 = .ok (.iload 4, 2) := by decide +kernel
theorem dX11_heard_28 : decode cX11_heard 28 = .ok (.iconst (-1), 1) := by decide +kernel
theorem dX11_heard_29 : decode cX11_heard 29 = .ok (.if_icmp .ne 9, 3) := by decide +kernel
theorem dX11_heard_32 : decode cX11_heard 32 = .ok (.aload 5, 2) := by decide +kernel
theorem dX11_heard_34 : decode cX11_heard 34 = .ok (.getfield 246, 3) := by decide +kernel
theorem dX11_heard_37 : decode cX11_heard 37 = .ok (.ireturn, 1) := by decide +kernel
theorem dX11_heard_38 : decode cX11_heard 38 = .ok (.iload 4, 2) := by decide +kernel
theorem dX11_heard_40 : decode cX11_heard 40 = .ok (.ifCond .lt 24, 3) := by decide +kernel
theorem dX11_heard_43 : decode cX11_heard 43 = .ok (.iload 4, 2) := by decide +kernel
theorem dX11_heard_45 : decode cX11_heard 45 = .ok (.aload 5, 2) := by decide +kernel
theorem dX11_heard_47 : decode cX11_heard 47 = .ok (.getfield 246, 3) := by decide +kernel
theorem dX11_heard_50 : decode cX11_heard 50 = .ok (.if_icmp .ge 14, 3) := by decide +kernel
theorem dX11_heard_53 : decode cX11_heard 53 = .ok (.aload 5, 2) := by decide +kernel
theorem dX11_heard_55 : decode cX11_heard 55 = .ok (.getfield 249, 3) := by decide +kernel
theorem dX11_heard_58 : decode cX11_heard 58 = .ok (.iload 4, 2) := by decide +kernel
theorem dX11_heard_60 : decode cX11_heard 60 = .ok (.iaload, 1) := by decide +kernel
theorem dX11_heard_61 : decode cX11_heard 61 = .ok (.goto 4, 3) := by decide +kernel
theorem dX11_heard_64 : decode cX11_heard 64 = .ok (.iconst (-1), 1) := by decide +kernel
theorem dX11_heard_65 : decode cX11_heard 65 = .ok (.ireturn, 1) := by decide +kernel
theorem dX11_made_0 : decode cX11_made 0 = .ok (.iload_n 3, 1) := by decide +kernel
theorem dX11_made_1 : decode cX11_made 1 = .ok (.invokestatic 181, 3) := by decide +kernel
theorem dX11_made_4 : decode cX11_made 4 = .ok (.ifCond .eq 12, 3) := by decide +kernel
theorem dX11_made_7 : decode cX11_made 7 = .ok (.aload_n 0, 1) := by decide +kernel
theorem dX11_made_8 : decode cX11_made 8 = .ok (.iload_n 1, 1) := by decide +kernel
theorem dX11_made_9 : decode cX11_made 9 = .ok (.iload_n 2, 1) := by decide +kernel
theorem dX11_made_10 : decode cX11_made 10 = .ok (.invokevirtual 243, 3) := by decide +kernel
theorem dX11_made_13 : decode cX11_made 13 = .ok (.ifCond .ne 6, 3) := by decide +kernel
theorem dX11_made_16 : decode cX11_made 16 = .ok (.bipush (-2), 2) := by decide +kernel
theorem dX11_made_18 : decode cX11_made 18 = .ok (.ireturn, 1) := by decide +kernel
theorem dX11_made_19 : decode cX11_made 19 = .ok (.aload_n 0, 1) := by decide +kernel
theorem dX11_made_20 : decode cX11_made 20 = .ok (.getfield 47, 3) := by decide +kernel
theorem dX11_made_23 : decode cX11_made 23 = .ok (.iload_n 3, 1) := by decide +kernel
theorem dX11_made_24 : decode cX11_made 24 = .ok (.aaload, 1) := by decide +kernel
theorem dX11_made_25 : decode cX11_made 25 = .ok (.astore 6, 2) := by decide +kernel
theorem dX11_made_27 : decode cX11_made 27 = .ok (.iload 4, 2) := by decide +kernel
theorem dX11_made_29 : decode cX11_made 29 = .ok (.iconst (-1), 1) := by decide +kernel
theorem dX11_made_30 : decode cX11_made 30 = .ok (.if_icmp .ne 12, 3) := by decide +kernel
theorem dX11_made_33 : decode cX11_made 33 = .ok (.aload_n 0, 1) := by decide +kernel
theorem dX11_made_34 : decode cX11_made 34 = .ok (.aload 6, 2) := by decide +kernel
theorem dX11_made_36 : decode cX11_made 36 = .ok (.iload 5, 2) := by decide +kernel
theorem dX11_made_38 : decode cX11_made 38 = .ok (.invokevirtual 250, 3) := by decide +kernel
theorem dX11_made_41 : decode cX11_made 41 = .ok (.ireturn, 1) := by decide +kernel
theorem dX11_made_42 : decode cX11_made 42 = .ok (.iload 4, 2) := by decide +kernel
theorem dX11_made_44 : decode cX11_made 44 = .ok (.ifCond .lt 13, 3) := by decide +kernel
theorem dX11_made_47 : decode cX11_made 47 = .ok (.iload 4, 2) := by decide +kernel
theorem dX11_made_49 : decode cX11_made 49 = .ok (.aload 6, 2) := by decide +kernel
theorem dX11_made_51 : decode cX11_made 51 = .ok (.getfield 254, 3) := by decide +kernel
theorem dX11_made_54 : decode cX11_made 54 = .ok (.if_icmp .lt 6, 3) := by decide +kernel
theorem dX11_made_57 : decode cX11_made 57 = .ok (.bipush (-2), 2) := by decide +kernel
theorem dX11_made_59 : decode cX11_made 59 = .ok (.ireturn, 1) := by decide +kernel
theorem dX11_made_60 : decode cX11_made 60 = .ok (.iload 5, 2) := by decide +kernel
theorem dX11_made_62 : decode cX11_made 62 = .ok (.tableswitch 75 0 3 #[30, 39, 53, 62], 30) := by decide +kernel
theorem dX11_made_92 : decode cX11_made 92 = .ok (.aload 6, 2) := by decide +kernel
theorem dX11_made_94 : decode cX11_made 94 = .ok (.getfield 257, 3) := by decide +kernel
theorem dX11_made_97 : decode cX11_made 97 = .ok (.iload 4, 2) := by decide +kernel
theorem dX11_made_99 : decode cX11_made 99 = .ok (.iaload, 1) := by decide +kernel
theorem dX11_made_100 : decode cX11_made 100 = .ok (.ireturn, 1) := by decide +kernel
theorem dX11_made_101 : decode cX11_made 101 = .ok (.aload 6, 2) := by decide +kernel
theorem dX11_made_103 : decode cX11_made 103 = .ok (.aload 6, 2) := by decide +kernel
theorem dX11_made_105 : decode cX11_made 105 = .ok (.getfield 258, 3) := by decide +kernel
theorem dX11_made_108 : decode cX11_made 108 = .ok (.iload 4, 2) := by decide +kernel
theorem dX11_made_110 : decode cX11_made 110 = .ok (.iaload, 1) := by decide +kernel
theorem dX11_made_111 : decode cX11_made 111 = .ok (.invokevirtual 261, 3) := by decide +kernel
theorem dX11_made_114 : decode cX11_made 114 = .ok (.ireturn, 1) := by decide +kernel
theorem dX11_made_115 : decode cX11_made 115 = .ok (.aload 6, 2) := by decide +kernel
theorem dX11_made_117 : decode cX11_made 117 = .ok (.getfield 265, 3) := by decide +kernel
theorem dX11_made_120 : decode cX11_made 120 = .ok (.iload 4, 2) := by decide +kernel
theorem dX11_made_122 : decode cX11_made 122 = .ok (.iaload, 1) := by decide +kernel
theorem dX11_made_123 : decode cX11_made 123 = .ok (.ireturn, 1) := by decide +kernel
theorem dX11_made_124 : decode cX11_made 124 = .ok (.aload 6, 2) := by decide +kernel
theorem dX11_made_126 : decode cX11_made 126 = .ok (.iload 4, 2) := by decide +kernel
theorem dX11_made_128 : decode cX11_made 128 = .ok (.iload_n 3, 1) := by decide +kernel
theorem dX11_made_129 : decode cX11_made 129 = .ok (.aload_n 0, 1) := by decide +kernel
theorem dX11_made_130 : decode cX11_made 130 = .ok (.getfield 41, 3) := by decide +kernel
theorem dX11_made_133 : decode cX11_made 133 = .ok (.invokevirtual 268, 3) := by decide +kernel
theorem dX11_made_136 : decode cX11_made 136 = .ok (.ireturn, 1) := by decide +kernel
theorem dX11_made_137 : decode cX11_made 137 = .ok (.bipush (-2), 2) := by decide +kernel
theorem dX11_made_139 : decode cX11_made 139 = .ok (.ireturn, 1) := by decide +kernel
theorem dX11_madeInAll_0 : decode cX11_madeInAll 0 = .ok (.iload_n 2, 1) := by decide +kernel
theorem dX11_madeInAll_1 : decode cX11_madeInAll 1 = .ok (.tableswitch 46 0 2 #[27, 32, 37], 27) := by decide +kernel
theorem dX11_madeInAll_28 : decode cX11_madeInAll 28 = .ok (.aload_n 1, 1) := by decide +kernel
theorem dX11_madeInAll_29 : decode cX11_madeInAll 29 = .ok (.getfield 254, 3) := by decide +kernel
theorem dX11_madeInAll_32 : decode cX11_madeInAll 32 = .ok (.ireturn, 1) := by decide +kernel
theorem dX11_madeInAll_33 : decode cX11_madeInAll 33 = .ok (.aload_n 1, 1) := by decide +kernel
theorem dX11_madeInAll_34 : decode cX11_madeInAll 34 = .ok (.getfield 272, 3) := by decide +kernel
theorem dX11_madeInAll_37 : decode cX11_madeInAll 37 = .ok (.ireturn, 1) := by decide +kernel
theorem dX11_madeInAll_38 : decode cX11_madeInAll 38 = .ok (.aload_n 1, 1) := by decide +kernel
theorem dX11_madeInAll_39 : decode cX11_madeInAll 39 = .ok (.aload_n 0, 1) := by decide +kernel
theorem dX11_madeInAll_40 : decode cX11_madeInAll 40 = .ok (.getfield 41, 3) := by decide +kernel
theorem dX11_madeInAll_43 : decode cX11_madeInAll 43 = .ok (.invokevirtual 275, 3) := by decide +kernel
theorem dX11_madeInAll_46 : decode cX11_madeInAll 46 = .ok (.ireturn, 1) := by decide +kernel
theorem dX11_madeInAll_47 : decode cX11_madeInAll 47 = .ok (.bipush (-2), 2) := by decide +kernel
theorem dX11_madeInAll_49 : decode cX11_madeInAll 49 = .ok (.ireturn, 1) := by decide +kernel
theorem dX11_march_0 : decode cX11_march 0 = .ok (.iload_n 3, 1) := by decide +kernel
theorem dX11_march_1 : decode cX11_march 1 = .ok (.invokestatic 181, 3) := by decide +kernel
theorem dX11_march_4 : decode cX11_march 4 = .ok (.ifCond .eq 24, 3) := by decide +kernel
theorem dX11_march_7 : decode cX11_march 7 = .ok (.iload 4, 2) := by decide +kernel
theorem dX11_march_9 : decode cX11_march 9 = .ok (.ifCond .lt 19, 3) := by decide +kernel
theorem dX11_march_12 : decode cX11_march 12 = .ok (.iload 4, 2) := by decide +kernel
theorem dX11_march_14 : decode cX11_march 14 = .ok (.bipush 24, 2) := by decide +kernel
theorem dX11_march_16 : decode cX11_march 16 = .ok (.if_icmp .gt 12, 3) := by decide +kernel
theorem dX11_march_19 : decode cX11_march 19 = .ok (.aload_n 0, 1) := by decide +kernel
theorem dX11_march_20 : decode cX11_march 20 = .ok (.iload_n 1, 1) := by decide +kernel
theorem dX11_march_21 : decode cX11_march 21 = .ok (.iload_n 2, 1) := by decide +kernel
theorem dX11_march_22 : decode cX11_march 22 = .ok (.invokevirtual 243, 3) := by decide +kernel
theorem dX11_march_25 : decode cX11_march 25 = .ok (.ifCond .ne 7, 3) := by decide +kernel
theorem dX11_march_28 : decode cX11_march 28 = .ok (.sipush (-1000), 3) := by decide +kernel
theorem dX11_march_31 : decode cX11_march 31 = .ok (.ireturn, 1) := by decide +kernel
theorem dX11_march_32 : decode cX11_march 32 = .ok (.aload_n 0, 1) := by decide +kernel
theorem dX11_march_33 : decode cX11_march 33 = .ok (.getfield 54, 3) := by decide +kernel
theorem dX11_march_36 : decode cX11_march 36 = .ok (.aload_n 0, 1) := by decide +kernel
theorem dX11_march_37 : decode cX11_march 37 = .ok (.getfield 10, 3) := by decide +kernel
theorem dX11_march_40 : decode cX11_march 40 = .ok (.getfield 116, 3) := by decide +kernel
theorem dX11_march_43 : decode cX11_march 43 = .ok (.iload_n 1, 1) := by decide +kernel
theorem dX11_march_44 : decode cX11_march 44 = .ok (.aaload, 1) := by decide +kernel
theorem dX11_march_45 : decode cX11_march 45 = .ok (.aload_n 0, 1) := by decide +kernel
theorem dX11_march_46 : decode cX11_march 46 = .ok (.getfield 47, 3) := by decide +kernel
theorem dX11_march_49 : decode cX11_march 49 = .ok (.iconst 0, 1) := by decide +kernel
theorem dX11_march_50 : decode cX11_march 50 = .ok (.aaload, 1) := by decide +kernel
theorem dX11_march_51 : decode cX11_march 51 = .ok (.aload_n 0, 1) := by decide +kernel
theorem dX11_march_52 : decode cX11_march 52 = .ok (.getfield 47, 3) := by decide +kernel
theorem dX11_march_55 : decode cX11_march 55 = .ok (.iconst 1, 1) := by decide +kernel
theorem dX11_march_56 : decode cX11_march 56 = .ok (.aaload, 1) := by decide +kernel
theorem dX11_march_57 : decode cX11_march 57 = .ok (.invokevirtual 279, 3) := by decide +kernel
theorem dX11_march_60 : decode cX11_march 60 = .ok (.iload_n 3, 1) := by decide +kernel
theorem dX11_march_61 : decode cX11_march 61 = .ok (.ifCond .ne 16, 3) := by decide +kernel
theorem dX11_march_64 : decode cX11_march 64 = .ok (.aload_n 0, 1) := by decide +kernel
theorem dX11_march_65 : decode cX11_march 65 = .ok (.getfield 54, 3) := by decide +kernel
theorem dX11_march_68 : decode cX11_march 68 = .ok (.getfield 283, 3) := by decide +kernel
theorem dX11_march_71 : decode cX11_march 71 = .ok (.iload 4, 2) := by decide +kernel
theorem dX11_march_73 : decode cX11_march 73 = .ok (.iaload, 1) := by decide +kernel
theorem dX11_march_74 : decode cX11_march 74 = .ok (.goto 13, 3) := by decide +kernel
theorem dX11_march_77 : decode cX11_march 77 = .ok (.aload_n 0, 1) := by decide +kernel
theorem dX11_march_78 : decode cX11_march 78 = .ok (.getfield 54, 3) := by decide +kernel
theorem dX11_march_81 : decode cX11_march 81 = .ok (.getfield 286, 3) := by decide +kernel
theorem dX11_march_84 : decode cX11_march 84 = .ok (.iload 4, 2) := by decide +kernel
theorem dX11_march_86 : decode cX11_march 86 = .ok (.iaload, 1) := by decide +kernel
theorem dX11_march_87 : decode cX11_march 87 = .ok (.ireturn, 1) := by decide +kernel
theorem dX11_meets_0 : decode cX11_meets 0 = .ok (.aload_n 0, 1) := by decide +kernel
theorem dX11_meets_1 : decode cX11_meets 1 = .ok (.iload_n 1, 1) := by decide +kernel
theorem dX11_meets_2 : decode cX11_meets 2 = .ok (.iload_n 2, 1) := by decide +kernel
theorem dX11_meets_3 : decode cX11_meets 3 = .ok (.invokevirtual 243, 3) := by decide +kernel
theorem dX11_meets_6 : decode cX11_meets 6 = .ok (.ifCond .ne 5, 3) := by decide +kernel
theorem dX11_meets_9 : decode cX11_meets 9 = .ok (.iconst (-1), 1) := by decide +kernel
theorem dX11_meets_10 : decode cX11_meets 10 = .ok (.ireturn, 1) := by decide +kernel
theorem dX11_meets_11 : decode cX11_meets 11 = .ok (.aload_n 0, 1) := by decide +kernel
theorem dX11_meets_12 : decode cX11_meets 12 = .ok (.getfield 54, 3) := by decide +kernel
theorem dX11_meets_15 : decode cX11_meets 15 = .ok (.aload_n 0, 1) := by decide +kernel
theorem dX11_meets_16 : decode cX11_meets 16 = .ok (.getfield 10, 3) := by decide +kernel
theorem dX11_meets_19 : decode cX11_meets 19 = .ok (.getfield 116, 3) := by decide +kernel
theorem dX11_meets_22 : decode cX11_meets 22 = .ok (.iload_n 1, 1) := by decide +kernel
theorem dX11_meets_23 : decode cX11_meets 23 = .ok (.aaload, 1) := by decide +kernel
theorem dX11_meets_24 : decode cX11_meets 24 = .ok (.aload_n 0, 1) := by decide +kernel
theorem dX11_meets_25 : decode cX11_meets 25 = .ok (.getfield 47, 3) := by decide +kernel
theorem dX11_meets_28 : decode cX11_meets 28 = .ok (.iconst 0, 1) := by decide +kernel
theorem dX11_meets_29 : decode cX11_meets 29 = .ok (.aaload, 1) := by decide +kernel
theorem dX11_meets_30 : decode cX11_meets 30 = .ok (.aload_n 0, 1) := by decide +kernel
theorem dX11_meets_31 : decode cX11_meets 31 = .ok (.getfield 47, 3) := by decide +kernel
theorem dX11_meets_34 : decode cX11_meets 34 = .ok (.iconst 1, 1) := by decide +kernel
theorem dX11_meets_35 : decode cX11_meets 35 = .ok (.aaload, 1) := by decide +kernel
theorem dX11_meets_36 : decode cX11_meets 36 = .ok (.invokevirtual 279, 3) := by decide +kernel
theorem dX11_meets_39 : decode cX11_meets 39 = .ok (.aload_n 0, 1) := by decide +kernel
theorem dX11_meets_40 : decode cX11_meets 40 = .ok (.getfield 54, 3) := by decide +kernel
theorem dX11_meets_43 : decode cX11_meets 43 = .ok (.getfield 289, 3) := by decide +kernel
theorem dX11_meets_46 : decode cX11_meets 46 = .ok (.ireturn, 1) := by decide +kernel
theorem dX11_force_0 : decode cX11_force 0 = .ok (.aload_n 0, 1) := by decide +kernel
theorem dX11_force_1 : decode cX11_force 1 = .ok (.iload_n 1, 1) := by decide +kernel
theorem dX11_force_2 : decode cX11_force 2 = .ok (.invokevirtual 165, 3) := by decide +kernel
theorem dX11_force_5 : decode cX11_force 5 = .ok (.astore 6, 2) := by decide +kernel
theorem dX11_force_7 : decode cX11_force 7 = .ok (.aload 6, 2) := by decide +kernel
theorem dX11_force_9 : decode cX11_force 9 = .ok (.ifnull 28, 3) := by decide +kernel
theorem dX11_force_12 : decode cX11_force 12 = .ok (.iload_n 2, 1) := by decide +kernel
theorem dX11_force_13 : decode cX11_force 13 = .ok (.invokestatic 181, 3) := by decide +kernel
theorem dX11_force_16 : decode cX11_force 16 = .ok (.ifCond .eq 21, 3) := by decide +kernel
theorem dX11_force_19 : decode cX11_force 19 = .ok (.iload_n 3, 1) := by decide +kernel
theorem dX11_force_20 : decode cX11_force 20 = .ok (.invokestatic 292, 3) := by decide +kernel
theorem dX11_force_23 : decode cX11_force 23 = .ok (.ifCond .eq 14, 3) := by decide +kernel
theorem dX11_force_26 : decode cX11_force 26 = .ok (.iload 4, 2) := by decide +kernel
theorem dX11_force_28 : decode cX11_force 28 = .ok (.ifCond .lt 9, 3) := by decide +kernel
theorem dX11_force_31 : decode cX11_force 31 = .ok (.iload 4, 2) := by decide +kernel
theorem dX11_force_33 : decode cX11_force 33 = .ok (.iconst 3, 1) := by decide +kernel
theorem dX11_force_34 : decode cX11_force 34 = .ok (.if_icmp .le 6, 3) := by decide +kernel
theorem dX11_force_37 : decode cX11_force 37 = .ok (.bipush (-2), 2) := by decide +kernel
theorem dX11_force_39 : decode cX11_force 39 = .ok (.ireturn, 1) := by decide +kernel
theorem dX11_force_40 : decode cX11_force 40 = .ok (.iconst 1, 1) := by decide +kernel
theorem dX11_force_41 : decode cX11_force 41 = .ok (.iconst 2, 1) := by decide +kernel
theorem dX11_force_42 : decode cX11_force 42 = .ok (.iload 4, 2) := by decide +kernel
theorem dX11_force_44 : decode cX11_force 44 = .ok (.imul, 1) := by decide +kernel
theorem dX11_force_45 : decode cX11_force 45 = .ok (.ishl, 1) := by decide +kernel
theorem dX11_force_46 : decode cX11_force 46 = .ok (.istore 7, 2) := by decide +kernel
theorem dX11_force_48 : decode cX11_force 48 = .ok (.iconst 0, 1) := by decide +kernel
theorem dX11_force_49 : decode cX11_force 49 = .ok (.istore 8, 2) := by decide +kernel
theorem dX11_force_51 : decode cX11_force 51 = .ok (.iconst 0, 1) := by decide +kernel
theorem dX11_force_52 : decode cX11_force 52 = .ok (.istore 9, 2) := by decide +kernel
theorem dX11_force_54 : decode cX11_force 54 = .ok (.iload 9, 2) := by decide +kernel
theorem dX11_force_56 : decode cX11_force 56 = .ok (.iload 7, 2) := by decide +kernel
theorem dX11_force_58 : decode cX11_force 58 = .ok (.if_icmp .ge 45, 3) := by decide +kernel
theorem dX11_force_61 : decode cX11_force 61 = .ok (.aload_n 0, 1) := by decide +kernel
theorem dX11_force_62 : decode cX11_force 62 = .ok (.getfield 34, 3) := by decide +kernel
theorem dX11_force_65 : decode cX11_force 65 = .ok (.iload_n 2, 1) := by decide +kernel
theorem dX11_force_66 : decode cX11_force 66 = .ok (.iload 9, 2) := by decide +kernel
theorem dX11_force_68 : decode cX11_force 68 = .ok (.iload 4, 2) := by decide +kernel
theorem dX11_force_70 : decode cX11_force 70 = .ok (.invokevirtual 295, 3) := by decide +kernel
theorem dX11_force_73 : decode cX11_force 73 = .ok (.aload_n 0, 1) := by decide +kernel
theorem dX11_force_74 : decode cX11_force 74 = .ok (.aload 6, 2) := by decide +kernel
theorem dX11_force_76 : decode cX11_force 76 = .ok (.iload_n 2, 1) := by decide +kernel
theorem dX11_force_77 : decode cX11_force 77 = .ok (.iload_n 3, 1) := by decide +kernel
theorem dX11_force_78 : decode cX11_force 78 = .ok (.iload 4, 2) := by decide +kernel
theorem dX11_force_80 : decode cX11_force 80 = .ok (.invokevirtual 299, 3) := by decide +kernel
theorem dX11_force_83 : decode cX11_force 83 = .ok (.ifCond .eq 14, 3) := by decide +kernel
theorem dX11_force_86 : decode cX11_force 86 = .ok (.iload 5, 2) := by decide +kernel
theorem dX11_force_88 : decode cX11_force 88 = .ok (.ifCond .ne 6, 3) := by decide +kernel
theorem dX11_force_91 : decode cX11_force 91 = .ok (.iload 9, 2) := by decide +kernel
theorem dX11_force_93 : decode cX11_force 93 = .ok (.ireturn, 1) := by decide +kernel
theorem dX11_force_94 : decode cX11_force 94 = .ok (.iinc 8 1, 3) := by decide +kernel
theorem dX11_force_97 : decode cX11_force 97 = .ok (.iinc 9 1, 3) := by decide +kernel
theorem dX11_force_100 : decode cX11_force 100 = .ok (.goto (-46), 3) := by decide +kernel
theorem dX11_force_103 : decode cX11_force 103 = .ok (.iload 5, 2) := by decide +kernel
theorem dX11_force_105 : decode cX11_force 105 = .ok (.ifCond .eq 8, 3) := by decide +kernel
theorem dX11_force_108 : decode cX11_force 108 = .ok (.iload 8, 2) := by decide +kernel
theorem dX11_force_110 : decode cX11_force 110 = .ok (.goto 4, 3) := by decide +kernel
theorem dX11_force_113 : decode cX11_force 113 = .ok (.iconst (-1), 1) := by decide +kernel
theorem dX11_force_114 : decode cX11_force 114 = .ok (.ireturn, 1) := by decide +kernel
theorem dX11_holdsAgainstAll_0 : decode cX11_holdsAgainstAll 0 = .ok (.iconst 1, 1) := by decide +kernel
theorem dX11_holdsAgainstAll_1 : decode cX11_holdsAgainstAll 1 = .ok (.iconst 2, 1) := by decide +kernel
theorem dX11_holdsAgainstAll_2 : decode cX11_holdsAgainstAll 2 = .ok (.iload 4, 2) := by decide +kernel
theorem dX11_holdsAgainstAll_4 : decode cX11_holdsAgainstAll 4 = .ok (.imul, 1) := by decide +kernel
theorem dX11_holdsAgainstAll_5 : decode cX11_holdsAgainstAll 5 = .ok (.ishl, 1) := by decide +kernel
theorem dX11_holdsAgainstAll_6 : decode cX11_holdsAgainstAll 6 = .ok (.istore 5, 2) := by decide +kernel
theorem dX11_holdsAgainstAll_8 : decode cX11_holdsAgainstAll 8 = .ok (.iconst 0, 1) := by decide +kernel
theorem dX11_holdsAgainstAll_9 : decode cX11_holdsAgainstAll 9 = .ok (.istore 6, 2) := by decide +kernel
theorem dX11_holdsAgainstAll_11 : decode cX11_holdsAgainstAll 11 = .ok (.iload 6, 2) := by decide +kernel
theorem dX11_holdsAgainstAll_13 : decode cX11_holdsAgainstAll 13 = .ok (.iload 5, 2) := by decide +kernel
theorem dX11_holdsAgainstAll_15 : decode cX11_holdsAgainstAll 15 = .ok (.if_icmp .ge 50, 3) := by decide +kernel
theorem dX11_holdsAgainstAll_18 : decode cX11_holdsAgainstAll 18 = .ok (.aload_n 0, 1) := by decide +kernel
theorem dX11_holdsAgainstAll_19 : decode cX11_holdsAgainstAll 19 = .ok (.getfield 34, 3) := by decide +kernel
theorem dX11_holdsAgainstAll_22 : decode cX11_holdsAgainstAll 22 = .ok (.iconst 1, 1) := by decide +kernel
theorem dX11_holdsAgainstAll_23 : decode cX11_holdsAgainstAll 23 = .ok (.iload_n 2, 1) := by decide +kernel
theorem dX11_holdsAgainstAll_24 : decode cX11_holdsAgainstAll 24 = .ok (.isub, 1) := by decide +kernel
theorem dX11_holdsAgainstAll_25 : decode cX11_holdsAgainstAll 25 = .ok (.iload 6, 2) := by decide +kernel
theorem dX11_holdsAgainstAll_27 : decode cX11_holdsAgainstAll 27 = .ok (.iload 4, 2) := by decide +kernel
theorem dX11_holdsAgainstAll_29 : decode cX11_holdsAgainstAll 29 = .ok (.invokevirtual 295, 3) := by decide +kernel
theorem dX11_holdsAgainstAll_32 : decode cX11_holdsAgainstAll 32 = .ok (.aload_n 0, 1) := by decide +kernel
theorem dX11_holdsAgainstAll_33 : decode cX11_holdsAgainstAll 33 = .ok (.getfield 41, 3) := by decide +kernel
theorem dX11_holdsAgainstAll_36 : decode cX11_holdsAgainstAll 36 = .ok (.aload_n 1, 1) := by decide +kernel
theorem dX11_holdsAgainstAll_37 : decode cX11_holdsAgainstAll 37 = .ok (.getfield 169, 3) := by decide +kernel
theorem dX11_holdsAgainstAll_40 : decode cX11_holdsAgainstAll 40 = .ok (.aload_n 0, 1) := by decide +kernel
theorem dX11_holdsAgainstAll_41 : decode cX11_holdsAgainstAll 41 = .ok (.getfield 34, 3) := by decide +kernel
theorem dX11_holdsAgainstAll_44 : decode cX11_holdsAgainstAll 44 = .ok (.invokevirtual 303, 3) := by decide +kernel
theorem dX11_holdsAgainstAll_47 : decode cX11_holdsAgainstAll 47 = .ok (.aload_n 0, 1) := by decide +kernel
theorem dX11_holdsAgainstAll_48 : decode cX11_holdsAgainstAll 48 = .ok (.aload_n 1, 1) := by decide +kernel
theorem dX11_holdsAgainstAll_49 : decode cX11_holdsAgainstAll 49 = .ok (.iload_n 2, 1) := by decide +kernel
theorem dX11_holdsAgainstAll_50 : decode cX11_holdsAgainstAll 50 = .ok (.iload_n 3, 1) := by decide +kernel
theorem dX11_holdsAgainstAll_51 : decode cX11_holdsAgainstAll 51 = .ok (.invokevirtual 307, 3) := by decide +kernel
theorem dX11_holdsAgainstAll_54 : decode cX11_holdsAgainstAll 54 = .ok (.ifCond .ne 5, 3) := by decide +kernel
theorem dX11_holdsAgainstAll_57 : decode cX11_holdsAgainstAll 57 = .ok (.iconst 0, 1) := by decide +kernel
theorem dX11_holdsAgainstAll_58 : decode cX11_holdsAgainstAll 58 = .ok (.ireturn, 1) := by decide +kernel
theorem dX11_holdsAgainstAll_59 : decode cX11_holdsAgainstAll 59 = .ok (.iinc 6 1, 3) := by decide +kernel
theorem dX11_holdsAgainstAll_62 : decode cX11_holdsAgainstAll 62 = .ok (.goto (-51), 3) := by decide +kernel
theorem dX11_holdsAgainstAll_65 : decode cX11_holdsAgainstAll 65 = .ok (.iconst 1, 1) := by decide +kernel
theorem dX11_holdsAgainstAll_66 : decode cX11_holdsAgainstAll 66 = .ok (.ireturn, 1) := by decide +kernel
theorem dX11_told_0 : decode cX11_told 0 = .ok (.aload_n 0, 1) := by decide +kernel
theorem dX11_told_1 : decode cX11_told 1 = .ok (.iload_n 1, 1) := by decide +kernel
theorem dX11_told_2 : decode cX11_told 2 = .ok (.invokevirtual 310, 3) := by decide +kernel
theorem dX11_told_5 : decode cX11_told 5 = .ok (.astore 4, 2) := by decide +kernel
theorem dX11_told_7 : decode cX11_told 7 = .ok (.aload 4, 2) := by decide +kernel
theorem dX11_told_9 : decode cX11_told 9 = .ok (.ifnull 10, 3) := by decide +kernel
theorem dX11_told_12 : decode cX11_told 12 = .ok (.iload_n 2, 1) := by decide +kernel
theorem dX11_told_13 : decode cX11_told 13 = .ok (.invokestatic 181, 3) := by decide +kernel
theorem dX11_told_16 : decode cX11_told 16 = .ok (.ifCond .ne 6, 3) := by decide +kernel
theorem dX11_told_19 : decode cX11_told 19 = .ok (.bipush (-2), 2) := by decide +kernel
theorem dX11_told_21 : decode cX11_told 21 = .ok (.ireturn, 1) := by decide +kernel
theorem dX11_told_22 : decode cX11_told 22 = .ok (.iload_n 3, 1) := by decide +kernel
theorem dX11_told_23 : decode cX11_told 23 = .ok (.iconst (-1), 1) := by decide +kernel
theorem dX11_told_24 : decode cX11_told 24 = .ok (.if_icmp .ne 11, 3) := by decide +kernel
theorem dX11_told_27 : decode cX11_told 27 = .ok (.aload 4, 2) := by decide +kernel
theorem dX11_told_29 : decode cX11_told 29 = .ok (.getfield 314, 3) := by decide +kernel
theorem dX11_told_32 : decode cX11_told 32 = .ok (.iload_n 2, 1) := by decide +kernel
theorem dX11_told_33 : decode cX11_told 33 = .ok (.iaload, 1) := by decide +kernel
theorem dX11_told_34 : decode cX11_told 34 = .ok (.ireturn, 1) := by decide +kernel
theorem dX11_told_35 : decode cX11_told 35 = .ok (.iload_n 3, 1) := by decide +kernel
theorem dX11_told_36 : decode cX11_told 36 = .ok (.ifCond .lt 29, 3) := by decide +kernel
theorem dX11_told_39 : decode cX11_told 39 = .ok (.iload_n 3, 1) := by decide +kernel
theorem dX11_told_40 : decode cX11_told 40 = .ok (.aload 4, 2) := by decide +kernel
theorem dX11_told_42 : decode cX11_told 42 = .ok (.getfield 314, 3) := by decide +kernel
theorem dX11_told_45 : decode cX11_told 45 = .ok (.iload_n 2, 1) := by decide +kernel
theorem dX11_told_46 : decode cX11_told 46 = .ok (.iaload, 1) := by decide +kernel
theorem dX11_told_47 : decode cX11_told 47 = .ok (.if_icmp .ge 18, 3) := by decide +kernel
theorem dX11_told_50 : decode cX11_told 50 = .ok (.aload 4, 2) := by decide +kernel
theorem dX11_told_52 : decode cX11_told 52 = .ok (.getfield 315, 3) := by decide +kernel
theorem dX11_told_55 : decode cX11_told 55 = .ok (.iload_n 2, 1) := by decide +kernel
theorem dX11_told_56 : decode cX11_told 56 = .ok (.bipush 6, 2) := by decide +kernel
theorem dX11_told_58 : decode cX11_told 58 = .ok (.imul, 1) := by decide +kernel
theorem dX11_told_59 : decode cX11_told 59 = .ok (.iload_n 3, 1) := by decide +kernel
theorem dX11_told_60 : decode cX11_told 60 = .ok (.iadd, 1) := by decide +kernel
theorem dX11_told_61 : decode cX11_told 61 = .ok (.iaload, 1) := by decide +kernel
theorem dX11_told_62 : decode cX11_told 62 = .ok (.goto 5, 3) := by decide +kernel
theorem dX11_told_65 : decode cX11_told 65 = .ok (.bipush (-2), 2) := by decide +kernel
theorem dX11_told_67 : decode cX11_told 67 = .ok (.ireturn, 1) := by decide +kernel
theorem dX11_bribes_0 : decode cX11_bribes 0 = .ok (.aload_n 0, 1) := by decide +kernel
theorem dX11_bribes_1 : decode cX11_bribes 1 = .ok (.iload_n 1, 1) := by decide +kernel
theorem dX11_bribes_2 : decode cX11_bribes 2 = .ok (.invokevirtual 165, 3) := by decide +kernel
theorem dX11_bribes_5 : decode cX11_bribes 5 = .ok (.astore 5, 2) := by decide +kernel
theorem dX11_bribes_7 : decode cX11_bribes 7 = .ok (.aload_n 0, 1) := by decide +kernel
theorem dX11_bribes_8 : decode cX11_bribes 8 = .ok (.iload_n 2, 1) := by decide +kernel
theorem dX11_bribes_9 : decode cX11_bribes 9 = .ok (.invokevirtual 219, 3) := by decide +kernel
theorem dX11_bribes_12 : decode cX11_bribes 12 = .ok (.astore 6, 2) := by decide +kernel
theorem dX11_bribes_14 : decode cX11_bribes 14 = .ok (.aload_n 0, 1) := by decide +kernel
theorem dX11_bribes_15 : decode cX11_bribes 15 = .ok (.iload_n 3, 1) := by decide +kernel
theorem dX11_bribes_16 : decode cX11_bribes 16 = .ok (.invokevirtual 310, 3) := by decide +kernel
theorem dX11_bribes_19 : decode cX11_bribes 19 = .ok (.astore 7, 2) := by decide +kernel
theorem dX11_bribes_21 : decode cX11_bribes 21 = .ok (.aload 5, 2) := by decide +kernel
theorem dX11_bribes_23 : decode cX11_bribes 23 = .ok (.ifnull 24, 3) := by decide +kernel
theorem dX11_bribes_26 : decode cX11_bribes 26 = .ok (.aload 6, 2) := by decide +kernel
theorem dX11_bribes_28 : decode cX11_bribes 28 = .ok (.ifnull 19, 3) := by decide +kernel
theorem dX11_bribes_31 : decode cX11_bribes 31 = .ok (.aload 7, 2) := by decide +kernel
theorem dX11_bribes_33 : decode cX11_bribes 33 = .ok (.ifnull 14, 3) := by decide +kernel
theorem dX11_bribes_36 : decode cX11_bribes 36 = .ok (.iload 4, 2) := by decide +kernel
theorem dX11_bribes_38 : decode cX11_bribes 38 = .ok (.ifCond .lt 9, 3) := by decide +kernel
theorem dX11_bribes_41 : decode cX11_bribes 41 = .ok (.iload 4, 2) := by decide +kernel
theorem dX11_bribes_43 : decode cX11_bribes 43 = .ok (.iconst 2, 1) := by decide +kernel
theorem dX11_bribes_44 : decode cX11_bribes 44 = .ok (.if_icmp .le 5, 3) := by decide +kernel
theorem dX11_bribes_47 : decode cX11_bribes 47 = .ok (.iconst (-1), 1) := by decide +kernel
theorem dX11_bribes_48 : decode cX11_bribes 48 = .ok (.ireturn, 1) := by decide +kernel
theorem dX11_bribes_49 : decode cX11_bribes 49 = .ok (.aload_n 0, 1) := by decide +kernel
theorem dX11_bribes_50 : decode cX11_bribes 50 = .ok (.getfield 41, 3) := by decide +kernel
theorem dX11_bribes_53 : decode cX11_bribes 53 = .ok (.aload 5, 2) := by decide +kernel
theorem dX11_bribes_55 : decode cX11_bribes 55 = .ok (.getfield 169, 3) := by decide +kernel
theorem dX11_bribes_58 : decode cX11_bribes 58 = .ok (.aload 6, 2) := by decide +kernel
theorem dX11_bribes_60 : decode cX11_bribes 60 = .ok (.invokevirtual 303, 3) := by decide +kernel
theorem dX11_bribes_63 : decode cX11_bribes 63 = .ok (.aload_n 0, 1) := by decide +kernel
theorem dX11_bribes_64 : decode cX11_bribes 64 = .ok (.getfield 41, 3) := by decide +kernel
theorem dX11_bribes_67 : decode cX11_bribes 67 = .ok (.getfield 228, 3) := by decide +kernel
theorem dX11_bribes_70 : decode cX11_bribes 70 = .ok (.bipush 12, 2) := by decide +kernel
theorem dX11_bribes_72 : decode cX11_bribes 72 = .ok (.if_icmp .le 5, 3) := by decide +kernel
theorem dX11_bribes_75 : decode cX11_bribes 75 = .ok (.iconst (-1), 1) := by decide +kernel
theorem dX11_bribes_76 : decode cX11_bribes 76 = .ok (.ireturn, 1) := by decide +kernel
theorem dX11_bribes_77 : decode cX11_bribes 77 = .ok (.aload_n 0, 1) := by decide +kernel
theorem dX11_bribes_78 : decode cX11_bribes 78 = .ok (.getfield 41, 3) := by decide +kernel
theorem dX11_bribes_81 : decode cX11_bribes 81 = .ok (.invokevirtual 316, 3) := by decide +kernel
theorem dX11_bribes_84 : decode cX11_bribes 84 = .ok (.istore 8, 2) := by decide +kernel
theorem dX11_bribes_86 : decode cX11_bribes 86 = .ok (.iconst 0, 1) := by decide +kernel
theorem dX11_bribes_87 : decode cX11_bribes 87 = .ok (.istore 9, 2) := by decide +kernel
theorem dX11_bribes_89 : decode cX11_bribes 89 = .ok (.iconst (-1), 1) := by decide +kernel
theorem dX11_bribes_90 : decode cX11_bribes 90 = .ok (.istore 10, 2) := by decide +kernel
theorem dX11_bribes_92 : decode cX11_bribes 92 = .ok (.iconst 0, 1) := by decide +kernel
theorem dX11_bribes_93 : decode cX11_bribes 93 = .ok (.istore 11, 2) := by decide +kernel
theorem dX11_bribes_95 : decode cX11_bribes 95 = .ok (.iload 11, 2) := by decide +kernel
theorem dX11_bribes_97 : decode cX11_bribes 97 = .ok (.iconst 1, 1) := by decide +kernel
theorem dX11_bribes_98 : decode cX11_bribes 98 = .ok (.aload_n 0, 1) := by decide +kernel
theorem dX11_bribes_99 : decode cX11_bribes 99 = .ok (.getfield 41, 3) := by decide +kernel
theorem dX11_bribes_102 : decode cX11_bribes 102 = .ok (.getfield 228, 3) := by decide +kernel
theorem dX11_bribes_105 : decode cX11_bribes 105 = .ok (.ishl, 1) := by decide +kernel
theorem dX11_bribes_106 : decode cX11_bribes 106 = .ok (.if_icmp .ge 56, 3) := by decide +kernel
theorem dX11_bribes_109 : decode cX11_bribes 109 = .ok (.iload 11, 2) := by decide +kernel
theorem dX11_bribes_111 : decode cX11_bribes 111 = .ok (.iload 8, 2) := by decide +kernel
theorem dX11_bribes_113 : decode cX11_bribes 113 = .ok (.iand, 1) := by decide +kernel
theorem dX11_bribes_114 : decode cX11_bribes 114 = .ok (.ifCond .ne 42, 3) := by decide +kernel
theorem dX11_bribes_117 : decode cX11_bribes 117 = .ok (.aload_n 0, 1) := by decide +kernel
theorem dX11_bribes_118 : decode cX11_bribes 118 = .ok (.aload 5, 2) := by decide +kernel
theorem dX11_bribes_120 : decode cX11_bribes 120 = .ok (.aload 7, 2) := by decide +kernel
theorem dX11_bribes_122 : decode cX11_bribes 122 = .ok (.iload 11, 2) := by decide +kernel
theorem dX11_bribes_124 : decode cX11_bribes 124 = .ok (.invokevirtual 320, 3) := by decide +kernel
theorem dX11_bribes_127 : decode cX11_bribes 127 = .ok (.ifCond .eq 29, 3) := by decide +kernel
theorem dX11_bribes_130 : decode cX11_bribes 130 = .ok (.iinc 9 1, 3) := by decide +kernel
theorem dX11_bribes_133 : decode cX11_bribes 133 = .ok (.iload 10, 2) := by decide +kernel
theorem dX11_bribes_135 : decode cX11_bribes 135 = .ok (.iconst (-1), 1) := by decide +kernel
theorem dX11_bribes_136 : decode cX11_bribes 136 = .ok (.if_icmp .eq 16, 3) := by decide +kernel
theorem dX11_bribes_139 : decode cX11_bribes 139 = .ok (.iload 11, 2) := by decide +kernel
theorem dX11_bribes_141 : decode cX11_bribes 141 = .ok (.invokestatic 324, 3) := by decide +kernel
theorem dX11_bribes_144 : decode cX11_bribes 144 = .ok (.iload 10, 2) := by decide +kernel
theorem dX11_bribes_146 : decode cX11_bribes 146 = .ok (.invokestatic 324, 3) := by decide +kernel
theorem dX11_bribes_149 : decode cX11_bribes 149 = .ok (.if_icmp .ge 7, 3) := by decide +kernel
theorem dX11_bribes_152 : decode cX11_bribes 152 = .ok (.iload 11, 2) := by decide +kernel
theorem dX11_bribes_154 : decode cX11_bribes 154 = .ok (.istore 10, 2) := by decide +kernel
theorem dX11_bribes_156 : decode cX11_bribes 156 = .ok (.iinc 11 1, 3) := by decide +kernel
theorem dX11_bribes_159 : decode cX11_bribes 159 = .ok (.goto (-64), 3) := by decide +kernel
theorem dX11_bribes_162 : decode cX11_bribes 162 = .ok (.iload 4, 2) := by decide +kernel
theorem dX11_bribes_164 : decode cX11_bribes 164 = .ok (.ifCond .ne 6, 3) := by decide +kernel
theorem dX11_bribes_167 : decode cX11_bribes 167 = .ok (.iload 9, 2) := by decide +kernel
theorem dX11_bribes_169 : decode cX11_bribes 169 = .ok (.ireturn, 1) := by decide +kernel
theorem dX11_bribes_170 : decode cX11_bribes 170 = .ok (.iload 4, 2) := by decide +kernel
theorem dX11_bribes_172 : decode cX11_bribes 172 = .ok (.iconst 2, 1) := by decide +kernel
theorem dX11_bribes_173 : decode cX11_bribes 173 = .ok (.if_icmp .eq 9, 3) := by decide +kernel
theorem dX11_bribes_176 : decode cX11_bribes 176 = .ok (.iload 10, 2) := by decide +kernel
theorem dX11_bribes_178 : decode cX11_bribes 178 = .ok (.iconst (-1), 1) := by decide +kernel
theorem dX11_bribes_179 : decode cX11_bribes 179 = .ok (.if_icmp .ne 8, 3) := by decide +kernel
theorem dX11_bribes_182 : decode cX11_bribes 182 = .ok (.iload 10, 2) := by decide +kernel
theorem dX11_bribes_184 : decode cX11_bribes 184 = .ok (.goto 8, 3) := by decide +kernel
theorem dX11_bribes_187 : decode cX11_bribes 187 = .ok (.iload 10, 2) := by decide +kernel
theorem dX11_bribes_189 : decode cX11_bribes 189 = .ok (.invokestatic 324, 3) := by decide +kernel
theorem dX11_bribes_192 : decode cX11_bribes 192 = .ok (.ireturn, 1) := by decide +kernel
theorem dX11_explains_0 : decode cX11_explains 0 = .ok (.aload_n 0, 1) := by decide +kernel
theorem dX11_explains_1 : decode cX11_explains 1 = .ok (.getfield 41, 3) := by decide +kernel
theorem dX11_explains_4 : decode cX11_explains 4 = .ok (.iload_n 3, 1) := by decide +kernel
theorem dX11_explains_5 : decode cX11_explains 5 = .ok (.invokevirtual 329, 3) := by decide +kernel
theorem dX11_explains_8 : decode cX11_explains 8 = .ok (.aload_n 0, 1) := by decide +kernel
theorem dX11_explains_9 : decode cX11_explains 9 = .ok (.aload_n 1, 1) := by decide +kernel
theorem dX11_explains_10 : decode cX11_explains 10 = .ok (.aload_n 2, 1) := by decide +kernel
theorem dX11_explains_11 : decode cX11_explains 11 = .ok (.invokevirtual 332, 3) := by decide +kernel
theorem dX11_explains_14 : decode cX11_explains 14 = .ok (.ireturn, 1) := by decide +kernel
theorem dX11_meant_0 : decode cX11_meant 0 = .ok (.aload_n 0, 1) := by decide +kernel
theorem dX11_meant_1 : decode cX11_meant 1 = .ok (.iload_n 1, 1) := by decide +kernel
theorem dX11_meant_2 : decode cX11_meant 2 = .ok (.invokevirtual 165, 3) := by decide +kernel
theorem dX11_meant_5 : decode cX11_meant 5 = .ok (.astore 6, 2) := by decide +kernel
theorem dX11_meant_7 : decode cX11_meant 7 = .ok (.aload_n 0, 1) := by decide +kernel
theorem dX11_meant_8 : decode cX11_meant 8 = .ok (.iload_n 2, 1) := by decide +kernel
theorem dX11_meant_9 : decode cX11_meant 9 = .ok (.invokevirtual 219, 3) := by decide +kernel
theorem dX11_meant_12 : decode cX11_meant 12 = .ok (.astore 7, 2) := by decide +kernel
theorem dX11_meant_14 : decode cX11_meant 14 = .ok (.aload_n 0, 1) := by decide +kernel
theorem dX11_meant_15 : decode cX11_meant 15 = .ok (.iload_n 3, 1) := by decide +kernel
theorem dX11_meant_16 : decode cX11_meant 16 = .ok (.invokevirtual 310, 3) := by decide +kernel
theorem dX11_meant_19 : decode cX11_meant 19 = .ok (.astore 8, 2) := by decide +kernel
theorem dX11_meant_21 : decode cX11_meant 21 = .ok (.aload 6, 2) := by decide +kernel
theorem dX11_meant_23 : decode cX11_meant 23 = .ok (.ifnull 24, 3) := by decide +kernel
theorem dX11_meant_26 : decode cX11_meant 26 = .ok (.aload 7, 2) := by decide +kernel
theorem dX11_meant_28 : decode cX11_meant 28 = .ok (.ifnull 19, 3) := by decide +kernel
theorem dX11_meant_31 : decode cX11_meant 31 = .ok (.aload 8, 2) := by decide +kernel
theorem dX11_meant_33 : decode cX11_meant 33 = .ok (.ifnull 14, 3) := by decide +kernel
theorem dX11_meant_36 : decode cX11_meant 36 = .ok (.iload 4, 2) := by decide +kernel
theorem dX11_meant_38 : decode cX11_meant 38 = .ok (.ifCond .lt 9, 3) := by decide +kernel
theorem dX11_meant_41 : decode cX11_meant 41 = .ok (.iload 4, 2) := by decide +kernel
theorem dX11_meant_43 : decode cX11_meant 43 = .ok (.iconst 5, 1) := by decide +kernel
theorem dX11_meant_44 : decode cX11_meant 44 = .ok (.if_icmp .le 6, 3) := by decide +kernel
theorem dX11_meant_47 : decode cX11_meant 47 = .ok (.bipush (-2), 2) := by decide +kernel
theorem dX11_meant_49 : decode cX11_meant 49 = .ok (.ireturn, 1) := by decide +kernel
theorem dX11_meant_50 : decode cX11_meant 50 = .ok (.aload_n 0, 1) := by decide +kernel
theorem dX11_meant_51 : decode cX11_meant 51 = .ok (.getfield 34, 3) := by decide +kernel
theorem dX11_meant_54 : decode cX11_meant 54 = .ok (.aload 7, 2) := by decide +kernel
theorem dX11_meant_56 : decode cX11_meant 56 = .ok (.invokevirtual 137, 3) := by decide +kernel
theorem dX11_meant_59 : decode cX11_meant 59 = .ok (.iconst 0, 1) := by decide +kernel
theorem dX11_meant_60 : decode cX11_meant 60 = .ok (.istore 9, 2) := by decide +kernel
theorem dX11_meant_62 : decode cX11_meant 62 = .ok (.iconst 0, 1) := by decide +kernel
theorem dX11_meant_63 : decode cX11_meant 63 = .ok (.istore 10, 2) := by decide +kernel
theorem dX11_meant_65 : decode cX11_meant 65 = .ok (.iload 10, 2) := by decide +kernel
theorem dX11_meant_67 : decode cX11_meant 67 = .ok (.iconst 1, 1) := by decide +kernel
theorem dX11_meant_68 : decode cX11_meant 68 = .ok (.iconst 2, 1) := by decide +kernel
theorem dX11_meant_69 : decode cX11_meant 69 = .ok (.iload 4, 2) := by decide +kernel
theorem dX11_meant_71 : decode cX11_meant 71 = .ok (.imul, 1) := by decide +kernel
theorem dX11_meant_72 : decode cX11_meant 72 = .ok (.ishl, 1) := by decide +kernel
theorem dX11_meant_73 : decode cX11_meant 73 = .ok (.if_icmp .ge 59, 3) := by decide +kernel
theorem dX11_meant_76 : decode cX11_meant 76 = .ok (.aload_n 0, 1) := by decide +kernel
theorem dX11_meant_77 : decode cX11_meant 77 = .ok (.getfield 34, 3) := by decide +kernel
theorem dX11_meant_80 : decode cX11_meant 80 = .ok (.iconst 1, 1) := by decide +kernel
theorem dX11_meant_81 : decode cX11_meant 81 = .ok (.iload 10, 2) := by decide +kernel
theorem dX11_meant_83 : decode cX11_meant 83 = .ok (.iload 4, 2) := by decide +kernel
theorem dX11_meant_85 : decode cX11_meant 85 = .ok (.invokevirtual 295, 3) := by decide +kernel
theorem dX11_meant_88 : decode cX11_meant 88 = .ok (.aload_n 0, 1) := by decide +kernel
theorem dX11_meant_89 : decode cX11_meant 89 = .ok (.getfield 41, 3) := by decide +kernel
theorem dX11_meant_92 : decode cX11_meant 92 = .ok (.aload 6, 2) := by decide +kernel
theorem dX11_meant_94 : decode cX11_meant 94 = .ok (.getfield 169, 3) := by decide +kernel
theorem dX11_meant_97 : decode cX11_meant 97 = .ok (.aload_n 0, 1) := by decide +kernel
theorem dX11_meant_98 : decode cX11_meant 98 = .ok (.getfield 34, 3) := by decide +kernel
theorem dX11_meant_101 : decode cX11_meant 101 = .ok (.invokevirtual 303, 3) := by decide +kernel
theorem dX11_meant_104 : decode cX11_meant 104 = .ok (.aload_n 0, 1) := by decide +kernel
theorem dX11_meant_105 : decode cX11_meant 105 = .ok (.aload 6, 2) := by decide +kernel
theorem dX11_meant_107 : decode cX11_meant 107 = .ok (.aload 8, 2) := by decide +kernel
theorem dX11_meant_109 : decode cX11_meant 109 = .ok (.invokevirtual 332, 3) := by decide +kernel
theorem dX11_meant_112 : decode cX11_meant 112 = .ok (.ifCond .eq 14, 3) := by decide +kernel
theorem dX11_meant_115 : decode cX11_meant 115 = .ok (.iload 5, 2) := by decide +kernel
theorem dX11_meant_117 : decode cX11_meant 117 = .ok (.ifCond .eq 6, 3) := by decide +kernel
theorem dX11_meant_120 : decode cX11_meant 120 = .ok (.iload 10, 2) := by decide +kernel
theorem dX11_meant_122 : decode cX11_meant 122 = .ok (.ireturn, 1) := by decide +kernel
theorem dX11_meant_123 : decode cX11_meant 123 = .ok (.iinc 9 1, 3) := by decide +kernel
theorem dX11_meant_126 : decode cX11_meant 126 = .ok (.iinc 10 1, 3) := by decide +kernel
theorem dX11_meant_129 : decode cX11_meant 129 = .ok (.goto (-64), 3) := by decide +kernel
theorem dX11_meant_132 : decode cX11_meant 132 = .ok (.iload 5, 2) := by decide +kernel
theorem dX11_meant_134 : decode cX11_meant 134 = .ok (.ifCond .eq 7, 3) := by decide +kernel
theorem dX11_meant_137 : decode cX11_meant 137 = .ok (.iconst (-1), 1) := by decide +kernel
theorem dX11_meant_138 : decode cX11_meant 138 = .ok (.goto 5, 3) := by decide +kernel
theorem dX11_meant_141 : decode cX11_meant 141 = .ok (.iload 9, 2) := by decide +kernel
theorem dX11_meant_143 : decode cX11_meant 143 = .ok (.ireturn, 1) := by decide +kernel
theorem dX11_truce_0 : decode cX11_truce 0 = .ok (.aload_n 0, 1) := by decide +kernel
theorem dX11_truce_1 : decode cX11_truce 1 = .ok (.iload_n 1, 1) := by decide +kernel
theorem dX11_truce_2 : decode cX11_truce 2 = .ok (.invokevirtual 165, 3) := by decide +kernel
theorem dX11_truce_5 : decode cX11_truce 5 = .ok (.astore 5, 2) := by decide +kernel
theorem dX11_truce_7 : decode cX11_truce 7 = .ok (.aload 5, 2) := by decide +kernel
theorem dX11_truce_9 : decode cX11_truce 9 = .ok (.ifnull 17, 3) := by decide +kernel
theorem dX11_truce_12 : decode cX11_truce 12 = .ok (.iload_n 2, 1) := by decide +kernel
theorem dX11_truce_13 : decode cX11_truce 13 = .ok (.invokestatic 292, 3) := by decide +kernel
theorem dX11_truce_16 : decode cX11_truce 16 = .ok (.ifCond .eq 10, 3) := by decide +kernel
theorem dX11_truce_19 : decode cX11_truce 19 = .ok (.iload_n 3, 1) := by decide +kernel
theorem dX11_truce_20 : decode cX11_truce 20 = .ok (.invokestatic 292, 3) := by decide +kernel
theorem dX11_truce_23 : decode cX11_truce 23 = .ok (.ifCond .ne 5, 3) := by decide +kernel
theorem dX11_truce_26 : decode cX11_truce 26 = .ok (.iconst (-1), 1) := by decide +kernel
theorem dX11_truce_27 : decode cX11_truce 27 = .ok (.ireturn, 1) := by decide +kernel
theorem dX11_truce_28 : decode cX11_truce 28 = .ok (.aload_n 0, 1) := by decide +kernel
theorem dX11_truce_29 : decode cX11_truce 29 = .ok (.aload 5, 2) := by decide +kernel
theorem dX11_truce_31 : decode cX11_truce 31 = .ok (.iload_n 2, 1) := by decide +kernel
theorem dX11_truce_32 : decode cX11_truce 32 = .ok (.iload_n 3, 1) := by decide +kernel
theorem dX11_truce_33 : decode cX11_truce 33 = .ok (.invokevirtual 336, 3) := by decide +kernel
theorem dX11_truce_36 : decode cX11_truce 36 = .ok (.istore 6, 2) := by decide +kernel
theorem dX11_truce_38 : decode cX11_truce 38 = .ok (.iload 6, 2) := by decide +kernel
theorem dX11_truce_40 : decode cX11_truce 40 = .ok (.iconst (-1), 1) := by decide +kernel
theorem dX11_truce_41 : decode cX11_truce 41 = .ok (.if_icmp .ne 5, 3) := by decide +kernel
theorem dX11_truce_44 : decode cX11_truce 44 = .ok (.iconst (-1), 1) := by decide +kernel
theorem dX11_truce_45 : decode cX11_truce 45 = .ok (.ireturn, 1) := by decide +kernel
theorem dX11_truce_46 : decode cX11_truce 46 = .ok (.iload 4, 2) := by decide +kernel
theorem dX11_truce_48 : decode cX11_truce 48 = .ok (.ifCond .eq 12, 3) := by decide +kernel
theorem dX11_truce_51 : decode cX11_truce 51 = .ok (.iload 6, 2) := by decide +kernel
theorem dX11_truce_53 : decode cX11_truce 53 = .ok (.sipush 1023, 3) := by decide +kernel
theorem dX11_truce_56 : decode cX11_truce 56 = .ok (.iand, 1) := by decide +kernel
theorem dX11_truce_57 : decode cX11_truce 57 = .ok (.goto 8, 3) := by decide +kernel
theorem dX11_truce_60 : decode cX11_truce 60 = .ok (.iload 6, 2) := by decide +kernel
theorem dX11_truce_62 : decode cX11_truce 62 = .ok (.bipush 10, 2) := by decide +kernel
theorem dX11_truce_64 : decode cX11_truce 64 = .ok (.ishr, 1) := by decide +kernel
theorem dX11_truce_65 : decode cX11_truce 65 = .ok (.ireturn, 1) := by decide +kernel
theorem dX11_shortestTruce_0 : decode cX11_shortestTruce 0 = .ok (.aload_n 0, 1) := by decide +kernel
theorem dX11_shortestTruce_1 : decode cX11_shortestTruce 1 = .ok (.getfield 34, 3) := by decide +kernel
theorem dX11_shortestTruce_4 : decode cX11_shortestTruce 4 = .ok (.iconst 1, 1) := by decide +kernel
theorem dX11_shortestTruce_5 : decode cX11_shortestTruce 5 = .ok (.iconst 0, 1) := by decide +kernel
theorem dX11_shortestTruce_6 : decode cX11_shortestTruce 6 = .ok (.iconst 0, 1) := by decide +kernel
theorem dX11_shortestTruce_7 : decode cX11_shortestTruce 7 = .ok (.invokevirtual 295, 3) := by decide +kernel
theorem dX11_shortestTruce_10 : decode cX11_shortestTruce 10 = .ok (.iconst 0, 1) := by decide +kernel
theorem dX11_shortestTruce_11 : decode cX11_shortestTruce 11 = .ok (.istore 4, 2) := by decide +kernel
theorem dX11_shortestTruce_13 : decode cX11_shortestTruce 13 = .ok (.iload 4, 2) := by decide +kernel
theorem dX11_shortestTruce_15 : decode cX11_shortestTruce 15 = .ok (.iconst 5, 1) := by decide +kernel
theorem dX11_shortestTruce_16 : decode cX11_shortestTruce 16 = .ok (.if_icmp .gt 85, 3) := by decide +kernel
theorem dX11_shortestTruce_19 : decode cX11_shortestTruce 19 = .ok (.iconst 0, 1) := by decide +kernel
theorem dX11_shortestTruce_20 : decode cX11_shortestTruce 20 = .ok (.istore 5, 2) := by decide +kernel
theorem dX11_shortestTruce_22 : decode cX11_shortestTruce 22 = .ok (.iload 5, 2) := by decide +kernel
theorem dX11_shortestTruce_24 : decode cX11_shortestTruce 24 = .ok (.iconst 1, 1) := by decide +kernel
theorem dX11_shortestTruce_25 : decode cX11_shortestTruce 25 = .ok (.iconst 2, 1) := by decide +kernel
theorem dX11_shortestTruce_26 : decode cX11_shortestTruce 26 = .ok (.iload 4, 2) := by decide +kernel
theorem dX11_shortestTruce_28 : decode cX11_shortestTruce 28 = .ok (.imul, 1) := by decide +kernel
theorem dX11_shortestTruce_29 : decode cX11_shortestTruce 29 = .ok (.ishl, 1) := by decide +kernel
theorem dX11_shortestTruce_30 : decode cX11_shortestTruce 30 = .ok (.if_icmp .ge 65, 3) := by decide +kernel
theorem dX11_shortestTruce_33 : decode cX11_shortestTruce 33 = .ok (.aload_n 0, 1) := by decide +kernel
theorem dX11_shortestTruce_34 : decode cX11_shortestTruce 34 = .ok (.getfield 34, 3) := by decide +kernel
theorem dX11_shortestTruce_37 : decode cX11_shortestTruce 37 = .ok (.iconst 0, 1) := by decide +kernel
theorem dX11_shortestTruce_38 : decode cX11_shortestTruce 38 = .ok (.iload 5, 2) := by decide +kernel
theorem dX11_shortestTruce_40 : decode cX11_shortestTruce 40 = .ok (.iload 4, 2) := by decide +kernel
theorem dX11_shortestTruce_42 : decode cX11_shortestTruce 42 = .ok (.invokevirtual 295, 3) := by decide +kernel
theorem dX11_shortestTruce_45 : decode cX11_shortestTruce 45 = .ok (.aload_n 0, 1) := by decide +kernel
theorem dX11_shortestTruce_46 : decode cX11_shortestTruce 46 = .ok (.getfield 41, 3) := by decide +kernel
theorem dX11_shortestTruce_49 : decode cX11_shortestTruce 49 = .ok (.aload_n 1, 1) := by decide +kernel
theorem dX11_shortestTruce_50 : decode cX11_shortestTruce 50 = .ok (.getfield 169, 3) := by decide +kernel
theorem dX11_shortestTruce_53 : decode cX11_shortestTruce 53 = .ok (.aload_n 0, 1) := by decide +kernel
theorem dX11_shortestTruce_54 : decode cX11_shortestTruce 54 = .ok (.getfield 34, 3) := by decide +kernel
theorem dX11_shortestTruce_57 : decode cX11_shortestTruce 57 = .ok (.invokevirtual 303, 3) := by decide +kernel
theorem dX11_shortestTruce_60 : decode cX11_shortestTruce 60 = .ok (.aload_n 0, 1) := by decide +kernel
theorem dX11_shortestTruce_61 : decode cX11_shortestTruce 61 = .ok (.aload_n 1, 1) := by decide +kernel
theorem dX11_shortestTruce_62 : decode cX11_shortestTruce 62 = .ok (.iconst 0, 1) := by decide +kernel
theorem dX11_shortestTruce_63 : decode cX11_shortestTruce 63 = .ok (.iload_n 2, 1) := by decide +kernel
theorem dX11_shortestTruce_64 : decode cX11_shortestTruce 64 = .ok (.invokevirtual 307, 3) := by decide +kernel
theorem dX11_shortestTruce_67 : decode cX11_shortestTruce 67 = .ok (.ifCond .eq 22, 3) := by decide +kernel
theorem dX11_shortestTruce_70 : decode cX11_shortestTruce 70 = .ok (.aload_n 0, 1) := by decide +kernel
theorem dX11_shortestTruce_71 : decode cX11_shortestTruce 71 = .ok (.aload_n 1, 1) := by decide +kernel
theorem dX11_shortestTruce_72 : decode cX11_shortestTruce 72 = .ok (.iconst 1, 1) := by decide +kernel
theorem dX11_shortestTruce_73 : decode cX11_shortestTruce 73 = .ok (.iload_n 3, 1) := by decide +kernel
theorem dX11_shortestTruce_74 : decode cX11_shortestTruce 74 = .ok (.invokevirtual 307, 3) := by decide +kernel
theorem dX11_shortestTruce_77 : decode cX11_shortestTruce 77 = .ok (.ifCond .eq 12, 3) := by decide +kernel
theorem dX11_shortestTruce_80 : decode cX11_shortestTruce 80 = .ok (.iload 4, 2) := by decide +kernel
theorem dX11_shortestTruce_82 : decode cX11_shortestTruce 82 = .ok (.bipush 10, 2) := by decide +kernel
theorem dX11_shortestTruce_84 : decode cX11_shortestTruce 84 = .ok (.ishl, 1) := by decide +kernel
theorem dX11_shortestTruce_85 : decode cX11_shortestTruce 85 = .ok (.iload 5, 2) := by decide +kernel
theorem dX11_shortestTruce_87 : decode cX11_shortestTruce 87 = .ok (.ior, 1) := by decide +kernel
theorem dX11_shortestTruce_88 : decode cX11_shortestTruce 88 = .ok (.ireturn, 1) := by decide +kernel
theorem dX11_shortestTruce_89 : decode cX11_shortestTruce 89 = .ok (.iinc 5 1, 3) := by decide +kernel
theorem dX11_shortestTruce_92 : decode cX11_shortestTruce 92 = .ok (.goto (-70), 3) := by decide +kernel
theorem dX11_shortestTruce_95 : decode cX11_shortestTruce 95 = .ok (.iinc 4 1, 3) := by decide +kernel
theorem dX11_shortestTruce_98 : decode cX11_shortestTruce 98 = .ok (.goto (-85), 3) := by decide +kernel
theorem dX11_shortestTruce_101 : decode cX11_shortestTruce 101 = .ok (.iconst (-1), 1) := by decide +kernel
theorem dX11_shortestTruce_102 : decode cX11_shortestTruce 102 = .ok (.ireturn, 1) := by decide +kernel
theorem dX11_far_0 : decode cX11_far 0 = .ok (.aload_n 0, 1) := by decide +kernel
theorem dX11_far_1 : decode cX11_far 1 = .ok (.iload_n 1, 1) := by decide +kernel
theorem dX11_far_2 : decode cX11_far 2 = .ok (.invokevirtual 165, 3) := by decide +kernel
theorem dX11_far_5 : decode cX11_far 5 = .ok (.astore 5, 2) := by decide +kernel
theorem dX11_far_7 : decode cX11_far 7 = .ok (.aload 5, 2) := by decide +kernel
theorem dX11_far_9 : decode cX11_far 9 = .ok (.ifnull 24, 3) := by decide +kernel
theorem dX11_far_12 : decode cX11_far 12 = .ok (.aload 5, 2) := by decide +kernel
theorem dX11_far_14 : decode cX11_far 14 = .ok (.iload_n 2, 1) := by decide +kernel
theorem dX11_far_15 : decode cX11_far 15 = .ok (.iload_n 3, 1) := by decide +kernel
theorem dX11_far_16 : decode cX11_far 16 = .ok (.invokestatic 203, 3) := by decide +kernel
theorem dX11_far_19 : decode cX11_far 19 = .ok (.ifCond .eq 14, 3) := by decide +kernel
theorem dX11_far_22 : decode cX11_far 22 = .ok (.aload 5, 2) := by decide +kernel
theorem dX11_far_24 : decode cX11_far 24 = .ok (.iload_n 2, 1) := by decide +kernel
theorem dX11_far_25 : decode cX11_far 25 = .ok (.iload 4, 2) := by decide +kernel
theorem dX11_far_27 : decode cX11_far 27 = .ok (.invokestatic 203, 3) := by decide +kernel
theorem dX11_far_30 : decode cX11_far 30 = .ok (.ifCond .ne 5, 3) := by decide +kernel
theorem dX11_far_33 : decode cX11_far 33 = .ok (.iconst (-1), 1) := by decide +kernel
theorem dX11_far_34 : decode cX11_far 34 = .ok (.ireturn, 1) := by decide +kernel
theorem dX11_far_35 : decode cX11_far 35 = .ok (.aload_n 0, 1) := by decide +kernel
theorem dX11_far_36 : decode cX11_far 36 = .ok (.getfield 68, 3) := by decide +kernel
theorem dX11_far_39 : decode cX11_far 39 = .ok (.aload 5, 2) := by decide +kernel
theorem dX11_far_41 : decode cX11_far 41 = .ok (.iload_n 2, 1) := by decide +kernel
theorem dX11_far_42 : decode cX11_far 42 = .ok (.iload_n 3, 1) := by decide +kernel
theorem dX11_far_43 : decode cX11_far 43 = .ok (.invokestatic 207, 3) := by decide +kernel
theorem dX11_far_46 : decode cX11_far 46 = .ok (.iload_n 2, 1) := by decide +kernel
theorem dX11_far_47 : decode cX11_far 47 = .ok (.iload 4, 2) := by decide +kernel
theorem dX11_far_49 : decode cX11_far 49 = .ok (.invokestatic 207, 3) := by decide +kernel
theorem dX11_far_52 : decode cX11_far 52 = .ok (.invokevirtual 339, 3) := by decide +kernel
theorem dX11_far_55 : decode cX11_far 55 = .ok (.ireturn, 1) := by decide +kernel
theorem dX11_codes_0 : decode cX11_codes 0 = .ok (.aload_n 0, 1) := by decide +kernel
theorem dX11_codes_1 : decode cX11_codes 1 = .ok (.iload_n 1, 1) := by decide +kernel
theorem dX11_codes_2 : decode cX11_codes 2 = .ok (.invokevirtual 165, 3) := by decide +kernel
theorem dX11_codes_5 : decode cX11_codes 5 = .ok (.astore 4, 2) := by decide +kernel
theorem dX11_codes_7 : decode cX11_codes 7 = .ok (.aload 4, 2) := by decide +kernel
theorem dX11_codes_9 : decode cX11_codes 9 = .ok (.ifnull 10, 3) := by decide +kernel
theorem dX11_codes_12 : decode cX11_codes 12 = .ok (.iload_n 2, 1) := by decide +kernel
theorem dX11_codes_13 : decode cX11_codes 13 = .ok (.invokestatic 181, 3) := by decide +kernel
theorem dX11_codes_16 : decode cX11_codes 16 = .ok (.ifCond .ne 6, 3) := by decide +kernel
theorem dX11_codes_19 : decode cX11_codes 19 = .ok (.bipush (-2), 2) := by decide +kernel
theorem dX11_codes_21 : decode cX11_codes 21 = .ok (.ireturn, 1) := by decide +kernel
theorem dX11_codes_22 : decode cX11_codes 22 = .ok (.iload_n 3, 1) := by decide +kernel
theorem dX11_codes_23 : decode cX11_codes 23 = .ok (.ifCond .ne 14, 3) := by decide +kernel
theorem dX11_codes_26 : decode cX11_codes 26 = .ok (.aload_n 0, 1) := by decide +kernel
theorem dX11_codes_27 : decode cX11_codes 27 = .ok (.getfield 68, 3) := by decide +kernel
theorem dX11_codes_30 : decode cX11_codes 30 = .ok (.aload 4, 2) := by decide +kernel
theorem dX11_codes_32 : decode cX11_codes 32 = .ok (.iload_n 2, 1) := by decide +kernel
theorem dX11_codes_33 : decode cX11_codes 33 = .ok (.invokevirtual 342, 3) := by decide +kernel
theorem dX11_codes_36 : decode cX11_codes 36 = .ok (.ireturn, 1) := by decide +kernel
theorem dX11_codes_37 : decode cX11_codes 37 = .ok (.iload_n 3, 1) := by decide +kernel
theorem dX11_codes_38 : decode cX11_codes 38 = .ok (.iconst 1, 1) := by decide +kernel
theorem dX11_codes_39 : decode cX11_codes 39 = .ok (.if_icmp .ne 16, 3) := by decide +kernel
theorem dX11_codes_42 : decode cX11_codes 42 = .ok (.aload_n 0, 1) := by decide +kernel
theorem dX11_codes_43 : decode cX11_codes 43 = .ok (.getfield 68, 3) := by decide +kernel
theorem dX11_codes_46 : decode cX11_codes 46 = .ok (.aload 4, 2) := by decide +kernel
theorem dX11_codes_48 : decode cX11_codes 48 = .ok (.iload_n 2, 1) := by decide +kernel
theorem dX11_codes_49 : decode cX11_codes 49 = .ok (.invokevirtual 346, 3) := by decide +kernel
theorem dX11_codes_52 : decode cX11_codes 52 = .ok (.goto 5, 3) := by decide +kernel
theorem dX11_codes_55 : decode cX11_codes 55 = .ok (.bipush (-2), 2) := by decide +kernel
theorem dX11_codes_57 : decode cX11_codes 57 = .ok (.ireturn, 1) := by decide +kernel
theorem dX11_shared_0 : decode cX11_shared 0 = .ok (.aload_n 0, 1) := by decide +kernel
theorem dX11_shared_1 : decode cX11_shared 1 = .ok (.iload_n 1, 1) := by decide +kernel
theorem dX11_shared_2 : decode cX11_shared 2 = .ok (.invokevirtual 165, 3) := by decide +kernel
theorem dX11_shared_5 : decode cX11_shared 5 = .ok (.astore_n 3, 1) := by decide +kernel
theorem dX11_shared_6 : decode cX11_shared 6 = .ok (.aload_n 3, 1) := by decide +kernel
theorem dX11_shared_7 : decode cX11_shared 7 = .ok (.ifnull 8, 3) := by decide +kernel
theorem dX11_shared_10 : decode cX11_shared 10 = .ok (.iload_n 2, 1) := by decide +kernel
theorem dX11_shared_11 : decode cX11_shared 11 = .ok (.iconst (-1), 1) := by decide +kernel
theorem dX11_shared_12 : decode cX11_shared 12 = .ok (.if_icmp .ge 5, 3) := by decide +kernel
theorem dX11_shared_15 : decode cX11_shared 15 = .ok (.iconst (-1), 1) := by decide +kernel
theorem dX11_shared_16 : decode cX11_shared 16 = .ok (.ireturn, 1) := by decide +kernel
theorem dX11_shared_17 : decode cX11_shared 17 = .ok (.iconst 0, 1) := by decide +kernel
theorem dX11_shared_18 : decode cX11_shared 18 = .ok (.istore 4, 2) := by decide +kernel
theorem dX11_shared_20 : decode cX11_shared 20 = .ok (.iconst 0, 1) := by decide +kernel
theorem dX11_shared_21 : decode cX11_shared 21 = .ok (.istore 5, 2) := by decide +kernel
theorem dX11_shared_23 : decode cX11_shared 23 = .ok (.iload 5, 2) := by decide +kernel
theorem dX11_shared_25 : decode cX11_shared 25 = .ok (.aload_n 3, 1) := by decide +kernel
theorem dX11_shared_26 : decode cX11_shared 26 = .ok (.getfield 200, 3) := by decide +kernel
theorem dX11_shared_29 : decode cX11_shared 29 = .ok (.iconst 0, 1) := by decide +kernel
theorem dX11_shared_30 : decode cX11_shared 30 = .ok (.iaload, 1) := by decide +kernel
theorem dX11_shared_31 : decode cX11_shared 31 = .ok (.if_icmp .ge 66, 3) := by decide +kernel
theorem dX11_shared_34 : decode cX11_shared 34 = .ok (.iconst 0, 1) := by decide +kernel
theorem dX11_shared_35 : decode cX11_shared 35 = .ok (.istore 6, 2) := by decide +kernel
theorem dX11_shared_37 : decode cX11_shared 37 = .ok (.iload 6, 2) := by decide +kernel
theorem dX11_shared_39 : decode cX11_shared 39 = .ok (.aload_n 3, 1) := by decide +kernel
theorem dX11_shared_40 : decode cX11_shared 40 = .ok (.getfield 200, 3) := by decide +kernel
theorem dX11_shared_43 : decode cX11_shared 43 = .ok (.iconst 1, 1) := by decide +kernel
theorem dX11_shared_44 : decode cX11_shared 44 = .ok (.iaload, 1) := by decide +kernel
theorem dX11_shared_45 : decode cX11_shared 45 = .ok (.if_icmp .ge 46, 3) := by decide +kernel
theorem dX11_shared_48 : decode cX11_shared 48 = .ok (.aload_n 3, 1) := by decide +kernel
theorem dX11_shared_49 : decode cX11_shared 49 = .ok (.iconst 0, 1) := by decide +kernel
theorem dX11_shared_50 : decode cX11_shared 50 = .ok (.iload 5, 2) := by decide +kernel
theorem dX11_shared_52 : decode cX11_shared 52 = .ok (.invokestatic 207, 3) := by decide +kernel
theorem dX11_shared_55 : decode cX11_shared 55 = .ok (.iconst 1, 1) := by decide +kernel
theorem dX11_shared_56 : decode cX11_shared 56 = .ok (.iload 6, 2) := by decide +kernel
theorem dX11_shared_58 : decode cX11_shared 58 = .ok (.invokestatic 207, 3) := by decide +kernel
theorem dX11_shared_61 : decode cX11_shared 61 = .ok (.invokevirtual 349, 3) := by decide +kernel
theorem dX11_shared_64 : decode cX11_shared 64 = .ok (.ifCond .eq 21, 3) := by decide +kernel
theorem dX11_shared_67 : decode cX11_shared 67 = .ok (.iload 4, 2) := by decide +kernel
theorem dX11_shared_69 : decode cX11_shared 69 = .ok (.iload_n 2, 1) := by decide +kernel
theorem dX11_shared_70 : decode cX11_shared 70 = .ok (.if_icmp .ne 12, 3) := by decide +kernel
theorem dX11_shared_73 : decode cX11_shared 73 = .ok (.bipush 6, 2) := by decide +kernel
theorem dX11_shared_75 : decode cX11_shared 75 = .ok (.iload 5, 2) := by decide +kernel
theorem dX11_shared_77 : decode cX11_shared 77 = .ok (.imul, 1) := by decide +kernel
theorem dX11_shared_78 : decode cX11_shared 78 = .ok (.iload 6, 2) := by decide +kernel
theorem dX11_shared_80 : decode cX11_shared 80 = .ok (.iadd, 1) := by decide +kernel
theorem dX11_shared_81 : decode cX11_shared 81 = .ok (.ireturn, 1) := by decide +kernel
theorem dX11_shared_82 : decode cX11_shared 82 = .ok (.iinc 4 1, 3) := by decide +kernel
theorem dX11_shared_85 : decode cX11_shared 85 = .ok (.iinc 6 1, 3) := by decide +kernel
theorem dX11_shared_88 : decode cX11_shared 88 = .ok (.goto (-51), 3) := by decide +kernel
theorem dX11_shared_91 : decode cX11_shared 91 = .ok (.iinc 5 1, 3) := by decide +kernel
theorem dX11_shared_94 : decode cX11_shared 94 = .ok (.goto (-71), 3) := by decide +kernel
theorem dX11_shared_97 : decode cX11_shared 97 = .ok (.iload_n 2, 1) := by decide +kernel
theorem dX11_shared_98 : decode cX11_shared 98 = .ok (.iconst (-1), 1) := by decide +kernel
theorem dX11_shared_99 : decode cX11_shared 99 = .ok (.if_icmp .ne 8, 3) := by decide +kernel
theorem dX11_shared_102 : decode cX11_shared 102 = .ok (.iload 4, 2) := by decide +kernel
theorem dX11_shared_104 : decode cX11_shared 104 = .ok (.goto 4, 3) := by decide +kernel
theorem dX11_shared_107 : decode cX11_shared 107 = .ok (.iconst (-1), 1) := by decide +kernel
theorem dX11_shared_108 : decode cX11_shared 108 = .ok (.ireturn, 1) := by decide +kernel
theorem dX11_village_0 : decode cX11_village 0 = .ok (.aload_n 0, 1) := by decide +kernel
theorem dX11_village_1 : decode cX11_village 1 = .ok (.iload_n 1, 1) := by decide +kernel
theorem dX11_village_2 : decode cX11_village 2 = .ok (.invokevirtual 352, 3) := by decide +kernel
theorem dX11_village_5 : decode cX11_village 5 = .ok (.astore 4, 2) := by decide +kernel
theorem dX11_village_7 : decode cX11_village 7 = .ok (.aload 4, 2) := by decide +kernel
theorem dX11_village_9 : decode cX11_village 9 = .ok (.ifnonnull 6, 3) := by decide +kernel
theorem dX11_village_12 : decode cX11_village 12 = .ok (.bipush (-2), 2) := by decide +kernel
theorem dX11_village_14 : decode cX11_village 14 = .ok (.ireturn, 1) := by decide +kernel
theorem dX11_village_15 : decode cX11_village 15 = .ok (.iload_n 2, 1) := by decide +kernel
theorem dX11_village_16 : decode cX11_village 16 = .ok (.iconst (-1), 1) := by decide +kernel
theorem dX11_village_17 : decode cX11_village 17 = .ok (.if_icmp .ne 18, 3) := by decide +kernel
theorem dX11_village_20 : decode cX11_village 20 = .ok (.iload_n 3, 1) := by decide +kernel
theorem dX11_village_21 : decode cX11_village 21 = .ok (.ifCond .ne 11, 3) := by decide +kernel
theorem dX11_village_24 : decode cX11_village 24 = .ok (.aload 4, 2) := by decide +kernel
theorem dX11_village_26 : decode cX11_village 26 = .ok (.getfield 356, 3) := by decide +kernel
theorem dX11_village_29 : decode cX11_village 29 = .ok (.goto 5, 3) := by decide +kernel
theorem dX11_village_32 : decode cX11_village 32 = .ok (.bipush (-2), 2) := by decide +kernel
theorem dX11_village_34 : decode cX11_village 34 = .ok (.ireturn, 1) := by decide +kernel
theorem dX11_village_35 : decode cX11_village 35 = .ok (.iload_n 2, 1) := by decide +kernel
theorem dX11_village_36 : decode cX11_village 36 = .ok (.ifCond .lt 12, 3) := by decide +kernel
theorem dX11_village_39 : decode cX11_village 39 = .ok (.iload_n 2, 1) := by decide +kernel
theorem dX11_village_40 : decode cX11_village 40 = .ok (.aload 4, 2) := by decide +kernel
theorem dX11_village_42 : decode cX11_village 42 = .ok (.getfield 356, 3) := by decide +kernel
theorem dX11_village_45 : decode cX11_village 45 = .ok (.if_icmp .lt 6, 3) := by decide +kernel
theorem dX11_village_48 : decode cX11_village 48 = .ok (.bipush (-2), 2) := by decide +kernel
theorem dX11_village_50 : decode cX11_village 50 = .ok (.ireturn, 1) := by decide +kernel
theorem dX11_village_51 : decode cX11_village 51 = .ok (.iload_n 3, 1) := by decide +kernel
theorem dX11_village_52 : decode cX11_village 52 = .ok (.tableswitch 75 0 4 #[36, 44, 52, 60, 68], 36) := by decide +kernel
theorem dX11_village_88 : decode cX11_village 88 = .ok (.aload 4, 2) := by decide +kernel
theorem dX11_village_90 : decode cX11_village 90 = .ok (.getfield 359, 3) := by decide +kernel
theorem dX11_village_93 : decode cX11_village 93 = .ok (.iload_n 2, 1) := by decide +kernel
theorem dX11_village_94 : decode cX11_village 94 = .ok (.iaload, 1) := by decide +kernel
theorem dX11_village_95 : decode cX11_village 95 = .ok (.ireturn, 1) := by decide +kernel
theorem dX11_village_96 : decode cX11_village 96 = .ok (.aload 4, 2) := by decide +kernel
theorem dX11_village_98 : decode cX11_village 98 = .ok (.getfield 362, 3) := by decide +kernel
theorem dX11_village_101 : decode cX11_village 101 = .ok (.iload_n 2, 1) := by decide +kernel
theorem dX11_village_102 : decode cX11_village 102 = .ok (.iaload, 1) := by decide +kernel
theorem dX11_village_103 : decode cX11_village 103 = .ok (.ireturn, 1) := by decide +kernel
theorem dX11_village_104 : decode cX11_village 104 = .ok (.aload 4, 2) := by decide +kernel
theorem dX11_village_106 : decode cX11_village 106 = .ok (.getfield 365, 3) := by decide +kernel
theorem dX11_village_109 : decode cX11_village 109 = .ok (.iload_n 2, 1) := by decide +kernel
theorem dX11_village_110 : decode cX11_village 110 = .ok (.iaload, 1) := by decide +kernel
theorem dX11_village_111 : decode cX11_village 111 = .ok (.ireturn, 1) := by decide +kernel
theorem dX11_village_112 : decode cX11_village 112 = .ok (.aload 4, 2) := by decide +kernel
theorem dX11_village_114 : decode cX11_village 114 = .ok (.getfield 366, 3) := by decide +kernel
theorem dX11_village_117 : decode cX11_village 117 = .ok (.iload_n 2, 1) := by decide +kernel
theorem dX11_village_118 : decode cX11_village 118 = .ok (.iaload, 1) := by decide +kernel
theorem dX11_village_119 : decode cX11_village 119 = .ok (.ireturn, 1) := by decide +kernel
theorem dX11_village_120 : decode cX11_village 120 = .ok (.aload 4, 2) := by decide +kernel
theorem dX11_village_122 : decode cX11_village 122 = .ok (.iload_n 2, 1) := by decide +kernel
theorem dX11_village_123 : decode cX11_village 123 = .ok (.invokevirtual 369, 3) := by decide +kernel
theorem dX11_village_126 : decode cX11_village 126 = .ok (.ireturn, 1) := by decide +kernel
theorem dX11_village_127 : decode cX11_village 127 = .ok (.bipush (-2), 2) := by decide +kernel
theorem dX11_village_129 : decode cX11_village 129 = .ok (.ireturn, 1) := by decide +kernel
theorem dX11_version_0 : decode cX11_version 0 = .ok (.aload_n 0, 1) := by decide +kernel
theorem dX11_version_1 : decode cX11_version 1 = .ok (.iload_n 1, 1) := by decide +kernel
theorem dX11_version_2 : decode cX11_version 2 = .ok (.iload_n 2, 1) := by decide +kernel
theorem dX11_version_3 : decode cX11_version 3 = .ok (.iload_n 3, 1) := by decide +kernel
theorem dX11_version_4 : decode cX11_version 4 = .ok (.iload 4, 2) := by decide +kernel
theorem dX11_version_6 : decode cX11_version 6 = .ok (.invokevirtual 372, 3) := by decide +kernel
theorem dX11_version_9 : decode cX11_version 9 = .ok (.ifCond .ne 5, 3) := by decide +kernel
theorem dX11_version_12 : decode cX11_version 12 = .ok (.iconst (-1), 1) := by decide +kernel
theorem dX11_version_13 : decode cX11_version 13 = .ok (.ireturn, 1) := by decide +kernel
theorem dX11_version_14 : decode cX11_version 14 = .ok (.aload_n 0, 1) := by decide +kernel
theorem dX11_version_15 : decode cX11_version 15 = .ok (.getfield 61, 3) := by decide +kernel
theorem dX11_version_18 : decode cX11_version 18 = .ok (.getfield 376, 3) := by decide +kernel
theorem dX11_version_21 : decode cX11_version 21 = .ok (.iload 4, 2) := by decide +kernel
theorem dX11_version_23 : decode cX11_version 23 = .ok (.iaload, 1) := by decide +kernel
theorem dX11_version_24 : decode cX11_version 24 = .ok (.istore 6, 2) := by decide +kernel
theorem dX11_version_26 : decode cX11_version 26 = .ok (.iload 5, 2) := by decide +kernel
theorem dX11_version_28 : decode cX11_version 28 = .ok (.iconst (-1), 1) := by decide +kernel
theorem dX11_version_29 : decode cX11_version 29 = .ok (.if_icmp .ne 6, 3) := by decide +kernel
theorem dX11_version_32 : decode cX11_version 32 = .ok (.iload 6, 2) := by decide +kernel
theorem dX11_version_34 : decode cX11_version 34 = .ok (.ireturn, 1) := by decide +kernel
theorem dX11_version_35 : decode cX11_version 35 = .ok (.iload 5, 2) := by decide +kernel
theorem dX11_version_37 : decode cX11_version 37 = .ok (.ifCond .lt 26, 3) := by decide +kernel
theorem dX11_version_40 : decode cX11_version 40 = .ok (.iload 5, 2) := by decide +kernel
theorem dX11_version_42 : decode cX11_version 42 = .ok (.iload 6, 2) := by decide +kernel
theorem dX11_version_44 : decode cX11_version 44 = .ok (.if_icmp .ge 19, 3) := by decide +kernel
theorem dX11_version_47 : decode cX11_version 47 = .ok (.aload_n 0, 1) := by decide +kernel
theorem dX11_version_48 : decode cX11_version 48 = .ok (.getfield 61, 3) := by decide +kernel
theorem dX11_version_51 : decode cX11_version 51 = .ok (.getfield 377, 3) := by decide +kernel
theorem dX11_version_54 : decode cX11_version 54 = .ok (.iload 4, 2) := by decide +kernel
theorem dX11_version_56 : decode cX11_version 56 = .ok (.aaload, 1) := by decide +kernel
theorem dX11_version_57 : decode cX11_version 57 = .ok (.iload 5, 2) := by decide +kernel
theorem dX11_version_59 : decode cX11_version 59 = .ok (.iaload, 1) := by decide +kernel
theorem dX11_version_60 : decode cX11_version 60 = .ok (.goto 4, 3) := by decide +kernel
theorem dX11_version_63 : decode cX11_version 63 = .ok (.iconst (-1), 1) := by decide +kernel
theorem dX11_version_64 : decode cX11_version 64 = .ok (.ireturn, 1) := by decide +kernel
theorem dX11_tale_0 : decode cX11_tale 0 = .ok (.aload_n 0, 1) := by decide +kernel
theorem dX11_tale_1 : decode cX11_tale 1 = .ok (.iload_n 1, 1) := by decide +kernel
theorem dX11_tale_2 : decode cX11_tale 2 = .ok (.iload_n 2, 1) := by decide +kernel
theorem dX11_tale_3 : decode cX11_tale 3 = .ok (.iload_n 3, 1) := by decide +kernel
theorem dX11_tale_4 : decode cX11_tale 4 = .ok (.iload 4, 2) := by decide +kernel
theorem dX11_tale_6 : decode cX11_tale 6 = .ok (.invokevirtual 372, 3) := by decide +kernel
theorem dX11_tale_9 : decode cX11_tale 9 = .ok (.ifCond .ne 5, 3) := by decide +kernel
theorem dX11_tale_12 : decode cX11_tale 12 = .ok (.iconst (-1), 1) := by decide +kernel
theorem dX11_tale_13 : decode cX11_tale 13 = .ok (.ireturn, 1) := by decide +kernel
theorem dX11_tale_14 : decode cX11_tale 14 = .ok (.iload 5, 2) := by decide +kernel
theorem dX11_tale_16 : decode cX11_tale 16 = .ok (.ifCond .eq 25, 3) := by decide +kernel
theorem dX11_tale_19 : decode cX11_tale 19 = .ok (.aload_n 0, 1) := by decide +kernel
theorem dX11_tale_20 : decode cX11_tale 20 = .ok (.getfield 61, 3) := by decide +kernel
theorem dX11_tale_23 : decode cX11_tale 23 = .ok (.iload 4, 2) := by decide +kernel
theorem dX11_tale_25 : decode cX11_tale 25 = .ok (.aload_n 0, 1) := by decide +kernel
theorem dX11_tale_26 : decode cX11_tale 26 = .ok (.getfield 10, 3) := by decide +kernel
theorem dX11_tale_29 : decode cX11_tale 29 = .ok (.getfield 153, 3) := by decide +kernel
theorem dX11_tale_32 : decode cX11_tale 32 = .ok (.iload_n 3, 1) := by decide +kernel
theorem dX11_tale_33 : decode cX11_tale 33 = .ok (.aaload, 1) := by decide +kernel
theorem dX11_tale_34 : decode cX11_tale 34 = .ok (.getfield 356, 3) := by decide +kernel
theorem dX11_tale_37 : decode cX11_tale 37 = .ok (.invokevirtual 380, 3) := by decide +kernel
theorem dX11_tale_40 : decode cX11_tale 40 = .ok (.ireturn, 1) := by decide +kernel
theorem dX11_tale_41 : decode cX11_tale 41 = .ok (.aload_n 0, 1) := by decide +kernel
theorem dX11_tale_42 : decode cX11_tale 42 = .ok (.getfield 68, 3) := by decide +kernel
theorem dX11_tale_45 : decode cX11_tale 45 = .ok (.iconst 0, 1) := by decide +kernel
theorem dX11_tale_46 : decode cX11_tale 46 = .ok (.aload_n 0, 1) := by decide +kernel
theorem dX11_tale_47 : decode cX11_tale 47 = .ok (.getfield 61, 3) := by decide +kernel
theorem dX11_tale_50 : decode cX11_tale 50 = .ok (.getfield 377, 3) := by decide +kernel
theorem dX11_tale_53 : decode cX11_tale 53 = .ok (.iload 4, 2) := by decide +kernel
theorem dX11_tale_55 : decode cX11_tale 55 = .ok (.aaload, 1) := by decide +kernel
theorem dX11_tale_56 : decode cX11_tale 56 = .ok (.iconst 0, 1) := by decide +kernel
theorem dX11_tale_57 : decode cX11_tale 57 = .ok (.aload_n 0, 1) := by decide +kernel
theorem dX11_tale_58 : decode cX11_tale 58 = .ok (.getfield 61, 3) := by decide +kernel
theorem dX11_tale_61 : decode cX11_tale 61 = .ok (.getfield 376, 3) := by decide +kernel
theorem dX11_tale_64 : decode cX11_tale 64 = .ok (.iload 4, 2) := by decide +kernel
theorem dX11_tale_66 : decode cX11_tale 66 = .ok (.iaload, 1) := by decide +kernel
theorem dX11_tale_67 : decode cX11_tale 67 = .ok (.invokevirtual 383, 3) := by decide +kernel
theorem dX11_tale_70 : decode cX11_tale 70 = .ok (.aload_n 0, 1) := by decide +kernel
theorem dX11_tale_71 : decode cX11_tale 71 = .ok (.getfield 68, 3) := by decide +kernel
theorem dX11_tale_74 : decode cX11_tale 74 = .ok (.iconst 1, 1) := by decide +kernel
theorem dX11_tale_75 : decode cX11_tale 75 = .ok (.aload_n 0, 1) := by decide +kernel
theorem dX11_tale_76 : decode cX11_tale 76 = .ok (.getfield 41, 3) := by decide +kernel
theorem dX11_tale_79 : decode cX11_tale 79 = .ok (.getfield 237, 3) := by decide +kernel
theorem dX11_tale_82 : decode cX11_tale 82 = .ok (.iconst 0, 1) := by decide +kernel
theorem dX11_tale_83 : decode cX11_tale 83 = .ok (.aload_n 0, 1) := by decide +kernel
theorem dX11_tale_84 : decode cX11_tale 84 = .ok (.getfield 41, 3) := by decide +kernel
theorem dX11_tale_87 : decode cX11_tale 87 = .ok (.getfield 228, 3) := by decide +kernel
theorem dX11_tale_90 : decode cX11_tale 90 = .ok (.invokevirtual 383, 3) := by decide +kernel
theorem dX11_tale_93 : decode cX11_tale 93 = .ok (.aload_n 0, 1) := by decide +kernel
theorem dX11_tale_94 : decode cX11_tale 94 = .ok (.getfield 68, 3) := by decide +kernel
theorem dX11_tale_97 : decode cX11_tale 97 = .ok (.invokevirtual 387, 3) := by decide +kernel
theorem dX11_tale_100 : decode cX11_tale 100 = .ok (.ireturn, 1) := by decide +kernel
theorem dX11_tellAround_0 : decode cX11_tellAround 0 = .ok (.aload_n 0, 1) := by decide +kernel
theorem dX11_tellAround_1 : decode cX11_tellAround 1 = .ok (.iload_n 3, 1) := by decide +kernel
theorem dX11_tellAround_2 : decode cX11_tellAround 2 = .ok (.invokevirtual 352, 3) := by decide +kernel
theorem dX11_tellAround_5 : decode cX11_tellAround 5 = .ok (.astore 5, 2) := by decide +kernel
theorem dX11_tellAround_7 : decode cX11_tellAround 7 = .ok (.aload 5, 2) := by decide +kernel
theorem dX11_tellAround_9 : decode cX11_tellAround 9 = .ok (.ifnull 27, 3) := by decide +kernel
theorem dX11_tellAround_12 : decode cX11_tellAround 12 = .ok (.iload 4, 2) := by decide +kernel
theorem dX11_tellAround_14 : decode cX11_tellAround 14 = .ok (.ifCond .lt 22, 3) := by decide +kernel
theorem dX11_tellAround_17 : decode cX11_tellAround 17 = .ok (.iload 4, 2) := by decide +kernel
theorem dX11_tellAround_19 : decode cX11_tellAround 19 = .ok (.aload 5, 2) := by decide +kernel
theorem dX11_tellAround_21 : decode cX11_tellAround 21 = .ok (.getfield 356, 3) := by decide +kernel
theorem dX11_tellAround_24 : decode cX11_tellAround 24 = .ok (.if_icmp .ge 12, 3) := by decide +kernel
theorem dX11_tellAround_27 : decode cX11_tellAround 27 = .ok (.aload_n 0, 1) := by decide +kernel
theorem dX11_tellAround_28 : decode cX11_tellAround 28 = .ok (.iload_n 1, 1) := by decide +kernel
theorem dX11_tellAround_29 : decode cX11_tellAround 29 = .ok (.iload_n 2, 1) := by decide +kernel
theorem dX11_tellAround_30 : decode cX11_tellAround 30 = .ok (.invokevirtual 225, 3) := by decide +kernel
theorem dX11_tellAround_33 : decode cX11_tellAround 33 = .ok (.ifCond .ne 5, 3) := by decide +kernel
theorem dX11_tellAround_36 : decode cX11_tellAround 36 = .ok (.iconst 0, 1) := by decide +kernel
theorem dX11_tellAround_37 : decode cX11_tellAround 37 = .ok (.ireturn, 1) := by decide +kernel
theorem dX11_tellAround_38 : decode cX11_tellAround 38 = .ok (.aload_n 0, 1) := by decide +kernel
theorem dX11_tellAround_39 : decode cX11_tellAround 39 = .ok (.getfield 61, 3) := by decide +kernel
theorem dX11_tellAround_42 : decode cX11_tellAround 42 = .ok (.aload 5, 2) := by decide +kernel
theorem dX11_tellAround_44 : decode cX11_tellAround 44 = .ok (.aload_n 0, 1) := by decide +kernel
theorem dX11_tellAround_45 : decode cX11_tellAround 45 = .ok (.getfield 41, 3) := by decide +kernel
theorem dX11_tellAround_48 : decode cX11_tellAround 48 = .ok (.invokevirtual 390, 3) := by decide +kernel
theorem dX11_tellAround_51 : decode cX11_tellAround 51 = .ok (.iconst 1, 1) := by decide +kernel
theorem dX11_tellAround_52 : decode cX11_tellAround 52 = .ok (.ireturn, 1) := by decide +kernel
theorem dX11_drawn_0 : decode cX11_drawn 0 = .ok (.aload_n 0, 1) := by decide +kernel
theorem dX11_drawn_1 : decode cX11_drawn 1 = .ok (.iload_n 1, 1) := by decide +kernel
theorem dX11_drawn_2 : decode cX11_drawn 2 = .ok (.invokevirtual 165, 3) := by decide +kernel
theorem dX11_drawn_5 : decode cX11_drawn 5 = .ok (.astore 6, 2) := by decide +kernel
theorem dX11_drawn_7 : decode cX11_drawn 7 = .ok (.aload_n 0, 1) := by decide +kernel
theorem dX11_drawn_8 : decode cX11_drawn 8 = .ok (.iload_n 2, 1) := by decide +kernel
theorem dX11_drawn_9 : decode cX11_drawn 9 = .ok (.invokevirtual 219, 3) := by decide +kernel
theorem dX11_drawn_12 : decode cX11_drawn 12 = .ok (.astore 7, 2) := by decide +kernel
theorem dX11_drawn_14 : decode cX11_drawn 14 = .ok (.aload 6, 2) := by decide +kernel
theorem dX11_drawn_16 : decode cX11_drawn 16 = .ok (.ifnull 20, 3) := by decide +kernel
theorem dX11_drawn_19 : decode cX11_drawn 19 = .ok (.aload 7, 2) := by decide +kernel
theorem dX11_drawn_21 : decode cX11_drawn 21 = .ok (.ifnull 15, 3) := by decide +kernel
theorem dX11_drawn_24 : decode cX11_drawn 24 = .ok (.iload 4, 2) := by decide +kernel
theorem dX11_drawn_26 : decode cX11_drawn 26 = .ok (.ifCond .lt 10, 3) := by decide +kernel
theorem dX11_drawn_29 : decode cX11_drawn 29 = .ok (.iload 4, 2) := by decide +kernel
theorem dX11_drawn_31 : decode cX11_drawn 31 = .ok (.bipush 40, 2) := by decide +kernel
theorem dX11_drawn_33 : decode cX11_drawn 33 = .ok (.if_icmp .le 5, 3) := by decide +kernel
theorem dX11_drawn_36 : decode cX11_drawn 36 = .ok (.iconst (-1), 1) := by decide +kernel
theorem dX11_drawn_37 : decode cX11_drawn 37 = .ok (.ireturn, 1) := by decide +kernel
theorem dX11_drawn_38 : decode cX11_drawn 38 = .ok (.iload 5, 2) := by decide +kernel
theorem dX11_drawn_40 : decode cX11_drawn 40 = .ok (.bipush 20, 2) := by decide +kernel
theorem dX11_drawn_42 : decode cX11_drawn 42 = .ok (.if_icmp .lt 7, 3) := by decide +kernel
theorem dX11_drawn_45 : decode cX11_drawn 45 = .ok (.iconst 1, 1) := by decide +kernel
theorem dX11_drawn_46 : decode cX11_drawn 46 = .ok (.goto 4, 3) := by decide +kernel
theorem dX11_drawn_49 : decode cX11_drawn 49 = .ok (.iconst 0, 1) := by decide +kernel
theorem dX11_drawn_50 : decode cX11_drawn 50 = .ok (.istore 8, 2) := by decide +kernel
theorem dX11_drawn_52 : decode cX11_drawn 52 = .ok (.iload 5, 2) := by decide +kernel
theorem dX11_drawn_54 : decode cX11_drawn 54 = .ok (.bipush 10, 2) := by decide +kernel
theorem dX11_drawn_56 : decode cX11_drawn 56 = .ok (.isub, 1) := by decide +kernel
theorem dX11_drawn_57 : decode cX11_drawn 57 = .ok (.bipush 10, 2) := by decide +kernel
theorem dX11_drawn_59 : decode cX11_drawn 59 = .ok (.iload 8, 2) := by decide +kernel
theorem dX11_drawn_61 : decode cX11_drawn 61 = .ok (.imul, 1) := by decide +kernel
theorem dX11_drawn_62 : decode cX11_drawn 62 = .ok (.isub, 1) := by decide +kernel
theorem dX11_drawn_63 : decode cX11_drawn 63 = .ok (.istore 9, 2) := by decide +kernel
theorem dX11_drawn_65 : decode cX11_drawn 65 = .ok (.iload 5, 2) := by decide +kernel
theorem dX11_drawn_67 : decode cX11_drawn 67 = .ok (.bipush 10, 2) := by decide +kernel
theorem dX11_drawn_69 : decode cX11_drawn 69 = .ok (.if_icmp .lt 15, 3) := by decide +kernel
theorem dX11_drawn_72 : decode cX11_drawn 72 = .ok (.iload 9, 2) := by decide +kernel
theorem dX11_drawn_74 : decode cX11_drawn 74 = .ok (.invokestatic 292, 3) := by decide +kernel
theorem dX11_drawn_77 : decode cX11_drawn 77 = .ok (.ifCond .eq 7, 3) := by decide +kernel
theorem dX11_drawn_80 : decode cX11_drawn 80 = .ok (.iconst 1, 1) := by decide +kernel
theorem dX11_drawn_81 : decode cX11_drawn 81 = .ok (.goto 4, 3) := by decide +kernel
theorem dX11_drawn_84 : decode cX11_drawn 84 = .ok (.iconst 0, 1) := by decide +kernel
theorem dX11_drawn_85 : decode cX11_drawn 85 = .ok (.istore 10, 2) := by decide +kernel
theorem dX11_drawn_87 : decode cX11_drawn 87 = .ok (.iload 5, 2) := by decide +kernel
theorem dX11_drawn_89 : decode cX11_drawn 89 = .ok (.ifCond .eq 16, 3) := by decide +kernel
theorem dX11_drawn_92 : decode cX11_drawn 92 = .ok (.iload 5, 2) := by decide +kernel
theorem dX11_drawn_94 : decode cX11_drawn 94 = .ok (.iconst 1, 1) := by decide +kernel
theorem dX11_drawn_95 : decode cX11_drawn 95 = .ok (.if_icmp .eq 10, 3) := by decide +kernel
theorem dX11_drawn_98 : decode cX11_drawn 98 = .ok (.iload 10, 2) := by decide +kernel
theorem dX11_drawn_100 : decode cX11_drawn 100 = .ok (.ifCond .ne 5, 3) := by decide +kernel
theorem dX11_drawn_103 : decode cX11_drawn 103 = .ok (.iconst (-1), 1) := by decide +kernel
theorem dX11_drawn_104 : decode cX11_drawn 104 = .ok (.ireturn, 1) := by decide +kernel
theorem dX11_drawn_105 : decode cX11_drawn 105 = .ok (.aload_n 0, 1) := by decide +kernel
theorem dX11_drawn_106 : decode cX11_drawn 106 = .ok (.getfield 41, 3) := by decide +kernel
theorem dX11_drawn_109 : decode cX11_drawn 109 = .ok (.aload 6, 2) := by decide +kernel
theorem dX11_drawn_111 : decode cX11_drawn 111 = .ok (.getfield 169, 3) := by decide +kernel
theorem dX11_drawn_114 : decode cX11_drawn 114 = .ok (.aload 7, 2) := by decide +kernel
theorem dX11_drawn_116 : decode cX11_drawn 116 = .ok (.invokevirtual 303, 3) := by decide +kernel
theorem dX11_drawn_119 : decode cX11_drawn 119 = .ok (.iconst 0, 1) := by decide +kernel
theorem dX11_drawn_120 : decode cX11_drawn 120 = .ok (.istore 11, 2) := by decide +kernel
theorem dX11_drawn_122 : decode cX11_drawn 122 = .ok (.iconst 0, 1) := by decide +kernel
theorem dX11_drawn_123 : decode cX11_drawn 123 = .ok (.istore 12, 2) := by decide +kernel
theorem dX11_drawn_125 : decode cX11_drawn 125 = .ok (.aload_n 0, 1) := by decide +kernel
theorem dX11_drawn_126 : decode cX11_drawn 126 = .ok (.invokevirtual 394, 3) := by decide +kernel
theorem dX11_drawn_129 : decode cX11_drawn 129 = .ok (.iload_n 3, 1) := by decide +kernel
theorem dX11_drawn_130 : decode cX11_drawn 130 = .ok (.istore 13, 2) := by decide +kernel
theorem dX11_drawn_132 : decode cX11_drawn 132 = .ok (.iconst 0, 1) := by decide +kernel
theorem dX11_drawn_133 : decode cX11_drawn 133 = .ok (.istore 14, 2) := by decide +kernel
theorem dX11_drawn_135 : decode cX11_drawn 135 = .ok (.iload 14, 2) := by decide +kernel
theorem dX11_drawn_137 : decode cX11_drawn 137 = .ok (.iload 4, 2) := by decide +kernel
theorem dX11_drawn_139 : decode cX11_drawn 139 = .ok (.if_icmp .ge 77, 3) := by decide +kernel
theorem dX11_drawn_142 : decode cX11_drawn 142 = .ok (.aload_n 0, 1) := by decide +kernel
theorem dX11_drawn_143 : decode cX11_drawn 143 = .ok (.getfield 41, 3) := by decide +kernel
theorem dX11_drawn_146 : decode cX11_drawn 146 = .ok (.iload 13, 2) := by decide +kernel
theorem dX11_drawn_148 : decode cX11_drawn 148 = .ok (.invokevirtual 397, 3) := by decide +kernel
theorem dX11_drawn_151 : decode cX11_drawn 151 = .ok (.istore 13, 2) := by decide +kernel
theorem dX11_drawn_153 : decode cX11_drawn 153 = .ok (.aload_n 0, 1) := by decide +kernel
theorem dX11_drawn_154 : decode cX11_drawn 154 = .ok (.aload 6, 2) := by decide +kernel
theorem dX11_drawn_156 : decode cX11_drawn 156 = .ok (.invokevirtual 400, 3) := by decide +kernel
theorem dX11_drawn_159 : decode cX11_drawn 159 = .ok (.iload 11, 2) := by decide +kernel
theorem dX11_drawn_161 : decode cX11_drawn 161 = .ok (.aload_n 0, 1) := by decide +kernel
theorem dX11_drawn_162 : decode cX11_drawn 162 = .ok (.getfield 47, 3) := by decide +kernel
theorem dX11_drawn_165 : decode cX11_drawn 165 = .ok (.iconst 0, 1) := by decide +kernel
theorem dX11_drawn_166 : decode cX11_drawn 166 = .ok (.aaload, 1) := by decide +kernel
theorem dX11_drawn_167 : decode cX11_drawn 167 = .ok (.aload_n 0, 1) := by decide +kernel
theorem dX11_drawn_168 : decode cX11_drawn 168 = .ok (.getfield 47, 3) := by decide +kernel
theorem dX11_drawn_171 : decode cX11_drawn 171 = .ok (.iconst 1, 1) := by decide +kernel
theorem dX11_drawn_172 : decode cX11_drawn 172 = .ok (.aaload, 1) := by decide +kernel
theorem dX11_drawn_173 : decode cX11_drawn 173 = .ok (.invokevirtual 403, 3) := by decide +kernel
theorem dX11_drawn_176 : decode cX11_drawn 176 = .ok (.ifCond .eq 7, 3) := by decide +kernel
theorem dX11_drawn_179 : decode cX11_drawn 179 = .ok (.iconst 1, 1) := by decide +kernel
theorem dX11_drawn_180 : decode cX11_drawn 180 = .ok (.goto 4, 3) := by decide +kernel
theorem dX11_drawn_183 : decode cX11_drawn 183 = .ok (.iconst 0, 1) := by decide +kernel
theorem dX11_drawn_184 : decode cX11_drawn 184 = .ok (.iadd, 1) := by decide +kernel
theorem dX11_drawn_185 : decode cX11_drawn 185 = .ok (.istore 11, 2) := by decide +kernel
theorem dX11_drawn_187 : decode cX11_drawn 187 = .ok (.iload 12, 2) := by decide +kernel
theorem dX11_drawn_189 : decode cX11_drawn 189 = .ok (.aload_n 0, 1) := by decide +kernel
theorem dX11_drawn_190 : decode cX11_drawn 190 = .ok (.aload 6, 2) := by decide +kernel
theorem dX11_drawn_192 : decode cX11_drawn 192 = .ok (.invokevirtual 407, 3) := by decide +kernel
theorem dX11_drawn_195 : decode cX11_drawn 195 = .ok (.ifCond .eq 7, 3) := by decide +kernel
theorem dX11_drawn_198 : decode cX11_drawn 198 = .ok (.iconst 1, 1) := by decide +kernel
theorem dX11_drawn_199 : decode cX11_drawn 199 = .ok (.goto 4, 3) := by decide +kernel
theorem dX11_drawn_202 : decode cX11_drawn 202 = .ok (.iconst 0, 1) := by decide +kernel
theorem dX11_drawn_203 : decode cX11_drawn 203 = .ok (.iadd, 1) := by decide +kernel
theorem dX11_drawn_204 : decode cX11_drawn 204 = .ok (.istore 12, 2) := by decide +kernel
theorem dX11_drawn_206 : decode cX11_drawn 206 = .ok (.aload_n 0, 1) := by decide +kernel
theorem dX11_drawn_207 : decode cX11_drawn 207 = .ok (.invokevirtual 411, 3) := by decide +kernel
theorem dX11_drawn_210 : decode cX11_drawn 210 = .ok (.iinc 14 1, 3) := by decide +kernel
theorem dX11_drawn_213 : decode cX11_drawn 213 = .ok (.goto (-78), 3) := by decide +kernel
theorem dX11_drawn_216 : decode cX11_drawn 216 = .ok (.iload 10, 2) := by decide +kernel
theorem dX11_drawn_218 : decode cX11_drawn 218 = .ok (.ifCond .eq 16, 3) := by decide +kernel
theorem dX11_drawn_221 : decode cX11_drawn 221 = .ok (.aload_n 0, 1) := by decide +kernel
theorem dX11_drawn_222 : decode cX11_drawn 222 = .ok (.getfield 72, 3) := by decide +kernel
theorem dX11_drawn_225 : decode cX11_drawn 225 = .ok (.iload 8, 2) := by decide +kernel
theorem dX11_drawn_227 : decode cX11_drawn 227 = .ok (.iconst 5, 1) := by decide +kernel
theorem dX11_drawn_228 : decode cX11_drawn 228 = .ok (.imul, 1) := by decide +kernel
theorem dX11_drawn_229 : decode cX11_drawn 229 = .ok (.iload 9, 2) := by decide +kernel
theorem dX11_drawn_231 : decode cX11_drawn 231 = .ok (.iadd, 1) := by decide +kernel
theorem dX11_drawn_232 : decode cX11_drawn 232 = .ok (.iaload, 1) := by decide +kernel
theorem dX11_drawn_233 : decode cX11_drawn 233 = .ok (.ireturn, 1) := by decide +kernel
theorem dX11_drawn_234 : decode cX11_drawn 234 = .ok (.iload 5, 2) := by decide +kernel
theorem dX11_drawn_236 : decode cX11_drawn 236 = .ok (.ifCond .ne 8, 3) := by decide +kernel
theorem dX11_drawn_239 : decode cX11_drawn 239 = .ok (.iload 11, 2) := by decide +kernel
theorem dX11_drawn_241 : decode cX11_drawn 241 = .ok (.goto 5, 3) := by decide +kernel
theorem dX11_drawn_244 : decode cX11_drawn 244 = .ok (.iload 12, 2) := by decide +kernel
theorem dX11_drawn_246 : decode cX11_drawn 246 = .ok (.ireturn, 1) := by decide +kernel
theorem dX11_moveCountsToNothing_0 : decode cX11_moveCountsToNothing 0 = .ok (.iconst 0, 1) := by decide +kernel
theorem dX11_moveCountsToNothing_1 : decode cX11_moveCountsToNothing 1 = .ok (.istore_n 1, 1) := by decide +kernel
theorem dX11_moveCountsToNothing_2 : decode cX11_moveCountsToNothing 2 = .ok (.iload_n 1, 1) := by decide +kernel
theorem dX11_moveCountsToNothing_3 : decode cX11_moveCountsToNothing 3 = .ok (.aload_n 0, 1) := by decide +kernel
theorem dX11_moveCountsToNothing_4 : decode cX11_moveCountsToNothing 4 = .ok (.getfield 72, 3) := by decide +kernel
theorem dX11_moveCountsToNothing_7 : decode cX11_moveCountsToNothing 7 = .ok (.arraylength, 1) := by decide +kernel
theorem dX11_moveCountsToNothing_8 : decode cX11_moveCountsToNothing 8 = .ok (.if_icmp .ge 16, 3) := by decide +kernel
theorem dX11_moveCountsToNothing_11 : decode cX11_moveCountsToNothing 11 = .ok (.aload_n 0, 1) := by decide +kernel
theorem dX11_moveCountsToNothing_12 : decode cX11_moveCountsToNothing 12 = .ok (.getfield 72, 3) := by decide +kernel
theorem dX11_moveCountsToNothing_15 : decode cX11_moveCountsToNothing 15 = .ok (.iload_n 1, 1) := by decide +kernel
theorem dX11_moveCountsToNothing_16 : decode cX11_moveCountsToNothing 16 = .ok (.iconst 0, 1) := by decide +kernel
theorem dX11_moveCountsToNothing_17 : decode cX11_moveCountsToNothing 17 = .ok (.iastore, 1) := by decide +kernel
theorem dX11_moveCountsToNothing_18 : decode cX11_moveCountsToNothing 18 = .ok (.iinc 1 1, 3) := by decide +kernel
theorem dX11_moveCountsToNothing_21 : decode cX11_moveCountsToNothing 21 = .ok (.goto (-19), 3) := by decide +kernel
theorem dX11_moveCountsToNothing_24 : decode cX11_moveCountsToNothing 24 = .ok (.return_, 1) := by decide +kernel
theorem dX11_countMoves_0 : decode cX11_countMoves 0 = .ok (.iconst 0, 1) := by decide +kernel
theorem dX11_countMoves_1 : decode cX11_countMoves 1 = .ok (.istore_n 1, 1) := by decide +kernel
theorem dX11_countMoves_2 : decode cX11_countMoves 2 = .ok (.iload_n 1, 1) := by decide +kernel
theorem dX11_countMoves_3 : decode cX11_countMoves 3 = .ok (.iconst 2, 1) := by decide +kernel
theorem dX11_countMoves_4 : decode cX11_countMoves 4 = .ok (.if_icmp .ge 51, 3) := by decide +kernel
theorem dX11_countMoves_7 : decode cX11_countMoves 7 = .ok (.aload_n 0, 1) := by decide +kernel
theorem dX11_countMoves_8 : decode cX11_countMoves 8 = .ok (.getfield 47, 3) := by decide +kernel
theorem dX11_countMoves_11 : decode cX11_countMoves 11 = .ok (.iload_n 1, 1) := by decide +kernel
theorem dX11_countMoves_12 : decode cX11_countMoves 12 = .ok (.aaload, 1) := by decide +kernel
theorem dX11_countMoves_13 : decode cX11_countMoves 13 = .ok (.astore_n 2, 1) := by decide +kernel
theorem dX11_countMoves_14 : decode cX11_countMoves 14 = .ok (.iconst 0, 1) := by decide +kernel
theorem dX11_countMoves_15 : decode cX11_countMoves 15 = .ok (.istore_n 3, 1) := by decide +kernel
theorem dX11_countMoves_16 : decode cX11_countMoves 16 = .ok (.iload_n 3, 1) := by decide +kernel
theorem dX11_countMoves_17 : decode cX11_countMoves 17 = .ok (.aload_n 2, 1) := by decide +kernel
theorem dX11_countMoves_18 : decode cX11_countMoves 18 = .ok (.getfield 254, 3) := by decide +kernel
theorem dX11_countMoves_21 : decode cX11_countMoves 21 = .ok (.if_icmp .ge 28, 3) := by decide +kernel
theorem dX11_countMoves_24 : decode cX11_countMoves 24 = .ok (.aload_n 0, 1) := by decide +kernel
theorem dX11_countMoves_25 : decode cX11_countMoves 25 = .ok (.getfield 72, 3) := by decide +kernel
theorem dX11_countMoves_28 : decode cX11_countMoves 28 = .ok (.iload_n 1, 1) := by decide +kernel
theorem dX11_countMoves_29 : decode cX11_countMoves 29 = .ok (.iconst 5, 1) := by decide +kernel
theorem dX11_countMoves_30 : decode cX11_countMoves 30 = .ok (.imul, 1) := by decide +kernel
theorem dX11_countMoves_31 : decode cX11_countMoves 31 = .ok (.aload_n 2, 1) := by decide +kernel
theorem dX11_countMoves_32 : decode cX11_countMoves 32 = .ok (.getfield 257, 3) := by decide +kernel
theorem dX11_countMoves_35 : decode cX11_countMoves 35 = .ok (.iload_n 3, 1) := by decide +kernel
theorem dX11_countMoves_36 : decode cX11_countMoves 36 = .ok (.iaload, 1) := by decide +kernel
theorem dX11_countMoves_37 : decode cX11_countMoves 37 = .ok (.iadd, 1) := by decide +kernel
theorem dX11_countMoves_38 : decode cX11_countMoves 38 = .ok (.dup2, 1) := by decide +kernel
theorem dX11_countMoves_39 : decode cX11_countMoves 39 = .ok (.iaload, 1) := by decide +kernel
theorem dX11_countMoves_40 : decode cX11_countMoves 40 = .ok (.iconst 1, 1) := by decide +kernel
theorem dX11_countMoves_41 : decode cX11_countMoves 41 = .ok (.iadd, 1) := by decide +kernel
theorem dX11_countMoves_42 : decode cX11_countMoves 42 = .ok (.iastore, 1) := by decide +kernel
theorem dX11_countMoves_43 : decode cX11_countMoves 43 = .ok (.iinc 3 1, 3) := by decide +kernel
theorem dX11_countMoves_46 : decode cX11_countMoves 46 = .ok (.goto (-30), 3) := by decide +kernel
theorem dX11_countMoves_49 : decode cX11_countMoves 49 = .ok (.iinc 1 1, 3) := by decide +kernel
theorem dX11_countMoves_52 : decode cX11_countMoves 52 = .ok (.goto (-50), 3) := by decide +kernel
theorem dX11_countMoves_55 : decode cX11_countMoves 55 = .ok (.return_, 1) := by decide +kernel
theorem dX11_theyMeet_0 : decode cX11_theyMeet 0 = .ok (.aload_n 0, 1) := by decide +kernel
theorem dX11_theyMeet_1 : decode cX11_theyMeet 1 = .ok (.getfield 54, 3) := by decide +kernel
theorem dX11_theyMeet_4 : decode cX11_theyMeet 4 = .ok (.aload_n 1, 1) := by decide +kernel
theorem dX11_theyMeet_5 : decode cX11_theyMeet 5 = .ok (.aload_n 0, 1) := by decide +kernel
theorem dX11_theyMeet_6 : decode cX11_theyMeet 6 = .ok (.getfield 47, 3) := by decide +kernel
theorem dX11_theyMeet_9 : decode cX11_theyMeet 9 = .ok (.iconst 0, 1) := by decide +kernel
theorem dX11_theyMeet_10 : decode cX11_theyMeet 10 = .ok (.aaload, 1) := by decide +kernel
theorem dX11_theyMeet_11 : decode cX11_theyMeet 11 = .ok (.aload_n 0, 1) := by decide +kernel
theorem dX11_theyMeet_12 : decode cX11_theyMeet 12 = .ok (.getfield 47, 3) := by decide +kernel
theorem dX11_theyMeet_15 : decode cX11_theyMeet 15 = .ok (.iconst 1, 1) := by decide +kernel
theorem dX11_theyMeet_16 : decode cX11_theyMeet 16 = .ok (.aaload, 1) := by decide +kernel
theorem dX11_theyMeet_17 : decode cX11_theyMeet 17 = .ok (.invokevirtual 279, 3) := by decide +kernel
theorem dX11_theyMeet_20 : decode cX11_theyMeet 20 = .ok (.aload_n 0, 1) := by decide +kernel
theorem dX11_theyMeet_21 : decode cX11_theyMeet 21 = .ok (.getfield 54, 3) := by decide +kernel
theorem dX11_theyMeet_24 : decode cX11_theyMeet 24 = .ok (.getfield 289, 3) := by decide +kernel
theorem dX11_theyMeet_27 : decode cX11_theyMeet 27 = .ok (.iconst (-1), 1) := by decide +kernel
theorem dX11_theyMeet_28 : decode cX11_theyMeet 28 = .ok (.if_icmp .eq 7, 3) := by decide +kernel
theorem dX11_theyMeet_31 : decode cX11_theyMeet 31 = .ok (.iconst 1, 1) := by decide +kernel
theorem dX11_theyMeet_32 : decode cX11_theyMeet 32 = .ok (.goto 4, 3) := by decide +kernel
theorem dX11_theyMeet_35 : decode cX11_theyMeet 35 = .ok (.iconst 0, 1) := by decide +kernel
theorem dX11_theyMeet_36 : decode cX11_theyMeet 36 = .ok (.ireturn, 1) := by decide +kernel
theorem dX11_common_0 : decode cX11_common 0 = .ok (.aload_n 0, 1) := by decide +kernel
theorem dX11_common_1 : decode cX11_common 1 = .ok (.iload_n 1, 1) := by decide +kernel
theorem dX11_common_2 : decode cX11_common 2 = .ok (.iload_n 2, 1) := by decide +kernel
theorem dX11_common_3 : decode cX11_common 3 = .ok (.invokevirtual 243, 3) := by decide +kernel
theorem dX11_common_6 : decode cX11_common 6 = .ok (.ifCond .ne 5, 3) := by decide +kernel
theorem dX11_common_9 : decode cX11_common 9 = .ok (.iconst (-1), 1) := by decide +kernel
theorem dX11_common_10 : decode cX11_common 10 = .ok (.ireturn, 1) := by decide +kernel
theorem dX11_common_11 : decode cX11_common 11 = .ok (.iload_n 3, 1) := by decide +kernel
theorem dX11_common_12 : decode cX11_common 12 = .ok (.iconst 2, 1) := by decide +kernel
theorem dX11_common_13 : decode cX11_common 13 = .ok (.if_icmp .ne 11, 3) := by decide +kernel
theorem dX11_common_16 : decode cX11_common 16 = .ok (.aload_n 0, 1) := by decide +kernel
theorem dX11_common_17 : decode cX11_common 17 = .ok (.getfield 41, 3) := by decide +kernel
theorem dX11_common_20 : decode cX11_common 20 = .ok (.invokevirtual 414, 3) := by decide +kernel
theorem dX11_common_23 : decode cX11_common 23 = .ok (.ireturn, 1) := by decide +kernel
theorem dX11_common_24 : decode cX11_common 24 = .ok (.iload_n 3, 1) := by decide +kernel
theorem dX11_common_25 : decode cX11_common 25 = .ok (.ifCond .eq 10, 3) := by decide +kernel
theorem dX11_common_28 : decode cX11_common 28 = .ok (.iload_n 3, 1) := by decide +kernel
theorem dX11_common_29 : decode cX11_common 29 = .ok (.iconst 1, 1) := by decide +kernel
theorem dX11_common_30 : decode cX11_common 30 = .ok (.if_icmp .eq 5, 3) := by decide +kernel
theorem dX11_common_33 : decode cX11_common 33 = .ok (.iconst (-1), 1) := by decide +kernel
theorem dX11_common_34 : decode cX11_common 34 = .ok (.ireturn, 1) := by decide +kernel
theorem dX11_common_35 : decode cX11_common 35 = .ok (.iconst 0, 1) := by decide +kernel
theorem dX11_common_36 : decode cX11_common 36 = .ok (.istore 4, 2) := by decide +kernel
theorem dX11_common_38 : decode cX11_common 38 = .ok (.iconst 0, 1) := by decide +kernel
theorem dX11_common_39 : decode cX11_common 39 = .ok (.istore 5, 2) := by decide +kernel
theorem dX11_common_41 : decode cX11_common 41 = .ok (.iconst 0, 1) := by decide +kernel
theorem dX11_common_42 : decode cX11_common 42 = .ok (.istore 6, 2) := by decide +kernel
theorem dX11_common_44 : decode cX11_common 44 = .ok (.iload 6, 2) := by decide +kernel
theorem dX11_common_46 : decode cX11_common 46 = .ok (.aload_n 0, 1) := by decide +kernel
theorem dX11_common_47 : decode cX11_common 47 = .ok (.getfield 47, 3) := by decide +kernel
theorem dX11_common_50 : decode cX11_common 50 = .ok (.iconst 0, 1) := by decide +kernel
theorem dX11_common_51 : decode cX11_common 51 = .ok (.aaload, 1) := by decide +kernel
theorem dX11_common_52 : decode cX11_common 52 = .ok (.getfield 246, 3) := by decide +kernel
theorem dX11_common_55 : decode cX11_common 55 = .ok (.if_icmp .ge 32, 3) := by decide +kernel
theorem dX11_common_58 : decode cX11_common 58 = .ok (.aload_n 0, 1) := by decide +kernel
theorem dX11_common_59 : decode cX11_common 59 = .ok (.iload 6, 2) := by decide +kernel
theorem dX11_common_61 : decode cX11_common 61 = .ok (.invokevirtual 417, 3) := by decide +kernel
theorem dX11_common_64 : decode cX11_common 64 = .ok (.istore 7, 2) := by decide +kernel
theorem dX11_common_66 : decode cX11_common 66 = .ok (.iload 7, 2) := by decide +kernel
theorem dX11_common_68 : decode cX11_common 68 = .ok (.iload 4, 2) := by decide +kernel
theorem dX11_common_70 : decode cX11_common 70 = .ok (.if_icmp .le 11, 3) := by decide +kernel
theorem dX11_common_73 : decode cX11_common 73 = .ok (.iload 7, 2) := by decide +kernel
theorem dX11_common_75 : decode cX11_common 75 = .ok (.istore 4, 2) := by decide +kernel
theorem dX11_common_77 : decode cX11_common 77 = .ok (.iload 6, 2) := by decide +kernel
theorem dX11_common_79 : decode cX11_common 79 = .ok (.istore 5, 2) := by decide +kernel
theorem dX11_common_81 : decode cX11_common 81 = .ok (.iinc 6 1, 3) := by decide +kernel
theorem dX11_common_84 : decode cX11_common 84 = .ok (.goto (-40), 3) := by decide +kernel
theorem dX11_common_87 : decode cX11_common 87 = .ok (.iload_n 3, 1) := by decide +kernel
theorem dX11_common_88 : decode cX11_common 88 = .ok (.ifCond .ne 8, 3) := by decide +kernel
theorem dX11_common_91 : decode cX11_common 91 = .ok (.iload 4, 2) := by decide +kernel
theorem dX11_common_93 : decode cX11_common 93 = .ok (.goto 5, 3) := by decide +kernel
theorem dX11_common_96 : decode cX11_common 96 = .ok (.iload 5, 2) := by decide +kernel
theorem dX11_common_98 : decode cX11_common 98 = .ok (.ireturn, 1) := by decide +kernel
theorem dX11_mostAlikeFrom_0 : decode cX11_mostAlikeFrom 0 = .ok (.iconst 0, 1) := by decide +kernel
theorem dX11_mostAlikeFrom_1 : decode cX11_mostAlikeFrom 1 = .ok (.istore_n 2, 1) := by decide +kernel
theorem dX11_mostAlikeFrom_2 : decode cX11_mostAlikeFrom 2 = .ok (.iconst 0, 1) := by decide +kernel
theorem dX11_mostAlikeFrom_3 : decode cX11_mostAlikeFrom 3 = .ok (.istore_n 3, 1) := by decide +kernel
theorem dX11_mostAlikeFrom_4 : decode cX11_mostAlikeFrom 4 = .ok (.iload_n 3, 1) := by decide +kernel
theorem dX11_mostAlikeFrom_5 : decode cX11_mostAlikeFrom 5 = .ok (.aload_n 0, 1) := by decide +kernel
theorem dX11_mostAlikeFrom_6 : decode cX11_mostAlikeFrom 6 = .ok (.getfield 47, 3) := by decide +kernel
theorem dX11_mostAlikeFrom_9 : decode cX11_mostAlikeFrom 9 = .ok (.iconst 1, 1) := by decide +kernel
theorem dX11_mostAlikeFrom_10 : decode cX11_mostAlikeFrom 10 = .ok (.aaload, 1) := by decide +kernel
theorem dX11_mostAlikeFrom_11 : decode cX11_mostAlikeFrom 11 = .ok (.getfield 246, 3) := by decide +kernel
theorem dX11_mostAlikeFrom_14 : decode cX11_mostAlikeFrom 14 = .ok (.if_icmp .ge 31, 3) := by decide +kernel
theorem dX11_mostAlikeFrom_17 : decode cX11_mostAlikeFrom 17 = .ok (.iload_n 2, 1) := by decide +kernel
theorem dX11_mostAlikeFrom_18 : decode cX11_mostAlikeFrom 18 = .ok (.aload_n 0, 1) := by decide +kernel
theorem dX11_mostAlikeFrom_19 : decode cX11_mostAlikeFrom 19 = .ok (.getfield 47, 3) := by decide +kernel
theorem dX11_mostAlikeFrom_22 : decode cX11_mostAlikeFrom 22 = .ok (.iconst 0, 1) := by decide +kernel
theorem dX11_mostAlikeFrom_23 : decode cX11_mostAlikeFrom 23 = .ok (.aaload, 1) := by decide +kernel
theorem dX11_mostAlikeFrom_24 : decode cX11_mostAlikeFrom 24 = .ok (.iload_n 1, 1) := by decide +kernel
theorem dX11_mostAlikeFrom_25 : decode cX11_mostAlikeFrom 25 = .ok (.aload_n 0, 1) := by decide +kernel
theorem dX11_mostAlikeFrom_26 : decode cX11_mostAlikeFrom 26 = .ok (.getfield 47, 3) := by decide +kernel
theorem dX11_mostAlikeFrom_29 : decode cX11_mostAlikeFrom 29 = .ok (.iconst 1, 1) := by decide +kernel
theorem dX11_mostAlikeFrom_30 : decode cX11_mostAlikeFrom 30 = .ok (.aaload, 1) := by decide +kernel
theorem dX11_mostAlikeFrom_31 : decode cX11_mostAlikeFrom 31 = .ok (.iload_n 3, 1) := by decide +kernel
theorem dX11_mostAlikeFrom_32 : decode cX11_mostAlikeFrom 32 = .ok (.invokevirtual 420, 3) := by decide +kernel
theorem dX11_mostAlikeFrom_35 : decode cX11_mostAlikeFrom 35 = .ok (.invokestatic 424, 3) := by decide +kernel
theorem dX11_mostAlikeFrom_38 : decode cX11_mostAlikeFrom 38 = .ok (.istore_n 2, 1) := by decide +kernel
theorem dX11_mostAlikeFrom_39 : decode cX11_mostAlikeFrom 39 = .ok (.iinc 3 1, 3) := by decide +kernel
theorem dX11_mostAlikeFrom_42 : decode cX11_mostAlikeFrom 42 = .ok (.goto (-38), 3) := by decide +kernel
theorem dX11_mostAlikeFrom_45 : decode cX11_mostAlikeFrom 45 = .ok (.iload_n 2, 1) := by decide +kernel
theorem dX11_mostAlikeFrom_46 : decode cX11_mostAlikeFrom 46 = .ok (.ireturn, 1) := by decide +kernel
theorem dX11_readings_0 : decode cX11_readings 0 = .ok (.iload_n 3, 1) := by decide +kernel
theorem dX11_readings_1 : decode cX11_readings 1 = .ok (.invokestatic 181, 3) := by decide +kernel
theorem dX11_readings_4 : decode cX11_readings 4 = .ok (.ifCond .eq 12, 3) := by decide +kernel
theorem dX11_readings_7 : decode cX11_readings 7 = .ok (.aload_n 0, 1) := by decide +kernel
theorem dX11_readings_8 : decode cX11_readings 8 = .ok (.iload_n 1, 1) := by decide +kernel
theorem dX11_readings_9 : decode cX11_readings 9 = .ok (.iload_n 2, 1) := by decide +kernel
theorem dX11_readings_10 : decode cX11_readings 10 = .ok (.invokevirtual 243, 3) := by decide +kernel
theorem dX11_readings_13 : decode cX11_readings 13 = .ok (.ifCond .ne 7, 3) := by decide +kernel
theorem dX11_readings_16 : decode cX11_readings 16 = .ok (.ldc2_w 429, 3) := by decide +kernel
theorem dX11_readings_19 : decode cX11_readings 19 = .ok (.lreturn, 1) := by decide +kernel
theorem dX11_readings_20 : decode cX11_readings 20 = .ok (.aload_n 0, 1) := by decide +kernel
theorem dX11_readings_21 : decode cX11_readings 21 = .ok (.getfield 68, 3) := by decide +kernel
theorem dX11_readings_24 : decode cX11_readings 24 = .ok (.aload_n 0, 1) := by decide +kernel
theorem dX11_readings_25 : decode cX11_readings 25 = .ok (.getfield 10, 3) := by decide +kernel
theorem dX11_readings_28 : decode cX11_readings 28 = .ok (.getfield 116, 3) := by decide +kernel
theorem dX11_readings_31 : decode cX11_readings 31 = .ok (.iload_n 1, 1) := by decide +kernel
theorem dX11_readings_32 : decode cX11_readings 32 = .ok (.aaload, 1) := by decide +kernel
theorem dX11_readings_33 : decode cX11_readings 33 = .ok (.iload_n 3, 1) := by decide +kernel
theorem dX11_readings_34 : decode cX11_readings 34 = .ok (.aload_n 0, 1) := by decide +kernel
theorem dX11_readings_35 : decode cX11_readings 35 = .ok (.getfield 47, 3) := by decide +kernel
theorem dX11_readings_38 : decode cX11_readings 38 = .ok (.iload_n 3, 1) := by decide +kernel
theorem dX11_readings_39 : decode cX11_readings 39 = .ok (.aaload, 1) := by decide +kernel
theorem dX11_readings_40 : decode cX11_readings 40 = .ok (.invokevirtual 431, 3) := by decide +kernel
theorem dX11_readings_43 : decode cX11_readings 43 = .ok (.aload_n 0, 1) := by decide +kernel
theorem dX11_readings_44 : decode cX11_readings 44 = .ok (.getfield 47, 3) := by decide +kernel
theorem dX11_readings_47 : decode cX11_readings 47 = .ok (.iload_n 3, 1) := by decide +kernel
theorem dX11_readings_48 : decode cX11_readings 48 = .ok (.aaload, 1) := by decide +kernel
theorem dX11_readings_49 : decode cX11_readings 49 = .ok (.getfield 246, 3) := by decide +kernel
theorem dX11_readings_52 : decode cX11_readings 52 = .ok (.istore 5, 2) := by decide +kernel
theorem dX11_readings_54 : decode cX11_readings 54 = .ok (.iload 4, 2) := by decide +kernel
theorem dX11_readings_56 : decode cX11_readings 56 = .ok (.ifCond .eq 17, 3) := by decide +kernel
theorem dX11_readings_59 : decode cX11_readings 59 = .ok (.aload_n 0, 1) := by decide +kernel
theorem dX11_readings_60 : decode cX11_readings 60 = .ok (.getfield 68, 3) := by decide +kernel
theorem dX11_readings_63 : decode cX11_readings 63 = .ok (.getfield 435, 3) := by decide +kernel
theorem dX11_readings_66 : decode cX11_readings 66 = .ok (.iload 5, 2) := by decide +kernel
theorem dX11_readings_68 : decode cX11_readings 68 = .ok (.iaload, 1) := by decide +kernel
theorem dX11_readings_69 : decode cX11_readings 69 = .ok (.i2l, 1) := by decide +kernel
theorem dX11_readings_70 : decode cX11_readings 70 = .ok (.goto 13, 3) := by decide +kernel
theorem dX11_readings_73 : decode cX11_readings 73 = .ok (.aload_n 0, 1) := by decide +kernel
theorem dX11_readings_74 : decode cX11_readings 74 = .ok (.getfield 68, 3) := by decide +kernel
theorem dX11_readings_77 : decode cX11_readings 77 = .ok (.getfield 438, 3) := by decide +kernel
theorem dX11_readings_80 : decode cX11_readings 80 = .ok (.iload 5, 2) := by decide +kernel
theorem dX11_readings_82 : decode cX11_readings 82 = .ok (.laload, 1) := by decide +kernel
theorem dX11_readings_83 : decode cX11_readings 83 = .ok (.lreturn, 1) := by decide +kernel
theorem dX11_unique_0 : decode cX11_unique 0 = .ok (.aload_n 0, 1) := by decide +kernel
theorem dX11_unique_1 : decode cX11_unique 1 = .ok (.iload_n 1, 1) := by decide +kernel
theorem dX11_unique_2 : decode cX11_unique 2 = .ok (.invokevirtual 165, 3) := by decide +kernel
theorem dX11_unique_5 : decode cX11_unique 5 = .ok (.astore 4, 2) := by decide +kernel
theorem dX11_unique_7 : decode cX11_unique 7 = .ok (.aload 4, 2) := by decide +kernel
theorem dX11_unique_9 : decode cX11_unique 9 = .ok (.ifnull 10, 3) := by decide +kernel
theorem dX11_unique_12 : decode cX11_unique 12 = .ok (.iload_n 2, 1) := by decide +kernel
theorem dX11_unique_13 : decode cX11_unique 13 = .ok (.invokestatic 181, 3) := by decide +kernel
theorem dX11_unique_16 : decode cX11_unique 16 = .ok (.ifCond .ne 6, 3) := by decide +kernel
theorem dX11_unique_19 : decode cX11_unique 19 = .ok (.bipush (-2), 2) := by decide +kernel
theorem dX11_unique_21 : decode cX11_unique 21 = .ok (.ireturn, 1) := by decide +kernel
theorem dX11_unique_22 : decode cX11_unique 22 = .ok (.aload_n 0, 1) := by decide +kernel
theorem dX11_unique_23 : decode cX11_unique 23 = .ok (.getfield 68, 3) := by decide +kernel
theorem dX11_unique_26 : decode cX11_unique 26 = .ok (.aload 4, 2) := by decide +kernel
theorem dX11_unique_28 : decode cX11_unique 28 = .ok (.iload_n 2, 1) := by decide +kernel
theorem dX11_unique_29 : decode cX11_unique 29 = .ok (.invokevirtual 442, 3) := by decide +kernel
theorem dX11_unique_32 : decode cX11_unique 32 = .ok (.istore 5, 2) := by decide +kernel
theorem dX11_unique_34 : decode cX11_unique 34 = .ok (.iload_n 3, 1) := by decide +kernel
theorem dX11_unique_35 : decode cX11_unique 35 = .ok (.ifCond .eq 6, 3) := by decide +kernel
theorem dX11_unique_38 : decode cX11_unique 38 = .ok (.iload 5, 2) := by decide +kernel
theorem dX11_unique_40 : decode cX11_unique 40 = .ok (.ireturn, 1) := by decide +kernel
theorem dX11_unique_41 : decode cX11_unique 41 = .ok (.iload 5, 2) := by decide +kernel
theorem dX11_unique_43 : decode cX11_unique 43 = .ok (.iconst (-1), 1) := by decide +kernel
theorem dX11_unique_44 : decode cX11_unique 44 = .ok (.if_icmp .ne 7, 3) := by decide +kernel
theorem dX11_unique_47 : decode cX11_unique 47 = .ok (.iconst 1, 1) := by decide +kernel
theorem dX11_unique_48 : decode cX11_unique 48 = .ok (.goto 4, 3) := by decide +kernel
theorem dX11_unique_51 : decode cX11_unique 51 = .ok (.iconst 0, 1) := by decide +kernel
theorem dX11_unique_52 : decode cX11_unique 52 = .ok (.ireturn, 1) := by decide +kernel
theorem dX11_fix_0 : decode cX11_fix 0 = .ok (.aload_n 0, 1) := by decide +kernel
theorem dX11_fix_1 : decode cX11_fix 1 = .ok (.iload_n 1, 1) := by decide +kernel
theorem dX11_fix_2 : decode cX11_fix 2 = .ok (.invokevirtual 165, 3) := by decide +kernel
theorem dX11_fix_5 : decode cX11_fix 5 = .ok (.astore 6, 2) := by decide +kernel
theorem dX11_fix_7 : decode cX11_fix 7 = .ok (.aload_n 0, 1) := by decide +kernel
theorem dX11_fix_8 : decode cX11_fix 8 = .ok (.iload_n 2, 1) := by decide +kernel
theorem dX11_fix_9 : decode cX11_fix 9 = .ok (.invokevirtual 219, 3) := by decide +kernel
theorem dX11_fix_12 : decode cX11_fix 12 = .ok (.astore 7, 2) := by decide +kernel
theorem dX11_fix_14 : decode cX11_fix 14 = .ok (.aload 6, 2) := by decide +kernel
theorem dX11_fix_16 : decode cX11_fix 16 = .ok (.ifnull 23, 3) := by decide +kernel
theorem dX11_fix_19 : decode cX11_fix 19 = .ok (.aload 7, 2) := by decide +kernel
theorem dX11_fix_21 : decode cX11_fix 21 = .ok (.ifnull 18, 3) := by decide +kernel
theorem dX11_fix_24 : decode cX11_fix 24 = .ok (.iload_n 3, 1) := by decide +kernel
theorem dX11_fix_25 : decode cX11_fix 25 = .ok (.invokestatic 181, 3) := by decide +kernel
theorem dX11_fix_28 : decode cX11_fix 28 = .ok (.ifCond .eq 11, 3) := by decide +kernel
theorem dX11_fix_31 : decode cX11_fix 31 = .ok (.iload 4, 2) := by decide +kernel
theorem dX11_fix_33 : decode cX11_fix 33 = .ok (.invokestatic 292, 3) := by decide +kernel
theorem dX11_fix_36 : decode cX11_fix 36 = .ok (.ifCond .ne 5, 3) := by decide +kernel
theorem dX11_fix_39 : decode cX11_fix 39 = .ok (.iconst (-1), 1) := by decide +kernel
theorem dX11_fix_40 : decode cX11_fix 40 = .ok (.ireturn, 1) := by decide +kernel
theorem dX11_fix_41 : decode cX11_fix 41 = .ok (.aload_n 0, 1) := by decide +kernel
theorem dX11_fix_42 : decode cX11_fix 42 = .ok (.getfield 41, 3) := by decide +kernel
theorem dX11_fix_45 : decode cX11_fix 45 = .ok (.aload 6, 2) := by decide +kernel
theorem dX11_fix_47 : decode cX11_fix 47 = .ok (.getfield 169, 3) := by decide +kernel
theorem dX11_fix_50 : decode cX11_fix 50 = .ok (.aload 7, 2) := by decide +kernel
theorem dX11_fix_52 : decode cX11_fix 52 = .ok (.invokevirtual 303, 3) := by decide +kernel
theorem dX11_fix_55 : decode cX11_fix 55 = .ok (.aload_n 0, 1) := by decide +kernel
theorem dX11_fix_56 : decode cX11_fix 56 = .ok (.aload 6, 2) := by decide +kernel
theorem dX11_fix_58 : decode cX11_fix 58 = .ok (.iload_n 3, 1) := by decide +kernel
theorem dX11_fix_59 : decode cX11_fix 59 = .ok (.iload 4, 2) := by decide +kernel
theorem dX11_fix_61 : decode cX11_fix 61 = .ok (.invokevirtual 445, 3) := by decide +kernel
theorem dX11_fix_64 : decode cX11_fix 64 = .ok (.istore 8, 2) := by decide +kernel
theorem dX11_fix_66 : decode cX11_fix 66 = .ok (.iload 5, 2) := by decide +kernel
theorem dX11_fix_68 : decode cX11_fix 68 = .ok (.ifCond .ne 9, 3) := by decide +kernel
theorem dX11_fix_71 : decode cX11_fix 71 = .ok (.iload 8, 2) := by decide +kernel
theorem dX11_fix_73 : decode cX11_fix 73 = .ok (.iconst (-1), 1) := by decide +kernel
theorem dX11_fix_74 : decode cX11_fix 74 = .ok (.if_icmp .ne 8, 3) := by decide +kernel
theorem dX11_fix_77 : decode cX11_fix 77 = .ok (.iload 8, 2) := by decide +kernel
theorem dX11_fix_79 : decode cX11_fix 79 = .ok (.goto 8, 3) := by decide +kernel
theorem dX11_fix_82 : decode cX11_fix 82 = .ok (.iload 8, 2) := by decide +kernel
theorem dX11_fix_84 : decode cX11_fix 84 = .ok (.invokestatic 324, 3) := by decide +kernel
theorem dX11_fix_87 : decode cX11_fix 87 = .ok (.ireturn, 1) := by decide +kernel
theorem dX11_fewestChanged_0 : decode cX11_fewestChanged 0 = .ok (.aload_n 0, 1) := by decide +kernel
theorem dX11_fewestChanged_1 : decode cX11_fewestChanged 1 = .ok (.aload_n 1, 1) := by decide +kernel
theorem dX11_fewestChanged_2 : decode cX11_fewestChanged 2 = .ok (.iload_n 2, 1) := by decide +kernel
theorem dX11_fewestChanged_3 : decode cX11_fewestChanged 3 = .ok (.iload_n 3, 1) := by decide +kernel
theorem dX11_fewestChanged_4 : decode cX11_fewestChanged 4 = .ok (.invokevirtual 307, 3) := by decide +kernel
theorem dX11_fewestChanged_7 : decode cX11_fewestChanged 7 = .ok (.ifCond .eq 5, 3) := by decide +kernel
theorem dX11_fewestChanged_10 : decode cX11_fewestChanged 10 = .ok (.iconst 0, 1) := by decide +kernel
theorem dX11_fewestChanged_11 : decode cX11_fewestChanged 11 = .ok (.ireturn, 1) := by decide +kernel
theorem dX11_fewestChanged_12 : decode cX11_fewestChanged 12 = .ok (.iconst 0, 1) := by decide +kernel
theorem dX11_fewestChanged_13 : decode cX11_fewestChanged 13 = .ok (.istore 4, 2) := by decide +kernel
theorem dX11_fewestChanged_15 : decode cX11_fewestChanged 15 = .ok (.iload 4, 2) := by decide +kernel
theorem dX11_fewestChanged_17 : decode cX11_fewestChanged 17 = .ok (.aload_n 0, 1) := by decide +kernel
theorem dX11_fewestChanged_18 : decode cX11_fewestChanged 18 = .ok (.getfield 41, 3) := by decide +kernel
theorem dX11_fewestChanged_21 : decode cX11_fewestChanged 21 = .ok (.getfield 228, 3) := by decide +kernel
theorem dX11_fewestChanged_24 : decode cX11_fewestChanged 24 = .ok (.if_icmp .ge 28, 3) := by decide +kernel
theorem dX11_fewestChanged_27 : decode cX11_fewestChanged 27 = .ok (.aload_n 0, 1) := by decide +kernel
theorem dX11_fewestChanged_28 : decode cX11_fewestChanged 28 = .ok (.aload_n 1, 1) := by decide +kernel
theorem dX11_fewestChanged_29 : decode cX11_fewestChanged 29 = .ok (.iload_n 2, 1) := by decide +kernel
theorem dX11_fewestChanged_30 : decode cX11_fewestChanged 30 = .ok (.iload_n 3, 1) := by decide +kernel
theorem dX11_fewestChanged_31 : decode cX11_fewestChanged 31 = .ok (.iload 4, 2) := by decide +kernel
theorem dX11_fewestChanged_33 : decode cX11_fewestChanged 33 = .ok (.iload 4, 2) := by decide +kernel
theorem dX11_fewestChanged_35 : decode cX11_fewestChanged 35 = .ok (.invokevirtual 448, 3) := by decide +kernel
theorem dX11_fewestChanged_38 : decode cX11_fewestChanged 38 = .ok (.ifCond .eq 8, 3) := by decide +kernel
theorem dX11_fewestChanged_41 : decode cX11_fewestChanged 41 = .ok (.iconst 1, 1) := by decide +kernel
theorem dX11_fewestChanged_42 : decode cX11_fewestChanged 42 = .ok (.iload 4, 2) := by decide +kernel
theorem dX11_fewestChanged_44 : decode cX11_fewestChanged 44 = .ok (.ishl, 1) := by decide +kernel
theorem dX11_fewestChanged_45 : decode cX11_fewestChanged 45 = .ok (.ireturn, 1) := by decide +kernel
theorem dX11_fewestChanged_46 : decode cX11_fewestChanged 46 = .ok (.iinc 4 1, 3) := by decide +kernel
theorem dX11_fewestChanged_49 : decode cX11_fewestChanged 49 = .ok (.goto (-34), 3) := by decide +kernel
theorem dX11_fewestChanged_52 : decode cX11_fewestChanged 52 = .ok (.iconst 1, 1) := by decide +kernel
theorem dX11_fewestChanged_53 : decode cX11_fewestChanged 53 = .ok (.istore 4, 2) := by decide +kernel
theorem dX11_fewestChanged_55 : decode cX11_fewestChanged 55 = .ok (.iload 4, 2) := by decide +kernel
theorem dX11_fewestChanged_57 : decode cX11_fewestChanged 57 = .ok (.aload_n 0, 1) := by decide +kernel
theorem dX11_fewestChanged_58 : decode cX11_fewestChanged 58 = .ok (.getfield 41, 3) := by decide +kernel
theorem dX11_fewestChanged_61 : decode cX11_fewestChanged 61 = .ok (.getfield 228, 3) := by decide +kernel
theorem dX11_fewestChanged_64 : decode cX11_fewestChanged 64 = .ok (.if_icmp .ge 49, 3) := by decide +kernel
theorem dX11_fewestChanged_67 : decode cX11_fewestChanged 67 = .ok (.iconst 0, 1) := by decide +kernel
theorem dX11_fewestChanged_68 : decode cX11_fewestChanged 68 = .ok (.istore 5, 2) := by decide +kernel
theorem dX11_fewestChanged_70 : decode cX11_fewestChanged 70 = .ok (.iload 5, 2) := by decide +kernel
theorem dX11_fewestChanged_72 : decode cX11_fewestChanged 72 = .ok (.iload 4, 2) := by decide +kernel
theorem dX11_fewestChanged_74 : decode cX11_fewestChanged 74 = .ok (.if_icmp .ge 33, 3) := by decide +kernel
theorem dX11_fewestChanged_77 : decode cX11_fewestChanged 77 = .ok (.aload_n 0, 1) := by decide +kernel
theorem dX11_fewestChanged_78 : decode cX11_fewestChanged 78 = .ok (.aload_n 1, 1) := by decide +kernel
theorem dX11_fewestChanged_79 : decode cX11_fewestChanged 79 = .ok (.iload_n 2, 1) := by decide +kernel
theorem dX11_fewestChanged_80 : decode cX11_fewestChanged 80 = .ok (.iload_n 3, 1) := by decide +kernel
theorem dX11_fewestChanged_81 : decode cX11_fewestChanged 81 = .ok (.iload 5, 2) := by decide +kernel
theorem dX11_fewestChanged_83 : decode cX11_fewestChanged 83 = .ok (.iload 4, 2) := by decide +kernel
theorem dX11_fewestChanged_85 : decode cX11_fewestChanged 85 = .ok (.invokevirtual 448, 3) := by decide +kernel
theorem dX11_fewestChanged_88 : decode cX11_fewestChanged 88 = .ok (.ifCond .eq 13, 3) := by decide +kernel
theorem dX11_fewestChanged_91 : decode cX11_fewestChanged 91 = .ok (.iconst 1, 1) := by decide +kernel
theorem dX11_fewestChanged_92 : decode cX11_fewestChanged 92 = .ok (.iload 4, 2) := by decide +kernel
theorem dX11_fewestChanged_94 : decode cX11_fewestChanged 94 = .ok (.ishl, 1) := by decide +kernel
theorem dX11_fewestChanged_95 : decode cX11_fewestChanged 95 = .ok (.iconst 1, 1) := by decide +kernel
theorem dX11_fewestChanged_96 : decode cX11_fewestChanged 96 = .ok (.iload 5, 2) := by decide +kernel
theorem dX11_fewestChanged_98 : decode cX11_fewestChanged 98 = .ok (.ishl, 1) := by decide +kernel
theorem dX11_fewestChanged_99 : decode cX11_fewestChanged 99 = .ok (.ior, 1) := by decide +kernel
theorem dX11_fewestChanged_100 : decode cX11_fewestChanged 100 = .ok (.ireturn, 1) := by decide +kernel
theorem dX11_fewestChanged_101 : decode cX11_fewestChanged 101 = .ok (.iinc 5 1, 3) := by decide +kernel
theorem dX11_fewestChanged_104 : decode cX11_fewestChanged 104 = .ok (.goto (-34), 3) := by decide +kernel
theorem dX11_fewestChanged_107 : decode cX11_fewestChanged 107 = .ok (.iinc 4 1, 3) := by decide +kernel
theorem dX11_fewestChanged_110 : decode cX11_fewestChanged 110 = .ok (.goto (-55), 3) := by decide +kernel
theorem dX11_fewestChanged_113 : decode cX11_fewestChanged 113 = .ok (.iconst (-1), 1) := by decide +kernel
theorem dX11_fewestChanged_114 : decode cX11_fewestChanged 114 = .ok (.ireturn, 1) := by decide +kernel
theorem dX11_letsMakeBy_0 : decode cX11_letsMakeBy 0 = .ok (.iconst 0, 1) := by decide +kernel
theorem dX11_letsMakeBy_1 : decode cX11_letsMakeBy 1 = .ok (.istore 6, 2) := by decide +kernel
theorem dX11_letsMakeBy_3 : decode cX11_letsMakeBy 3 = .ok (.iload 4, 2) := by decide +kernel
theorem dX11_letsMakeBy_5 : decode cX11_letsMakeBy 5 = .ok (.iload 5, 2) := by decide +kernel
theorem dX11_letsMakeBy_7 : decode cX11_letsMakeBy 7 = .ok (.if_icmp .ne 7, 3) := by decide +kernel
theorem dX11_letsMakeBy_10 : decode cX11_letsMakeBy 10 = .ok (.iconst 2, 1) := by decide +kernel
theorem dX11_letsMakeBy_11 : decode cX11_letsMakeBy 11 = .ok (.goto 4, 3) := by decide +kernel
theorem dX11_letsMakeBy_14 : decode cX11_letsMakeBy 14 = .ok (.iconst 4, 1) := by decide +kernel
theorem dX11_letsMakeBy_15 : decode cX11_letsMakeBy 15 = .ok (.istore 7, 2) := by decide +kernel
theorem dX11_letsMakeBy_17 : decode cX11_letsMakeBy 17 = .ok (.iconst 1, 1) := by decide +kernel
theorem dX11_letsMakeBy_18 : decode cX11_letsMakeBy 18 = .ok (.istore 8, 2) := by decide +kernel
theorem dX11_letsMakeBy_20 : decode cX11_letsMakeBy 20 = .ok (.iload 8, 2) := by decide +kernel
theorem dX11_letsMakeBy_22 : decode cX11_letsMakeBy 22 = .ok (.iload 7, 2) := by decide +kernel
theorem dX11_letsMakeBy_24 : decode cX11_letsMakeBy 24 = .ok (.if_icmp .ge 65, 3) := by decide +kernel
theorem dX11_letsMakeBy_27 : decode cX11_letsMakeBy 27 = .ok (.iload 6, 2) := by decide +kernel
theorem dX11_letsMakeBy_29 : decode cX11_letsMakeBy 29 = .ok (.ifCond .ne 60, 3) := by decide +kernel
theorem dX11_letsMakeBy_32 : decode cX11_letsMakeBy 32 = .ok (.aload_n 0, 1) := by decide +kernel
theorem dX11_letsMakeBy_33 : decode cX11_letsMakeBy 33 = .ok (.getfield 41, 3) := by decide +kernel
theorem dX11_letsMakeBy_36 : decode cX11_letsMakeBy 36 = .ok (.iload 5, 2) := by decide +kernel
theorem dX11_letsMakeBy_38 : decode cX11_letsMakeBy 38 = .ok (.iload 8, 2) := by decide +kernel
theorem dX11_letsMakeBy_40 : decode cX11_letsMakeBy 40 = .ok (.invokevirtual 452, 3) := by decide +kernel
theorem dX11_letsMakeBy_43 : decode cX11_letsMakeBy 43 = .ok (.iconst 1, 1) := by decide +kernel
theorem dX11_letsMakeBy_44 : decode cX11_letsMakeBy 44 = .ok (.istore 9, 2) := by decide +kernel
theorem dX11_letsMakeBy_46 : decode cX11_letsMakeBy 46 = .ok (.iload 9, 2) := by decide +kernel
theorem dX11_letsMakeBy_48 : decode cX11_letsMakeBy 48 = .ok (.iconst 4, 1) := by decide +kernel
theorem dX11_letsMakeBy_49 : decode cX11_letsMakeBy 49 = .ok (.if_icmp .ge 34, 3) := by decide +kernel
theorem dX11_letsMakeBy_52 : decode cX11_letsMakeBy 52 = .ok (.iload 6, 2) := by decide +kernel
theorem dX11_letsMakeBy_54 : decode cX11_letsMakeBy 54 = .ok (.ifCond .ne 29, 3) := by decide +kernel
theorem dX11_letsMakeBy_57 : decode cX11_letsMakeBy 57 = .ok (.aload_n 0, 1) := by decide +kernel
theorem dX11_letsMakeBy_58 : decode cX11_letsMakeBy 58 = .ok (.getfield 41, 3) := by decide +kernel
theorem dX11_letsMakeBy_61 : decode cX11_letsMakeBy 61 = .ok (.iload 4, 2) := by decide +kernel
theorem dX11_letsMakeBy_63 : decode cX11_letsMakeBy 63 = .ok (.iload 9, 2) := by decide +kernel
theorem dX11_letsMakeBy_65 : decode cX11_letsMakeBy 65 = .ok (.invokevirtual 452, 3) := by decide +kernel
theorem dX11_letsMakeBy_68 : decode cX11_letsMakeBy 68 = .ok (.aload_n 0, 1) := by decide +kernel
theorem dX11_letsMakeBy_69 : decode cX11_letsMakeBy 69 = .ok (.aload_n 1, 1) := by decide +kernel
theorem dX11_letsMakeBy_70 : decode cX11_letsMakeBy 70 = .ok (.iload_n 2, 1) := by decide +kernel
theorem dX11_letsMakeBy_71 : decode cX11_letsMakeBy 71 = .ok (.iload_n 3, 1) := by decide +kernel
theorem dX11_letsMakeBy_72 : decode cX11_letsMakeBy 72 = .ok (.invokevirtual 307, 3) := by decide +kernel
theorem dX11_letsMakeBy_75 : decode cX11_letsMakeBy 75 = .ok (.istore 6, 2) := by decide +kernel
theorem dX11_letsMakeBy_77 : decode cX11_letsMakeBy 77 = .ok (.iinc 9 1, 3) := by decide +kernel
theorem dX11_letsMakeBy_80 : decode cX11_letsMakeBy 80 = .ok (.goto (-34), 3) := by decide +kernel
theorem dX11_letsMakeBy_83 : decode cX11_letsMakeBy 83 = .ok (.iinc 8 1, 3) := by decide +kernel
theorem dX11_letsMakeBy_86 : decode cX11_letsMakeBy 86 = .ok (.goto (-66), 3) := by decide +kernel
theorem dX11_letsMakeBy_89 : decode cX11_letsMakeBy 89 = .ok (.aload_n 0, 1) := by decide +kernel
theorem dX11_letsMakeBy_90 : decode cX11_letsMakeBy 90 = .ok (.getfield 41, 3) := by decide +kernel
theorem dX11_letsMakeBy_93 : decode cX11_letsMakeBy 93 = .ok (.iload 5, 2) := by decide +kernel
theorem dX11_letsMakeBy_95 : decode cX11_letsMakeBy 95 = .ok (.iconst 0, 1) := by decide +kernel
theorem dX11_letsMakeBy_96 : decode cX11_letsMakeBy 96 = .ok (.invokevirtual 452, 3) := by decide +kernel
theorem dX11_letsMakeBy_99 : decode cX11_letsMakeBy 99 = .ok (.aload_n 0, 1) := by decide +kernel
theorem dX11_letsMakeBy_100 : decode cX11_letsMakeBy 100 = .ok (.getfield 41, 3) := by decide +kernel
theorem dX11_letsMakeBy_103 : decode cX11_letsMakeBy 103 = .ok (.iload 4, 2) := by decide +kernel
theorem dX11_letsMakeBy_105 : decode cX11_letsMakeBy 105 = .ok (.iconst 0, 1) := by decide +kernel
theorem dX11_letsMakeBy_106 : decode cX11_letsMakeBy 106 = .ok (.invokevirtual 452, 3) := by decide +kernel
theorem dX11_letsMakeBy_109 : decode cX11_letsMakeBy 109 = .ok (.iload 6, 2) := by decide +kernel
theorem dX11_letsMakeBy_111 : decode cX11_letsMakeBy 111 = .ok (.ireturn, 1) := by decide +kernel
theorem dX11_count_0 : decode cX11_count 0 = .ok (.iload_n 1, 1) := by decide +kernel
theorem dX11_count_1 : decode cX11_count 1 = .ok (.invokestatic 91, 3) := by decide +kernel
theorem dX11_count_4 : decode cX11_count 4 = .ok (.ifCond .eq 15, 3) := by decide +kernel
theorem dX11_count_7 : decode cX11_count 7 = .ok (.aload_n 0, 1) := by decide +kernel
theorem dX11_count_8 : decode cX11_count 8 = .ok (.getfield 10, 3) := by decide +kernel
theorem dX11_count_11 : decode cX11_count 11 = .ok (.getfield 113, 3) := by decide +kernel
theorem dX11_count_14 : decode cX11_count 14 = .ok (.iload_n 1, 1) := by decide +kernel
theorem dX11_count_15 : decode cX11_count 15 = .ok (.iaload, 1) := by decide +kernel
theorem dX11_count_16 : decode cX11_count 16 = .ok (.goto 5, 3) := by decide +kernel
theorem dX11_count_19 : decode cX11_count 19 = .ok (.bipush (-2), 2) := by decide +kernel
theorem dX11_count_21 : decode cX11_count 21 = .ok (.ireturn, 1) := by decide +kernel
theorem dX11_image_0 : decode cX11_image 0 = .ok (.iload_n 1, 1) := by decide +kernel
theorem dX11_image_1 : decode cX11_image 1 = .ok (.ifCond .lt 8, 3) := by decide +kernel
theorem dX11_image_4 : decode cX11_image 4 = .ok (.iload_n 1, 1) := by decide +kernel
theorem dX11_image_5 : decode cX11_image 5 = .ok (.iconst 3, 1) := by decide +kernel
theorem dX11_image_6 : decode cX11_image 6 = .ok (.if_icmp .lt 5, 3) := by decide +kernel
theorem dX11_image_9 : decode cX11_image 9 = .ok (.iconst 0, 1) := by decide +kernel
theorem dX11_image_10 : decode cX11_image 10 = .ok (.ireturn, 1) := by decide +kernel
theorem dX11_image_11 : decode cX11_image 11 = .ok (.aload_n 0, 1) := by decide +kernel
theorem dX11_image_12 : decode cX11_image 12 = .ok (.getfield 16, 3) := by decide +kernel
theorem dX11_image_15 : decode cX11_image 15 = .ok (.iload_n 1, 1) := by decide +kernel
theorem dX11_image_16 : decode cX11_image 16 = .ok (.aaload, 1) := by decide +kernel
theorem dX11_image_17 : decode cX11_image 17 = .ok (.aload_n 0, 1) := by decide +kernel
theorem dX11_image_18 : decode cX11_image 18 = .ok (.getfield 10, 3) := by decide +kernel
theorem dX11_image_21 : decode cX11_image 21 = .ok (.invokevirtual 456, 3) := by decide +kernel
theorem dX11_image_24 : decode cX11_image 24 = .ok (.aload_n 0, 1) := by decide +kernel
theorem dX11_image_25 : decode cX11_image 25 = .ok (.getfield 20, 3) := by decide +kernel
theorem dX11_image_28 : decode cX11_image 28 = .ok (.iload_n 1, 1) := by decide +kernel
theorem dX11_image_29 : decode cX11_image 29 = .ok (.iconst 1, 1) := by decide +kernel
theorem dX11_image_30 : decode cX11_image 30 = .ok (.bastore, 1) := by decide +kernel
theorem dX11_image_31 : decode cX11_image 31 = .ok (.iconst 1, 1) := by decide +kernel
theorem dX11_image_32 : decode cX11_image 32 = .ok (.ireturn, 1) := by decide +kernel
theorem dX11_again_0 : decode cX11_again 0 = .ok (.iload_n 1, 1) := by decide +kernel
theorem dX11_again_1 : decode cX11_again 1 = .ok (.ifCond .lt 17, 3) := by decide +kernel
theorem dX11_again_4 : decode cX11_again 4 = .ok (.iload_n 1, 1) := by decide +kernel
theorem dX11_again_5 : decode cX11_again 5 = .ok (.iconst 3, 1) := by decide +kernel
theorem dX11_again_6 : decode cX11_again 6 = .ok (.if_icmp .ge 12, 3) := by decide +kernel
theorem dX11_again_9 : decode cX11_again 9 = .ok (.aload_n 0, 1) := by decide +kernel
theorem dX11_again_10 : decode cX11_again 10 = .ok (.getfield 20, 3) := by decide +kernel
theorem dX11_again_13 : decode cX11_again 13 = .ok (.iload_n 1, 1) := by decide +kernel
theorem dX11_again_14 : decode cX11_again 14 = .ok (.baload, 1) := by decide +kernel
theorem dX11_again_15 : decode cX11_again 15 = .ok (.ifCond .ne 5, 3) := by decide +kernel
theorem dX11_again_18 : decode cX11_again 18 = .ok (.iconst 0, 1) := by decide +kernel
theorem dX11_again_19 : decode cX11_again 19 = .ok (.ireturn, 1) := by decide +kernel
theorem dX11_again_20 : decode cX11_again 20 = .ok (.aload_n 0, 1) := by decide +kernel
theorem dX11_again_21 : decode cX11_again 21 = .ok (.getfield 10, 3) := by decide +kernel
theorem dX11_again_24 : decode cX11_again 24 = .ok (.aload_n 0, 1) := by decide +kernel
theorem dX11_again_25 : decode cX11_again 25 = .ok (.getfield 16, 3) := by decide +kernel
theorem dX11_again_28 : decode cX11_again 28 = .ok (.iload_n 1, 1) := by decide +kernel
theorem dX11_again_29 : decode cX11_again 29 = .ok (.aaload, 1) := by decide +kernel
theorem dX11_again_30 : decode cX11_again 30 = .ok (.invokevirtual 456, 3) := by decide +kernel
theorem dX11_again_33 : decode cX11_again 33 = .ok (.iconst 1, 1) := by decide +kernel
theorem dX11_again_34 : decode cX11_again 34 = .ok (.ireturn, 1) := by decide +kernel
theorem dX11_isArmy_0 : decode cX11_isArmy 0 = .ok (.iload_n 0, 1) := by decide +kernel
theorem dX11_isArmy_1 : decode cX11_isArmy 1 = .ok (.ifCond .lt 12, 3) := by decide +kernel
theorem dX11_isArmy_4 : decode cX11_isArmy 4 = .ok (.iload_n 0, 1) := by decide +kernel
theorem dX11_isArmy_5 : decode cX11_isArmy 5 = .ok (.iconst 2, 1) := by decide +kernel
theorem dX11_isArmy_6 : decode cX11_isArmy 6 = .ok (.if_icmp .ge 7, 3) := by decide +kernel
theorem dX11_isArmy_9 : decode cX11_isArmy 9 = .ok (.iconst 1, 1) := by decide +kernel
theorem dX11_isArmy_10 : decode cX11_isArmy 10 = .ok (.goto 4, 3) := by decide +kernel
theorem dX11_isArmy_13 : decode cX11_isArmy 13 = .ok (.iconst 0, 1) := by decide +kernel
theorem dX11_isArmy_14 : decode cX11_isArmy 14 = .ok (.ireturn, 1) := by decide +kernel
theorem dX11_isMove_0 : decode cX11_isMove 0 = .ok (.iload_n 0, 1) := by decide +kernel
theorem dX11_isMove_1 : decode cX11_isMove 1 = .ok (.ifCond .lt 12, 3) := by decide +kernel
theorem dX11_isMove_4 : decode cX11_isMove 4 = .ok (.iload_n 0, 1) := by decide +kernel
theorem dX11_isMove_5 : decode cX11_isMove 5 = .ok (.iconst 5, 1) := by decide +kernel
theorem dX11_isMove_6 : decode cX11_isMove 6 = .ok (.if_icmp .ge 7, 3) := by decide +kernel
theorem dX11_isMove_9 : decode cX11_isMove 9 = .ok (.iconst 1, 1) := by decide +kernel
theorem dX11_isMove_10 : decode cX11_isMove 10 = .ok (.goto 4, 3) := by decide +kernel
theorem dX11_isMove_13 : decode cX11_isMove 13 = .ok (.iconst 0, 1) := by decide +kernel
theorem dX11_isMove_14 : decode cX11_isMove 14 = .ok (.ireturn, 1) := by decide +kernel
theorem dX11_isOrder_0 : decode cX11_isOrder 0 = .ok (.iload_n 1, 1) := by decide +kernel
theorem dX11_isOrder_1 : decode cX11_isOrder 1 = .ok (.invokestatic 181, 3) := by decide +kernel
theorem dX11_isOrder_4 : decode cX11_isOrder 4 = .ok (.ifCond .eq 21, 3) := by decide +kernel
theorem dX11_isOrder_7 : decode cX11_isOrder 7 = .ok (.iload_n 2, 1) := by decide +kernel
theorem dX11_isOrder_8 : decode cX11_isOrder 8 = .ok (.ifCond .lt 17, 3) := by decide +kernel
theorem dX11_isOrder_11 : decode cX11_isOrder 11 = .ok (.iload_n 2, 1) := by decide +kernel
theorem dX11_isOrder_12 : decode cX11_isOrder 12 = .ok (.aload_n 0, 1) := by decide +kernel
theorem dX11_isOrder_13 : decode cX11_isOrder 13 = .ok (.getfield 200, 3) := by decide +kernel
theorem dX11_isOrder_16 : decode cX11_isOrder 16 = .ok (.iload_n 1, 1) := by decide +kernel
theorem dX11_isOrder_17 : decode cX11_isOrder 17 = .ok (.iaload, 1) := by decide +kernel
theorem dX11_isOrder_18 : decode cX11_isOrder 18 = .ok (.if_icmp .ge 7, 3) := by decide +kernel
theorem dX11_isOrder_21 : decode cX11_isOrder 21 = .ok (.iconst 1, 1) := by decide +kernel
theorem dX11_isOrder_22 : decode cX11_isOrder 22 = .ok (.goto 4, 3) := by decide +kernel
theorem dX11_isOrder_25 : decode cX11_isOrder 25 = .ok (.iconst 0, 1) := by decide +kernel
theorem dX11_isOrder_26 : decode cX11_isOrder 26 = .ok (.ireturn, 1) := by decide +kernel
theorem dX11_warAt_0 : decode cX11_warAt 0 = .ok (.iload_n 1, 1) := by decide +kernel
theorem dX11_warAt_1 : decode cX11_warAt 1 = .ok (.ifCond .lt 28, 3) := by decide +kernel
theorem dX11_warAt_4 : decode cX11_warAt 4 = .ok (.iload_n 1, 1) := by decide +kernel
theorem dX11_warAt_5 : decode cX11_warAt 5 = .ok (.aload_n 0, 1) := by decide +kernel
theorem dX11_warAt_6 : decode cX11_warAt 6 = .ok (.getfield 10, 3) := by decide +kernel
theorem dX11_warAt_9 : decode cX11_warAt 9 = .ok (.getfield 113, 3) := by decide +kernel
theorem dX11_warAt_12 : decode cX11_warAt 12 = .ok (.iconst 0, 1) := by decide +kernel
theorem dX11_warAt_13 : decode cX11_warAt 13 = .ok (.iaload, 1) := by decide +kernel
theorem dX11_warAt_14 : decode cX11_warAt 14 = .ok (.if_icmp .ge 15, 3) := by decide +kernel
theorem dX11_warAt_17 : decode cX11_warAt 17 = .ok (.aload_n 0, 1) := by decide +kernel
theorem dX11_warAt_18 : decode cX11_warAt 18 = .ok (.getfield 10, 3) := by decide +kernel
theorem dX11_warAt_21 : decode cX11_warAt 21 = .ok (.getfield 116, 3) := by decide +kernel
theorem dX11_warAt_24 : decode cX11_warAt 24 = .ok (.iload_n 1, 1) := by decide +kernel
theorem dX11_warAt_25 : decode cX11_warAt 25 = .ok (.aaload, 1) := by decide +kernel
theorem dX11_warAt_26 : decode cX11_warAt 26 = .ok (.goto 4, 3) := by decide +kernel
theorem dX11_warAt_29 : decode cX11_warAt 29 = .ok (.aconst_null, 1) := by decide +kernel
theorem dX11_warAt_30 : decode cX11_warAt 30 = .ok (.areturn, 1) := by decide +kernel
theorem dX11_scoreAt_0 : decode cX11_scoreAt 0 = .ok (.iload_n 1, 1) := by decide +kernel
theorem dX11_scoreAt_1 : decode cX11_scoreAt 1 = .ok (.ifCond .lt 28, 3) := by decide +kernel
theorem dX11_scoreAt_4 : decode cX11_scoreAt 4 = .ok (.iload_n 1, 1) := by decide +kernel
theorem dX11_scoreAt_5 : decode cX11_scoreAt 5 = .ok (.aload_n 0, 1) := by decide +kernel
theorem dX11_scoreAt_6 : decode cX11_scoreAt 6 = .ok (.getfield 10, 3) := by decide +kernel
theorem dX11_scoreAt_9 : decode cX11_scoreAt 9 = .ok (.getfield 113, 3) := by decide +kernel
theorem dX11_scoreAt_12 : decode cX11_scoreAt 12 = .ok (.iconst 1, 1) := by decide +kernel
theorem dX11_scoreAt_13 : decode cX11_scoreAt 13 = .ok (.iaload, 1) := by decide +kernel
theorem dX11_scoreAt_14 : decode cX11_scoreAt 14 = .ok (.if_icmp .ge 15, 3) := by decide +kernel
theorem dX11_scoreAt_17 : decode cX11_scoreAt 17 = .ok (.aload_n 0, 1) := by decide +kernel
theorem dX11_scoreAt_18 : decode cX11_scoreAt 18 = .ok (.getfield 10, 3) := by decide +kernel
theorem dX11_scoreAt_21 : decode cX11_scoreAt 21 = .ok (.getfield 130, 3) := by decide +kernel
theorem dX11_scoreAt_24 : decode cX11_scoreAt 24 = .ok (.iload_n 1, 1) := by decide +kernel
theorem dX11_scoreAt_25 : decode cX11_scoreAt 25 = .ok (.aaload, 1) := by decide +kernel
theorem dX11_scoreAt_26 : decode cX11_scoreAt 26 = .ok (.goto 4, 3) := by decide +kernel
theorem dX11_scoreAt_29 : decode cX11_scoreAt 29 = .ok (.aconst_null, 1) := by decide +kernel
theorem dX11_scoreAt_30 : decode cX11_scoreAt 30 = .ok (.areturn, 1) := by decide +kernel
theorem dX11_hearingAt_0 : decode cX11_hearingAt 0 = .ok (.iload_n 1, 1) := by decide +kernel
theorem dX11_hearingAt_1 : decode cX11_hearingAt 1 = .ok (.ifCond .lt 28, 3) := by decide +kernel
theorem dX11_hearingAt_4 : decode cX11_hearingAt 4 = .ok (.iload_n 1, 1) := by decide +kernel
theorem dX11_hearingAt_5 : decode cX11_hearingAt 5 = .ok (.aload_n 0, 1) := by decide +kernel
theorem dX11_hearingAt_6 : decode cX11_hearingAt 6 = .ok (.getfield 10, 3) := by decide +kernel
theorem dX11_hearingAt_9 : decode cX11_hearingAt 9 = .ok (.getfield 113, 3) := by decide +kernel
theorem dX11_hearingAt_12 : decode cX11_hearingAt 12 = .ok (.iconst 2, 1) := by decide +kernel
theorem dX11_hearingAt_13 : decode cX11_hearingAt 13 = .ok (.iaload, 1) := by decide +kernel
theorem dX11_hearingAt_14 : decode cX11_hearingAt 14 = .ok (.if_icmp .ge 15, 3) := by decide +kernel
theorem dX11_hearingAt_17 : decode cX11_hearingAt 17 = .ok (.aload_n 0, 1) := by decide +kernel
theorem dX11_hearingAt_18 : decode cX11_hearingAt 18 = .ok (.getfield 10, 3) := by decide +kernel
theorem dX11_hearingAt_21 : decode cX11_hearingAt 21 = .ok (.getfield 140, 3) := by decide +kernel
theorem dX11_hearingAt_24 : decode cX11_hearingAt 24 = .ok (.iload_n 1, 1) := by decide +kernel
theorem dX11_hearingAt_25 : decode cX11_hearingAt 25 = .ok (.aaload, 1) := by decide +kernel
theorem dX11_hearingAt_26 : decode cX11_hearingAt 26 = .ok (.goto 4, 3) := by decide +kernel
theorem dX11_hearingAt_29 : decode cX11_hearingAt 29 = .ok (.aconst_null, 1) := by decide +kernel
theorem dX11_hearingAt_30 : decode cX11_hearingAt 30 = .ok (.areturn, 1) := by decide +kernel
theorem dX11_villagesAt_0 : decode cX11_villagesAt 0 = .ok (.iload_n 1, 1) := by decide +kernel
theorem dX11_villagesAt_1 : decode cX11_villagesAt 1 = .ok (.ifCond .lt 28, 3) := by decide +kernel
theorem dX11_villagesAt_4 : decode cX11_villagesAt 4 = .ok (.iload_n 1, 1) := by decide +kernel
theorem dX11_villagesAt_5 : decode cX11_villagesAt 5 = .ok (.aload_n 0, 1) := by decide +kernel
theorem dX11_villagesAt_6 : decode cX11_villagesAt 6 = .ok (.getfield 10, 3) := by decide +kernel
theorem dX11_villagesAt_9 : decode cX11_villagesAt 9 = .ok (.getfield 113, 3) := by decide +kernel
theorem dX11_villagesAt_12 : decode cX11_villagesAt 12 = .ok (.iconst 3, 1) := by decide +kernel
theorem dX11_villagesAt_13 : decode cX11_villagesAt 13 = .ok (.iaload, 1) := by decide +kernel
theorem dX11_villagesAt_14 : decode cX11_villagesAt 14 = .ok (.if_icmp .ge 15, 3) := by decide +kernel
theorem dX11_villagesAt_17 : decode cX11_villagesAt 17 = .ok (.aload_n 0, 1) := by decide +kernel
theorem dX11_villagesAt_18 : decode cX11_villagesAt 18 = .ok (.getfield 10, 3) := by decide +kernel
theorem dX11_villagesAt_21 : decode cX11_villagesAt 21 = .ok (.getfield 153, 3) := by decide +kernel
theorem dX11_villagesAt_24 : decode cX11_villagesAt 24 = .ok (.iload_n 1, 1) := by decide +kernel
theorem dX11_villagesAt_25 : decode cX11_villagesAt 25 = .ok (.aaload, 1) := by decide +kernel
theorem dX11_villagesAt_26 : decode cX11_villagesAt 26 = .ok (.goto 4, 3) := by decide +kernel
theorem dX11_villagesAt_29 : decode cX11_villagesAt 29 = .ok (.aconst_null, 1) := by decide +kernel
theorem dX11_villagesAt_30 : decode cX11_villagesAt 30 = .ok (.areturn, 1) := by decide +kernel
theorem dX11_perform_0 : decode cX11_perform 0 = .ok (.aload_n 0, 1) := by decide +kernel
theorem dX11_perform_1 : decode cX11_perform 1 = .ok (.iload_n 1, 1) := by decide +kernel
theorem dX11_perform_2 : decode cX11_perform 2 = .ok (.invokevirtual 165, 3) := by decide +kernel
theorem dX11_perform_5 : decode cX11_perform 5 = .ok (.astore_n 3, 1) := by decide +kernel
theorem dX11_perform_6 : decode cX11_perform 6 = .ok (.aload_n 0, 1) := by decide +kernel
theorem dX11_perform_7 : decode cX11_perform 7 = .ok (.iload_n 2, 1) := by decide +kernel
theorem dX11_perform_8 : decode cX11_perform 8 = .ok (.invokevirtual 219, 3) := by decide +kernel
theorem dX11_perform_11 : decode cX11_perform 11 = .ok (.astore 4, 2) := by decide +kernel
theorem dX11_perform_13 : decode cX11_perform 13 = .ok (.aload_n 3, 1) := by decide +kernel
theorem dX11_perform_14 : decode cX11_perform 14 = .ok (.ifnull 8, 3) := by decide +kernel
theorem dX11_perform_17 : decode cX11_perform 17 = .ok (.aload 4, 2) := by decide +kernel
theorem dX11_perform_19 : decode cX11_perform 19 = .ok (.ifnonnull 5, 3) := by decide +kernel
theorem dX11_perform_22 : decode cX11_perform 22 = .ok (.iconst 0, 1) := by decide +kernel
theorem dX11_perform_23 : decode cX11_perform 23 = .ok (.ireturn, 1) := by decide +kernel
theorem dX11_perform_24 : decode cX11_perform 24 = .ok (.aload_n 0, 1) := by decide +kernel
theorem dX11_perform_25 : decode cX11_perform 25 = .ok (.getfield 41, 3) := by decide +kernel
theorem dX11_perform_28 : decode cX11_perform 28 = .ok (.aload_n 3, 1) := by decide +kernel
theorem dX11_perform_29 : decode cX11_perform 29 = .ok (.getfield 169, 3) := by decide +kernel
theorem dX11_perform_32 : decode cX11_perform 32 = .ok (.aload 4, 2) := by decide +kernel
theorem dX11_perform_34 : decode cX11_perform 34 = .ok (.invokevirtual 303, 3) := by decide +kernel
theorem dX11_perform_37 : decode cX11_perform 37 = .ok (.aload_n 0, 1) := by decide +kernel
theorem dX11_perform_38 : decode cX11_perform 38 = .ok (.getfield 41, 3) := by decide +kernel
theorem dX11_perform_41 : decode cX11_perform 41 = .ok (.aload_n 3, 1) := by decide +kernel
theorem dX11_perform_42 : decode cX11_perform 42 = .ok (.invokevirtual 459, 3) := by decide +kernel
theorem dX11_perform_45 : decode cX11_perform 45 = .ok (.iconst 1, 1) := by decide +kernel
theorem dX11_perform_46 : decode cX11_perform 46 = .ok (.ireturn, 1) := by decide +kernel
theorem dX11_performToBoth_0 : decode cX11_performToBoth 0 = .ok (.aload_n 0, 1) := by decide +kernel
theorem dX11_performToBoth_1 : decode cX11_performToBoth 1 = .ok (.iload_n 1, 1) := by decide +kernel
theorem dX11_performToBoth_2 : decode cX11_performToBoth 2 = .ok (.iload_n 2, 1) := by decide +kernel
theorem dX11_performToBoth_3 : decode cX11_performToBoth 3 = .ok (.invokevirtual 225, 3) := by decide +kernel
theorem dX11_performToBoth_6 : decode cX11_performToBoth 6 = .ok (.ifCond .ne 5, 3) := by decide +kernel
theorem dX11_performToBoth_9 : decode cX11_performToBoth 9 = .ok (.iconst 0, 1) := by decide +kernel
theorem dX11_performToBoth_10 : decode cX11_performToBoth 10 = .ok (.ireturn, 1) := by decide +kernel
theorem dX11_performToBoth_11 : decode cX11_performToBoth 11 = .ok (.aload_n 0, 1) := by decide +kernel
theorem dX11_performToBoth_12 : decode cX11_performToBoth 12 = .ok (.aload_n 0, 1) := by decide +kernel
theorem dX11_performToBoth_13 : decode cX11_performToBoth 13 = .ok (.getfield 10, 3) := by decide +kernel
theorem dX11_performToBoth_16 : decode cX11_performToBoth 16 = .ok (.getfield 116, 3) := by decide +kernel
theorem dX11_performToBoth_19 : decode cX11_performToBoth 19 = .ok (.iload_n 1, 1) := by decide +kernel
theorem dX11_performToBoth_20 : decode cX11_performToBoth 20 = .ok (.aaload, 1) := by decide +kernel
theorem dX11_performToBoth_21 : decode cX11_performToBoth 21 = .ok (.invokevirtual 462, 3) := by decide +kernel
theorem dX11_performToBoth_24 : decode cX11_performToBoth 24 = .ok (.iconst 1, 1) := by decide +kernel
theorem dX11_performToBoth_25 : decode cX11_performToBoth 25 = .ok (.ireturn, 1) := by decide +kernel
theorem dX11_playToBoth_0 : decode cX11_playToBoth 0 = .ok (.aload_n 0, 1) := by decide +kernel
theorem dX11_playToBoth_1 : decode cX11_playToBoth 1 = .ok (.getfield 41, 3) := by decide +kernel
theorem dX11_playToBoth_4 : decode cX11_playToBoth 4 = .ok (.aload_n 1, 1) := by decide +kernel
theorem dX11_playToBoth_5 : decode cX11_playToBoth 5 = .ok (.invokevirtual 459, 3) := by decide +kernel
theorem dX11_playToBoth_8 : decode cX11_playToBoth 8 = .ok (.aload_n 0, 1) := by decide +kernel
theorem dX11_playToBoth_9 : decode cX11_playToBoth 9 = .ok (.aload_n 1, 1) := by decide +kernel
theorem dX11_playToBoth_10 : decode cX11_playToBoth 10 = .ok (.invokevirtual 462, 3) := by decide +kernel
theorem dX11_playToBoth_13 : decode cX11_playToBoth 13 = .ok (.return_, 1) := by decide +kernel
theorem dX11_listenBoth_0 : decode cX11_listenBoth 0 = .ok (.iconst 0, 1) := by decide +kernel
theorem dX11_listenBoth_1 : decode cX11_listenBoth 1 = .ok (.istore_n 2, 1) := by decide +kernel
theorem dX11_listenBoth_2 : decode cX11_listenBoth 2 = .ok (.iload_n 2, 1) := by decide +kernel
theorem dX11_listenBoth_3 : decode cX11_listenBoth 3 = .ok (.iconst 2, 1) := by decide +kernel
theorem dX11_listenBoth_4 : decode cX11_listenBoth 4 = .ok (.if_icmp .ge 24, 3) := by decide +kernel
theorem dX11_listenBoth_7 : decode cX11_listenBoth 7 = .ok (.aload_n 0, 1) := by decide +kernel
theorem dX11_listenBoth_8 : decode cX11_listenBoth 8 = .ok (.getfield 47, 3) := by decide +kernel
theorem dX11_listenBoth_11 : decode cX11_listenBoth 11 = .ok (.iload_n 2, 1) := by decide +kernel
theorem dX11_listenBoth_12 : decode cX11_listenBoth 12 = .ok (.aaload, 1) := by decide +kernel
theorem dX11_listenBoth_13 : decode cX11_listenBoth 13 = .ok (.aload_n 1, 1) := by decide +kernel
theorem dX11_listenBoth_14 : decode cX11_listenBoth 14 = .ok (.iload_n 2, 1) := by decide +kernel
theorem dX11_listenBoth_15 : decode cX11_listenBoth 15 = .ok (.aload_n 0, 1) := by decide +kernel
theorem dX11_listenBoth_16 : decode cX11_listenBoth 16 = .ok (.getfield 41, 3) := by decide +kernel
theorem dX11_listenBoth_19 : decode cX11_listenBoth 19 = .ok (.invokevirtual 465, 3) := by decide +kernel
theorem dX11_listenBoth_22 : decode cX11_listenBoth 22 = .ok (.iinc 2 1, 3) := by decide +kernel
theorem dX11_listenBoth_25 : decode cX11_listenBoth 25 = .ok (.goto (-23), 3) := by decide +kernel
theorem dX11_listenBoth_28 : decode cX11_listenBoth 28 = .ok (.return_, 1) := by decide +kernel
theorem dX11_letsMake_0 : decode cX11_letsMake 0 = .ok (.aload_n 0, 1) := by decide +kernel
theorem dX11_letsMake_1 : decode cX11_letsMake 1 = .ok (.getfield 41, 3) := by decide +kernel
theorem dX11_letsMake_4 : decode cX11_letsMake 4 = .ok (.aload_n 1, 1) := by decide +kernel
theorem dX11_letsMake_5 : decode cX11_letsMake 5 = .ok (.invokevirtual 459, 3) := by decide +kernel
theorem dX11_letsMake_8 : decode cX11_letsMake 8 = .ok (.aload_n 0, 1) := by decide +kernel
theorem dX11_letsMake_9 : decode cX11_letsMake 9 = .ok (.getfield 47, 3) := by decide +kernel
theorem dX11_letsMake_12 : decode cX11_letsMake 12 = .ok (.iload_n 2, 1) := by decide +kernel
theorem dX11_letsMake_13 : decode cX11_letsMake 13 = .ok (.aaload, 1) := by decide +kernel
theorem dX11_letsMake_14 : decode cX11_letsMake 14 = .ok (.aload_n 1, 1) := by decide +kernel
theorem dX11_letsMake_15 : decode cX11_letsMake 15 = .ok (.iload_n 2, 1) := by decide +kernel
theorem dX11_letsMake_16 : decode cX11_letsMake 16 = .ok (.aload_n 0, 1) := by decide +kernel
theorem dX11_letsMake_17 : decode cX11_letsMake 17 = .ok (.getfield 41, 3) := by decide +kernel
theorem dX11_letsMake_20 : decode cX11_letsMake 20 = .ok (.invokevirtual 465, 3) := by decide +kernel
theorem dX11_letsMake_23 : decode cX11_letsMake 23 = .ok (.aload_n 0, 1) := by decide +kernel
theorem dX11_letsMake_24 : decode cX11_letsMake 24 = .ok (.getfield 47, 3) := by decide +kernel
theorem dX11_letsMake_27 : decode cX11_letsMake 27 = .ok (.iload_n 2, 1) := by decide +kernel
theorem dX11_letsMake_28 : decode cX11_letsMake 28 = .ok (.aaload, 1) := by decide +kernel
theorem dX11_letsMake_29 : decode cX11_letsMake 29 = .ok (.iload_n 3, 1) := by decide +kernel
theorem dX11_letsMake_30 : decode cX11_letsMake 30 = .ok (.invokevirtual 469, 3) := by decide +kernel
theorem dX11_letsMake_33 : decode cX11_letsMake 33 = .ok (.ireturn, 1) := by decide +kernel
theorem dX11_soundsAsTold_0 : decode cX11_soundsAsTold 0 = .ok (.aload_n 0, 1) := by decide +kernel
theorem dX11_soundsAsTold_1 : decode cX11_soundsAsTold 1 = .ok (.getfield 41, 3) := by decide +kernel
theorem dX11_soundsAsTold_4 : decode cX11_soundsAsTold 4 = .ok (.aload_n 1, 1) := by decide +kernel
theorem dX11_soundsAsTold_5 : decode cX11_soundsAsTold 5 = .ok (.invokevirtual 459, 3) := by decide +kernel
theorem dX11_soundsAsTold_8 : decode cX11_soundsAsTold 8 = .ok (.iconst 0, 1) := by decide +kernel
theorem dX11_soundsAsTold_9 : decode cX11_soundsAsTold 9 = .ok (.istore_n 3, 1) := by decide +kernel
theorem dX11_soundsAsTold_10 : decode cX11_soundsAsTold 10 = .ok (.iload_n 3, 1) := by decide +kernel
theorem dX11_soundsAsTold_11 : decode cX11_soundsAsTold 11 = .ok (.iconst 2, 1) := by decide +kernel
theorem dX11_soundsAsTold_12 : decode cX11_soundsAsTold 12 = .ok (.if_icmp .ge 50, 3) := by decide +kernel
theorem dX11_soundsAsTold_15 : decode cX11_soundsAsTold 15 = .ok (.aload_n 2, 1) := by decide +kernel
theorem dX11_soundsAsTold_16 : decode cX11_soundsAsTold 16 = .ok (.getfield 314, 3) := by decide +kernel
theorem dX11_soundsAsTold_19 : decode cX11_soundsAsTold 19 = .ok (.iload_n 3, 1) := by decide +kernel
theorem dX11_soundsAsTold_20 : decode cX11_soundsAsTold 20 = .ok (.iaload, 1) := by decide +kernel
theorem dX11_soundsAsTold_21 : decode cX11_soundsAsTold 21 = .ok (.iconst (-1), 1) := by decide +kernel
theorem dX11_soundsAsTold_22 : decode cX11_soundsAsTold 22 = .ok (.if_icmp .eq 34, 3) := by decide +kernel
theorem dX11_soundsAsTold_25 : decode cX11_soundsAsTold 25 = .ok (.aload_n 0, 1) := by decide +kernel
theorem dX11_soundsAsTold_26 : decode cX11_soundsAsTold 26 = .ok (.getfield 47, 3) := by decide +kernel
theorem dX11_soundsAsTold_29 : decode cX11_soundsAsTold 29 = .ok (.iload_n 3, 1) := by decide +kernel
theorem dX11_soundsAsTold_30 : decode cX11_soundsAsTold 30 = .ok (.aaload, 1) := by decide +kernel
theorem dX11_soundsAsTold_31 : decode cX11_soundsAsTold 31 = .ok (.aload_n 1, 1) := by decide +kernel
theorem dX11_soundsAsTold_32 : decode cX11_soundsAsTold 32 = .ok (.iload_n 3, 1) := by decide +kernel
theorem dX11_soundsAsTold_33 : decode cX11_soundsAsTold 33 = .ok (.aload_n 0, 1) := by decide +kernel
theorem dX11_soundsAsTold_34 : decode cX11_soundsAsTold 34 = .ok (.getfield 41, 3) := by decide +kernel
theorem dX11_soundsAsTold_37 : decode cX11_soundsAsTold 37 = .ok (.invokevirtual 465, 3) := by decide +kernel
theorem dX11_soundsAsTold_40 : decode cX11_soundsAsTold 40 = .ok (.aload_n 0, 1) := by decide +kernel
theorem dX11_soundsAsTold_41 : decode cX11_soundsAsTold 41 = .ok (.getfield 47, 3) := by decide +kernel
theorem dX11_soundsAsTold_44 : decode cX11_soundsAsTold 44 = .ok (.iload_n 3, 1) := by decide +kernel
theorem dX11_soundsAsTold_45 : decode cX11_soundsAsTold 45 = .ok (.aaload, 1) := by decide +kernel
theorem dX11_soundsAsTold_46 : decode cX11_soundsAsTold 46 = .ok (.aload_n 2, 1) := by decide +kernel
theorem dX11_soundsAsTold_47 : decode cX11_soundsAsTold 47 = .ok (.iload_n 3, 1) := by decide +kernel
theorem dX11_soundsAsTold_48 : decode cX11_soundsAsTold 48 = .ok (.invokevirtual 472, 3) := by decide +kernel
theorem dX11_soundsAsTold_51 : decode cX11_soundsAsTold 51 = .ok (.ifCond .ne 5, 3) := by decide +kernel
theorem dX11_soundsAsTold_54 : decode cX11_soundsAsTold 54 = .ok (.iconst 0, 1) := by decide +kernel
theorem dX11_soundsAsTold_55 : decode cX11_soundsAsTold 55 = .ok (.ireturn, 1) := by decide +kernel
theorem dX11_soundsAsTold_56 : decode cX11_soundsAsTold 56 = .ok (.iinc 3 1, 3) := by decide +kernel
theorem dX11_soundsAsTold_59 : decode cX11_soundsAsTold 59 = .ok (.goto (-49), 3) := by decide +kernel
theorem dX11_soundsAsTold_62 : decode cX11_soundsAsTold 62 = .ok (.iconst 1, 1) := by decide +kernel
theorem dX11_soundsAsTold_63 : decode cX11_soundsAsTold 63 = .ok (.ireturn, 1) := by decide +kernel
theorem dX5_init_0 : decode cX5_init 0 = .ok (.aload_n 0, 1) := by decide +kernel
theorem dX5_init_1 : decode cX5_init 1 = .ok (.invokespecial 3, 3) := by decide +kernel
theorem dX5_init_4 : decode cX5_init 4 = .ok (.aload_n 0, 1) := by decide +kernel
theorem dX5_init_5 : decode cX5_init 5 = .ok (.new 9, 3) := by decide +kernel
theorem dX5_init_8 : decode cX5_init 8 = .ok (.dup, 1) := by decide +kernel
theorem dX5_init_9 : decode cX5_init 9 = .ok (.invokespecial 11, 3) := by decide +kernel
theorem dX5_init_12 : decode cX5_init 12 = .ok (.putfield 12, 3) := by decide +kernel
theorem dX5_init_15 : decode cX5_init 15 = .ok (.aload_n 0, 1) := by decide +kernel
theorem dX5_init_16 : decode cX5_init 16 = .ok (.new 18, 3) := by decide +kernel
theorem dX5_init_19 : decode cX5_init 19 = .ok (.dup, 1) := by decide +kernel
theorem dX5_init_20 : decode cX5_init 20 = .ok (.invokespecial 20, 3) := by decide +kernel
theorem dX5_init_23 : decode cX5_init 23 = .ok (.putfield 21, 3) := by decide +kernel
theorem dX5_init_26 : decode cX5_init 26 = .ok (.aload_n 0, 1) := by decide +kernel
theorem dX5_init_27 : decode cX5_init 27 = .ok (.new 25, 3) := by decide +kernel
theorem dX5_init_30 : decode cX5_init 30 = .ok (.dup, 1) := by decide +kernel
theorem dX5_init_31 : decode cX5_init 31 = .ok (.invokespecial 27, 3) := by decide +kernel
theorem dX5_init_34 : decode cX5_init 34 = .ok (.putfield 28, 3) := by decide +kernel
theorem dX5_init_37 : decode cX5_init 37 = .ok (.aload_n 0, 1) := by decide +kernel
theorem dX5_init_38 : decode cX5_init 38 = .ok (.new 32, 3) := by decide +kernel
theorem dX5_init_41 : decode cX5_init 41 = .ok (.dup, 1) := by decide +kernel
theorem dX5_init_42 : decode cX5_init 42 = .ok (.invokespecial 34, 3) := by decide +kernel
theorem dX5_init_45 : decode cX5_init 45 = .ok (.putfield 35, 3) := by decide +kernel
theorem dX5_init_48 : decode cX5_init 48 = .ok (.aload_n 0, 1) := by decide +kernel
theorem dX5_init_49 : decode cX5_init 49 = .ok (.iconst 0, 1) := by decide +kernel
theorem dX5_init_50 : decode cX5_init 50 = .ok (.putfield 39, 3) := by decide +kernel
theorem dX5_init_53 : decode cX5_init 53 = .ok (.aload_n 0, 1) := by decide +kernel
theorem dX5_init_54 : decode cX5_init 54 = .ok (.iconst (-1), 1) := by decide +kernel
theorem dX5_init_55 : decode cX5_init 55 = .ok (.putfield 43, 3) := by decide +kernel
theorem dX5_init_58 : decode cX5_init 58 = .ok (.aload_n 0, 1) := by decide +kernel
theorem dX5_init_59 : decode cX5_init 59 = .ok (.sipush 601, 3) := by decide +kernel
theorem dX5_init_62 : decode cX5_init 62 = .ok (.newarray .int, 2) := by decide +kernel
theorem dX5_init_64 : decode cX5_init 64 = .ok (.putfield 46, 3) := by decide +kernel
theorem dX5_init_67 : decode cX5_init 67 = .ok (.aload_n 0, 1) := by decide +kernel
theorem dX5_init_68 : decode cX5_init 68 = .ok (.sipush 601, 3) := by decide +kernel
theorem dX5_init_71 : decode cX5_init 71 = .ok (.newarray .int, 2) := by decide +kernel
theorem dX5_init_73 : decode cX5_init 73 = .ok (.putfield 50, 3) := by decide +kernel
theorem dX5_init_76 : decode cX5_init 76 = .ok (.aload_n 0, 1) := by decide +kernel
theorem dX5_init_77 : decode cX5_init 77 = .ok (.sipush 601, 3) := by decide +kernel
theorem dX5_init_80 : decode cX5_init 80 = .ok (.newarray .int, 2) := by decide +kernel
theorem dX5_init_82 : decode cX5_init 82 = .ok (.putfield 53, 3) := by decide +kernel
theorem dX5_init_85 : decode cX5_init 85 = .ok (.aload_n 0, 1) := by decide +kernel
theorem dX5_init_86 : decode cX5_init 86 = .ok (.iconst 0, 1) := by decide +kernel
theorem dX5_init_87 : decode cX5_init 87 = .ok (.putfield 56, 3) := by decide +kernel
theorem dX5_init_90 : decode cX5_init 90 = .ok (.aload_n 0, 1) := by decide +kernel
theorem dX5_init_91 : decode cX5_init 91 = .ok (.iconst 0, 1) := by decide +kernel
theorem dX5_init_92 : decode cX5_init 92 = .ok (.putfield 59, 3) := by decide +kernel
theorem dX5_init_95 : decode cX5_init 95 = .ok (.aload_n 0, 1) := by decide +kernel
theorem dX5_init_96 : decode cX5_init 96 = .ok (.iconst 0, 1) := by decide +kernel
theorem dX5_init_97 : decode cX5_init 97 = .ok (.putfield 62, 3) := by decide +kernel
theorem dX5_init_100 : decode cX5_init 100 = .ok (.aload_n 0, 1) := by decide +kernel
theorem dX5_init_101 : decode cX5_init 101 = .ok (.iconst 0, 1) := by decide +kernel
theorem dX5_init_102 : decode cX5_init 102 = .ok (.putfield 65, 3) := by decide +kernel
theorem dX5_init_105 : decode cX5_init 105 = .ok (.aload_n 0, 1) := by decide +kernel
theorem dX5_init_106 : decode cX5_init 106 = .ok (.iconst (-1), 1) := by decide +kernel
theorem dX5_init_107 : decode cX5_init 107 = .ok (.putfield 68, 3) := by decide +kernel
theorem dX5_init_110 : decode cX5_init 110 = .ok (.aload_n 0, 1) := by decide +kernel
theorem dX5_init_111 : decode cX5_init 111 = .ok (.iconst (-1), 1) := by decide +kernel
theorem dX5_init_112 : decode cX5_init 112 = .ok (.putfield 71, 3) := by decide +kernel
theorem dX5_init_115 : decode cX5_init 115 = .ok (.return_, 1) := by decide +kernel
theorem dX5_read_0 : decode cX5_read 0 = .ok (.aload_n 0, 1) := by decide +kernel
theorem dX5_read_1 : decode cX5_read 1 = .ok (.aload_n 1, 1) := by decide +kernel
theorem dX5_read_2 : decode cX5_read 2 = .ok (.iload_n 2, 1) := by decide +kernel
theorem dX5_read_3 : decode cX5_read 3 = .ok (.aload_n 1, 1) := by decide +kernel
theorem dX5_read_4 : decode cX5_read 4 = .ok (.arraylength, 1) := by decide +kernel
theorem dX5_read_5 : decode cX5_read 5 = .ok (.invokestatic 74, 3) := by decide +kernel
theorem dX5_read_8 : decode cX5_read 8 = .ok (.invokevirtual 80, 3) := by decide +kernel
theorem dX5_read_11 : decode cX5_read 11 = .ok (.aload_n 0, 1) := by decide +kernel
theorem dX5_read_12 : decode cX5_read 12 = .ok (.iconst 0, 1) := by decide +kernel
theorem dX5_read_13 : decode cX5_read 13 = .ok (.putfield 59, 3) := by decide +kernel
theorem dX5_read_16 : decode cX5_read 16 = .ok (.aload_n 0, 1) := by decide +kernel
theorem dX5_read_17 : decode cX5_read 17 = .ok (.iconst 0, 1) := by decide +kernel
theorem dX5_read_18 : decode cX5_read 18 = .ok (.putfield 39, 3) := by decide +kernel
theorem dX5_read_21 : decode cX5_read 21 = .ok (.aload_n 0, 1) := by decide +kernel
theorem dX5_read_22 : decode cX5_read 22 = .ok (.iconst (-1), 1) := by decide +kernel
theorem dX5_read_23 : decode cX5_read 23 = .ok (.putfield 43, 3) := by decide +kernel
theorem dX5_read_26 : decode cX5_read 26 = .ok (.aload_n 0, 1) := by decide +kernel
theorem dX5_read_27 : decode cX5_read 27 = .ok (.invokevirtual 84, 3) := by decide +kernel
theorem dX5_read_30 : decode cX5_read 30 = .ok (.aload_n 0, 1) := by decide +kernel
theorem dX5_read_31 : decode cX5_read 31 = .ok (.invokevirtual 87, 3) := by decide +kernel
theorem dX5_read_34 : decode cX5_read 34 = .ok (.iconst 0, 1) := by decide +kernel
theorem dX5_read_35 : decode cX5_read 35 = .ok (.istore 4, 2) := by decide +kernel
theorem dX5_read_37 : decode cX5_read 37 = .ok (.iload 4, 2) := by decide +kernel
theorem dX5_read_39 : decode cX5_read 39 = .ok (.sipush 600, 3) := by decide +kernel
theorem dX5_read_42 : decode cX5_read 42 = .ok (.if_icmp .gt 38, 3) := by decide +kernel
theorem dX5_read_45 : decode cX5_read 45 = .ok (.aload_n 0, 1) := by decide +kernel
theorem dX5_read_46 : decode cX5_read 46 = .ok (.getfield 62, 3) := by decide +kernel
theorem dX5_read_49 : decode cX5_read 49 = .ok (.ifCond .eq 31, 3) := by decide +kernel
theorem dX5_read_52 : decode cX5_read 52 = .ok (.aload_n 0, 1) := by decide +kernel
theorem dX5_read_53 : decode cX5_read 53 = .ok (.iload_n 3, 1) := by decide +kernel
theorem dX5_read_54 : decode cX5_read 54 = .ok (.invokevirtual 90, 3) := by decide +kernel
theorem dX5_read_57 : decode cX5_read 57 = .ok (.ifCond .ne 17, 3) := by decide +kernel
theorem dX5_read_60 : decode cX5_read 60 = .ok (.aload_n 0, 1) := by decide +kernel
theorem dX5_read_61 : decode cX5_read 61 = .ok (.iconst 1, 1) := by decide +kernel
theorem dX5_read_62 : decode cX5_read 62 = .ok (.putfield 39, 3) := by decide +kernel
theorem dX5_read_65 : decode cX5_read 65 = .ok (.aload_n 0, 1) := by decide +kernel
theorem dX5_read_66 : decode cX5_read 66 = .ok (.aload_n 0, 1) := by decide +kernel
theorem dX5_read_67 : decode cX5_read 67 = .ok (.getfield 65, 3) := by decide +kernel
theorem dX5_read_70 : decode cX5_read 70 = .ok (.putfield 43, 3) := by decide +kernel
theorem dX5_read_73 : decode cX5_read 73 = .ok (.return_, 1) := by decide +kernel
theorem dX5_read_74 : decode cX5_read 74 = .ok (.iinc 4 1, 3) := by decide +kernel
theorem dX5_read_77 : decode cX5_read 77 = .ok (.goto (-40), 3) := by decide +kernel
theorem dX5_read_80 : decode cX5_read 80 = .ok (.return_, 1) := by decide +kernel
theorem dX5_resetDrafts_0 : decode cX5_resetDrafts 0 = .ok (.aload_n 0, 1) := by decide +kernel
theorem dX5_resetDrafts_1 : decode cX5_resetDrafts 1 = .ok (.getfield 12, 3) := by decide +kernel
theorem dX5_resetDrafts_4 : decode cX5_resetDrafts 4 = .ok (.invokevirtual 94, 3) := by decide +kernel
theorem dX5_resetDrafts_7 : decode cX5_resetDrafts 7 = .ok (.aload_n 0, 1) := by decide +kernel
theorem dX5_resetDrafts_8 : decode cX5_resetDrafts 8 = .ok (.getfield 21, 3) := by decide +kernel
theorem dX5_resetDrafts_11 : decode cX5_resetDrafts 11 = .ok (.invokevirtual 97, 3) := by decide +kernel
theorem dX5_resetDrafts_14 : decode cX5_resetDrafts 14 = .ok (.aload_n 0, 1) := by decide +kernel
theorem dX5_resetDrafts_15 : decode cX5_resetDrafts 15 = .ok (.getfield 28, 3) := by decide +kernel
theorem dX5_resetDrafts_18 : decode cX5_resetDrafts 18 = .ok (.invokevirtual 98, 3) := by decide +kernel
theorem dX5_resetDrafts_21 : decode cX5_resetDrafts 21 = .ok (.aload_n 0, 1) := by decide +kernel
theorem dX5_resetDrafts_22 : decode cX5_resetDrafts 22 = .ok (.getfield 35, 3) := by decide +kernel
theorem dX5_resetDrafts_25 : decode cX5_resetDrafts 25 = .ok (.iconst 0, 1) := by decide +kernel
theorem dX5_resetDrafts_26 : decode cX5_resetDrafts 26 = .ok (.putfield 99, 3) := by decide +kernel
theorem dX5_resetDrafts_29 : decode cX5_resetDrafts 29 = .ok (.return_, 1) := by decide +kernel
theorem dX5_readLine_0 : decode cX5_readLine 0 = .ok (.aload_n 0, 1) := by decide +kernel
theorem dX5_readLine_1 : decode cX5_readLine 1 = .ok (.getfield 62, 3) := by decide +kernel
theorem dX5_readLine_4 : decode cX5_readLine 4 = .ok (.iconst 1, 1) := by decide +kernel
theorem dX5_readLine_5 : decode cX5_readLine 5 = .ok (.if_icmp .ne 10, 3) := by decide +kernel
theorem dX5_readLine_8 : decode cX5_readLine 8 = .ok (.aload_n 0, 1) := by decide +kernel
theorem dX5_readLine_9 : decode cX5_readLine 9 = .ok (.getfield 68, 3) := by decide +kernel
theorem dX5_readLine_12 : decode cX5_readLine 12 = .ok (.goto 4, 3) := by decide +kernel
theorem dX5_readLine_15 : decode cX5_readLine 15 = .ok (.iconst (-1), 1) := by decide +kernel
theorem dX5_readLine_16 : decode cX5_readLine 16 = .ok (.istore_n 2, 1) := by decide +kernel
theorem dX5_readLine_17 : decode cX5_readLine 17 = .ok (.aload_n 0, 1) := by decide +kernel
theorem dX5_readLine_18 : decode cX5_readLine 18 = .ok (.getfield 65, 3) := by decide +kernel
theorem dX5_readLine_21 : decode cX5_readLine 21 = .ok (.istore_n 3, 1) := by decide +kernel
theorem dX5_readLine_22 : decode cX5_readLine 22 = .ok (.iload_n 1, 1) := by decide +kernel
theorem dX5_readLine_23 : decode cX5_readLine 23 = .ok (.tableswitch 56 0 2 #[25, 36, 46], 25) := by decide +kernel
theorem dX5_readLine_48 : decode cX5_readLine 48 = .ok (.aload_n 0, 1) := by decide +kernel
theorem dX5_readLine_49 : decode cX5_readLine 49 = .ok (.iload_n 2, 1) := by decide +kernel
theorem dX5_readLine_50 : decode cX5_readLine 50 = .ok (.iload_n 3, 1) := by decide +kernel
theorem dX5_readLine_51 : decode cX5_readLine 51 = .ok (.invokevirtual 102, 3) := by decide +kernel
theorem dX5_readLine_54 : decode cX5_readLine 54 = .ok (.istore 4, 2) := by decide +kernel
theorem dX5_readLine_56 : decode cX5_readLine 56 = .ok (.goto 31, 3) := by decide +kernel
theorem dX5_readLine_59 : decode cX5_readLine 59 = .ok (.aload_n 0, 1) := by decide +kernel
theorem dX5_readLine_60 : decode cX5_readLine 60 = .ok (.iload_n 2, 1) := by decide +kernel
theorem dX5_readLine_61 : decode cX5_readLine 61 = .ok (.invokevirtual 106, 3) := by decide +kernel
theorem dX5_readLine_64 : decode cX5_readLine 64 = .ok (.istore 4, 2) := by decide +kernel
theorem dX5_readLine_66 : decode cX5_readLine 66 = .ok (.goto 21, 3) := by decide +kernel
theorem dX5_readLine_69 : decode cX5_readLine 69 = .ok (.aload_n 0, 1) := by decide +kernel
theorem dX5_readLine_70 : decode cX5_readLine 70 = .ok (.iload_n 2, 1) := by decide +kernel
theorem dX5_readLine_71 : decode cX5_readLine 71 = .ok (.invokevirtual 109, 3) := by decide +kernel
theorem dX5_readLine_74 : decode cX5_readLine 74 = .ok (.istore 4, 2) := by decide +kernel
theorem dX5_readLine_76 : decode cX5_readLine 76 = .ok (.goto 11, 3) := by decide +kernel
theorem dX5_readLine_79 : decode cX5_readLine 79 = .ok (.aload_n 0, 1) := by decide +kernel
theorem dX5_readLine_80 : decode cX5_readLine 80 = .ok (.iload_n 2, 1) := by decide +kernel
theorem dX5_readLine_81 : decode cX5_readLine 81 = .ok (.iload_n 3, 1) := by decide +kernel
theorem dX5_readLine_82 : decode cX5_readLine 82 = .ok (.invokevirtual 112, 3) := by decide +kernel
theorem dX5_readLine_85 : decode cX5_readLine 85 = .ok (.istore 4, 2) := by decide +kernel
theorem dX5_readLine_87 : decode cX5_readLine 87 = .ok (.iload 4, 2) := by decide +kernel
theorem dX5_readLine_89 : decode cX5_readLine 89 = .ok (.ifCond .eq 14, 3) := by decide +kernel
theorem dX5_readLine_92 : decode cX5_readLine 92 = .ok (.aload_n 0, 1) := by decide +kernel
theorem dX5_readLine_93 : decode cX5_readLine 93 = .ok (.invokevirtual 115, 3) := by decide +kernel
theorem dX5_readLine_96 : decode cX5_readLine 96 = .ok (.ifCond .eq 7, 3) := by decide +kernel
theorem dX5_readLine_99 : decode cX5_readLine 99 = .ok (.iconst 1, 1) := by decide +kernel
theorem dX5_readLine_100 : decode cX5_readLine 100 = .ok (.goto 4, 3) := by decide +kernel
theorem dX5_readLine_103 : decode cX5_readLine 103 = .ok (.iconst 0, 1) := by decide +kernel
theorem dX5_readLine_104 : decode cX5_readLine 104 = .ok (.ireturn, 1) := by decide +kernel
theorem dX5_readWarLine_0 : decode cX5_readWarLine 0 = .ok (.iload_n 1, 1) := by decide +kernel
theorem dX5_readWarLine_1 : decode cX5_readWarLine 1 = .ok (.bipush 9, 2) := by decide +kernel
theorem dX5_readWarLine_3 : decode cX5_readWarLine 3 = .ok (.if_icmp .lt 9, 3) := by decide +kernel
theorem dX5_readWarLine_6 : decode cX5_readWarLine 6 = .ok (.iload_n 1, 1) := by decide +kernel
theorem dX5_readWarLine_7 : decode cX5_readWarLine 7 = .ok (.bipush 17, 2) := by decide +kernel
theorem dX5_readWarLine_9 : decode cX5_readWarLine 9 = .ok (.if_icmp .le 5, 3) := by decide +kernel
theorem dX5_readWarLine_12 : decode cX5_readWarLine 12 = .ok (.iconst 0, 1) := by decide +kernel
theorem dX5_readWarLine_13 : decode cX5_readWarLine 13 = .ok (.ireturn, 1) := by decide +kernel
theorem dX5_readWarLine_14 : decode cX5_readWarLine 14 = .ok (.aload_n 0, 1) := by decide +kernel
theorem dX5_readWarLine_15 : decode cX5_readWarLine 15 = .ok (.invokevirtual 87, 3) := by decide +kernel
theorem dX5_readWarLine_18 : decode cX5_readWarLine 18 = .ok (.iload_n 1, 1) := by decide +kernel
theorem dX5_readWarLine_19 : decode cX5_readWarLine 19 = .ok (.bipush 17, 2) := by decide +kernel
theorem dX5_readWarLine_21 : decode cX5_readWarLine 21 = .ok (.if_icmp .ne 9, 3) := by decide +kernel
theorem dX5_readWarLine_24 : decode cX5_readWarLine 24 = .ok (.aload_n 0, 1) := by decide +kernel
theorem dX5_readWarLine_25 : decode cX5_readWarLine 25 = .ok (.iload_n 2, 1) := by decide +kernel
theorem dX5_readWarLine_26 : decode cX5_readWarLine 26 = .ok (.invokevirtual 119, 3) := by decide +kernel
theorem dX5_readWarLine_29 : decode cX5_readWarLine 29 = .ok (.ireturn, 1) := by decide +kernel
theorem dX5_readWarLine_30 : decode cX5_readWarLine 30 = .ok (.iload_n 1, 1) := by decide +kernel
theorem dX5_readWarLine_31 : decode cX5_readWarLine 31 = .ok (.bipush 12, 2) := by decide +kernel
theorem dX5_readWarLine_33 : decode cX5_readWarLine 33 = .ok (.if_icmp .ne 8, 3) := by decide +kernel
theorem dX5_readWarLine_36 : decode cX5_readWarLine 36 = .ok (.aload_n 0, 1) := by decide +kernel
theorem dX5_readWarLine_37 : decode cX5_readWarLine 37 = .ok (.invokevirtual 122, 3) := by decide +kernel
theorem dX5_readWarLine_40 : decode cX5_readWarLine 40 = .ok (.ireturn, 1) := by decide +kernel
theorem dX5_readWarLine_41 : decode cX5_readWarLine 41 = .ok (.iload_n 1, 1) := by decide +kernel
theorem dX5_readWarLine_42 : decode cX5_readWarLine 42 = .ok (.bipush 12, 2) := by decide +kernel
theorem dX5_readWarLine_44 : decode cX5_readWarLine 44 = .ok (.if_icmp .ge 11, 3) := by decide +kernel
theorem dX5_readWarLine_47 : decode cX5_readWarLine 47 = .ok (.aload_n 0, 1) := by decide +kernel
theorem dX5_readWarLine_48 : decode cX5_readWarLine 48 = .ok (.iload_n 1, 1) := by decide +kernel
theorem dX5_readWarLine_49 : decode cX5_readWarLine 49 = .ok (.invokevirtual 125, 3) := by decide +kernel
theorem dX5_readWarLine_52 : decode cX5_readWarLine 52 = .ok (.goto 8, 3) := by decide +kernel
theorem dX5_readWarLine_55 : decode cX5_readWarLine 55 = .ok (.aload_n 0, 1) := by decide +kernel
theorem dX5_readWarLine_56 : decode cX5_readWarLine 56 = .ok (.iload_n 1, 1) := by decide +kernel
theorem dX5_readWarLine_57 : decode cX5_readWarLine 57 = .ok (.invokevirtual 128, 3) := by decide +kernel
theorem dX5_readWarLine_60 : decode cX5_readWarLine 60 = .ok (.ireturn, 1) := by decide +kernel
theorem dX5_readOfDrum_0 : decode cX5_readOfDrum 0 = .ok (.iload_n 1, 1) := by decide +kernel
theorem dX5_readOfDrum_1 : decode cX5_readOfDrum 1 = .ok (.bipush 9, 2) := by decide +kernel
theorem dX5_readOfDrum_3 : decode cX5_readOfDrum 3 = .ok (.if_icmp .ne 7, 3) := by decide +kernel
theorem dX5_readOfDrum_6 : decode cX5_readOfDrum 6 = .ok (.iconst 1, 1) := by decide +kernel
theorem dX5_readOfDrum_7 : decode cX5_readOfDrum 7 = .ok (.goto 4, 3) := by decide +kernel
theorem dX5_readOfDrum_10 : decode cX5_readOfDrum 10 = .ok (.iconst 0, 1) := by decide +kernel
theorem dX5_readOfDrum_11 : decode cX5_readOfDrum 11 = .ok (.istore_n 2, 1) := by decide +kernel
theorem dX5_readOfDrum_12 : decode cX5_readOfDrum 12 = .ok (.aload_n 0, 1) := by decide +kernel
theorem dX5_readOfDrum_13 : decode cX5_readOfDrum 13 = .ok (.iload_n 2, 1) := by decide +kernel
theorem dX5_readOfDrum_14 : decode cX5_readOfDrum 14 = .ok (.ifCond .eq 7, 3) := by decide +kernel
theorem dX5_readOfDrum_17 : decode cX5_readOfDrum 17 = .ok (.iconst 1, 1) := by decide +kernel
theorem dX5_readOfDrum_18 : decode cX5_readOfDrum 18 = .ok (.goto 4, 3) := by decide +kernel
theorem dX5_readOfDrum_21 : decode cX5_readOfDrum 21 = .ok (.iconst 0, 1) := by decide +kernel
theorem dX5_readOfDrum_22 : decode cX5_readOfDrum 22 = .ok (.iload_n 2, 1) := by decide +kernel
theorem dX5_readOfDrum_23 : decode cX5_readOfDrum 23 = .ok (.ifCond .eq 7, 3) := by decide +kernel
theorem dX5_readOfDrum_26 : decode cX5_readOfDrum 26 = .ok (.iconst 4, 1) := by decide +kernel
theorem dX5_readOfDrum_27 : decode cX5_readOfDrum 27 = .ok (.goto 5, 3) := by decide +kernel
theorem dX5_readOfDrum_30 : decode cX5_readOfDrum 30 = .ok (.bipush 9, 2) := by decide +kernel
theorem dX5_readOfDrum_32 : decode cX5_readOfDrum 32 = .ok (.invokevirtual 131, 3) := by decide +kernel
theorem dX5_readOfDrum_35 : decode cX5_readOfDrum 35 = .ok (.ifCond .ne 5, 3) := by decide +kernel
theorem dX5_readOfDrum_38 : decode cX5_readOfDrum 38 = .ok (.iconst 0, 1) := by decide +kernel
theorem dX5_readOfDrum_39 : decode cX5_readOfDrum 39 = .ok (.ireturn, 1) := by decide +kernel
theorem dX5_readOfDrum_40 : decode cX5_readOfDrum 40 = .ok (.aload_n 0, 1) := by decide +kernel
theorem dX5_readOfDrum_41 : decode cX5_readOfDrum 41 = .ok (.getfield 71, 3) := by decide +kernel
theorem dX5_readOfDrum_44 : decode cX5_readOfDrum 44 = .ok (.iconst (-1), 1) := by decide +kernel
theorem dX5_readOfDrum_45 : decode cX5_readOfDrum 45 = .ok (.if_icmp .ne 5, 3) := by decide +kernel
theorem dX5_readOfDrum_48 : decode cX5_readOfDrum 48 = .ok (.iconst 1, 1) := by decide +kernel
theorem dX5_readOfDrum_49 : decode cX5_readOfDrum 49 = .ok (.ireturn, 1) := by decide +kernel
theorem dX5_readOfDrum_50 : decode cX5_readOfDrum 50 = .ok (.iload_n 2, 1) := by decide +kernel
theorem dX5_readOfDrum_51 : decode cX5_readOfDrum 51 = .ok (.ifCond .eq 17, 3) := by decide +kernel
theorem dX5_readOfDrum_54 : decode cX5_readOfDrum 54 = .ok (.aload_n 0, 1) := by decide +kernel
theorem dX5_readOfDrum_55 : decode cX5_readOfDrum 55 = .ok (.getfield 12, 3) := by decide +kernel
theorem dX5_readOfDrum_58 : decode cX5_readOfDrum 58 = .ok (.aload_n 0, 1) := by decide +kernel
theorem dX5_readOfDrum_59 : decode cX5_readOfDrum 59 = .ok (.getfield 71, 3) := by decide +kernel
theorem dX5_readOfDrum_62 : decode cX5_readOfDrum 62 = .ok (.putfield 134, 3) := by decide +kernel
theorem dX5_readOfDrum_65 : decode cX5_readOfDrum 65 = .ok (.goto 34, 3) := by decide +kernel
theorem dX5_readOfDrum_68 : decode cX5_readOfDrum 68 = .ok (.iload_n 1, 1) := by decide +kernel
theorem dX5_readOfDrum_69 : decode cX5_readOfDrum 69 = .ok (.bipush 10, 2) := by decide +kernel
theorem dX5_readOfDrum_71 : decode cX5_readOfDrum 71 = .ok (.if_icmp .ne 17, 3) := by decide +kernel
theorem dX5_readOfDrum_74 : decode cX5_readOfDrum 74 = .ok (.aload_n 0, 1) := by decide +kernel
theorem dX5_readOfDrum_75 : decode cX5_readOfDrum 75 = .ok (.getfield 12, 3) := by decide +kernel
theorem dX5_readOfDrum_78 : decode cX5_readOfDrum 78 = .ok (.aload_n 0, 1) := by decide +kernel
theorem dX5_readOfDrum_79 : decode cX5_readOfDrum 79 = .ok (.getfield 71, 3) := by decide +kernel
theorem dX5_readOfDrum_82 : decode cX5_readOfDrum 82 = .ok (.putfield 137, 3) := by decide +kernel
theorem dX5_readOfDrum_85 : decode cX5_readOfDrum 85 = .ok (.goto 14, 3) := by decide +kernel
theorem dX5_readOfDrum_88 : decode cX5_readOfDrum 88 = .ok (.aload_n 0, 1) := by decide +kernel
theorem dX5_readOfDrum_89 : decode cX5_readOfDrum 89 = .ok (.getfield 12, 3) := by decide +kernel
theorem dX5_readOfDrum_92 : decode cX5_readOfDrum 92 = .ok (.aload_n 0, 1) := by decide +kernel
theorem dX5_readOfDrum_93 : decode cX5_readOfDrum 93 = .ok (.getfield 71, 3) := by decide +kernel
theorem dX5_readOfDrum_96 : decode cX5_readOfDrum 96 = .ok (.putfield 140, 3) := by decide +kernel
theorem dX5_readOfDrum_99 : decode cX5_readOfDrum 99 = .ok (.iconst 1, 1) := by decide +kernel
theorem dX5_readOfDrum_100 : decode cX5_readOfDrum 100 = .ok (.ireturn, 1) := by decide +kernel
theorem dX5_readWet_0 : decode cX5_readWet 0 = .ok (.aload_n 0, 1) := by decide +kernel
theorem dX5_readWet_1 : decode cX5_readWet 1 = .ok (.invokevirtual 143, 3) := by decide +kernel
theorem dX5_readWet_4 : decode cX5_readWet 4 = .ok (.ifCond .ne 5, 3) := by decide +kernel
theorem dX5_readWet_7 : decode cX5_readWet 7 = .ok (.iconst 0, 1) := by decide +kernel
theorem dX5_readWet_8 : decode cX5_readWet 8 = .ok (.ireturn, 1) := by decide +kernel
theorem dX5_readWet_9 : decode cX5_readWet 9 = .ok (.aload_n 0, 1) := by decide +kernel
theorem dX5_readWet_10 : decode cX5_readWet 10 = .ok (.getfield 71, 3) := by decide +kernel
theorem dX5_readWet_13 : decode cX5_readWet 13 = .ok (.istore_n 1, 1) := by decide +kernel
theorem dX5_readWet_14 : decode cX5_readWet 14 = .ok (.aload_n 0, 1) := by decide +kernel
theorem dX5_readWet_15 : decode cX5_readWet 15 = .ok (.invokevirtual 143, 3) := by decide +kernel
theorem dX5_readWet_18 : decode cX5_readWet 18 = .ok (.ifCond .ne 5, 3) := by decide +kernel
theorem dX5_readWet_21 : decode cX5_readWet 21 = .ok (.iconst 0, 1) := by decide +kernel
theorem dX5_readWet_22 : decode cX5_readWet 22 = .ok (.ireturn, 1) := by decide +kernel
theorem dX5_readWet_23 : decode cX5_readWet 23 = .ok (.aload_n 0, 1) := by decide +kernel
theorem dX5_readWet_24 : decode cX5_readWet 24 = .ok (.getfield 12, 3) := by decide +kernel
theorem dX5_readWet_27 : decode cX5_readWet 27 = .ok (.getfield 146, 3) := by decide +kernel
theorem dX5_readWet_30 : decode cX5_readWet 30 = .ok (.iload_n 1, 1) := by decide +kernel
theorem dX5_readWet_31 : decode cX5_readWet 31 = .ok (.aload_n 0, 1) := by decide +kernel
theorem dX5_readWet_32 : decode cX5_readWet 32 = .ok (.getfield 71, 3) := by decide +kernel
theorem dX5_readWet_35 : decode cX5_readWet 35 = .ok (.iastore, 1) := by decide +kernel
theorem dX5_readWet_36 : decode cX5_readWet 36 = .ok (.iconst 1, 1) := by decide +kernel
theorem dX5_readWet_37 : decode cX5_readWet 37 = .ok (.ireturn, 1) := by decide +kernel
theorem dX5_readOfArmy_0 : decode cX5_readOfArmy 0 = .ok (.aload_n 0, 1) := by decide +kernel
theorem dX5_readOfArmy_1 : decode cX5_readOfArmy 1 = .ok (.iconst 0, 1) := by decide +kernel
theorem dX5_readOfArmy_2 : decode cX5_readOfArmy 2 = .ok (.iconst 1, 1) := by decide +kernel
theorem dX5_readOfArmy_3 : decode cX5_readOfArmy 3 = .ok (.invokevirtual 131, 3) := by decide +kernel
theorem dX5_readOfArmy_6 : decode cX5_readOfArmy 6 = .ok (.ifCond .ne 5, 3) := by decide +kernel
theorem dX5_readOfArmy_9 : decode cX5_readOfArmy 9 = .ok (.iconst 0, 1) := by decide +kernel
theorem dX5_readOfArmy_10 : decode cX5_readOfArmy 10 = .ok (.ireturn, 1) := by decide +kernel
theorem dX5_readOfArmy_11 : decode cX5_readOfArmy 11 = .ok (.aload_n 0, 1) := by decide +kernel
theorem dX5_readOfArmy_12 : decode cX5_readOfArmy 12 = .ok (.getfield 71, 3) := by decide +kernel
theorem dX5_readOfArmy_15 : decode cX5_readOfArmy 15 = .ok (.istore_n 2, 1) := by decide +kernel
theorem dX5_readOfArmy_16 : decode cX5_readOfArmy 16 = .ok (.aload_n 0, 1) := by decide +kernel
theorem dX5_readOfArmy_17 : decode cX5_readOfArmy 17 = .ok (.iload_n 1, 1) := by decide +kernel
theorem dX5_readOfArmy_18 : decode cX5_readOfArmy 18 = .ok (.bipush 14, 2) := by decide +kernel
theorem dX5_readOfArmy_20 : decode cX5_readOfArmy 20 = .ok (.if_icmp .ne 7, 3) := by decide +kernel
theorem dX5_readOfArmy_23 : decode cX5_readOfArmy 23 = .ok (.iconst 1, 1) := by decide +kernel
theorem dX5_readOfArmy_24 : decode cX5_readOfArmy 24 = .ok (.goto 4, 3) := by decide +kernel
theorem dX5_readOfArmy_27 : decode cX5_readOfArmy 27 = .ok (.iconst 0, 1) := by decide +kernel
theorem dX5_readOfArmy_28 : decode cX5_readOfArmy 28 = .ok (.iload_n 1, 1) := by decide +kernel
theorem dX5_readOfArmy_29 : decode cX5_readOfArmy 29 = .ok (.invokestatic 149, 3) := by decide +kernel
theorem dX5_readOfArmy_32 : decode cX5_readOfArmy 32 = .ok (.invokevirtual 131, 3) := by decide +kernel
theorem dX5_readOfArmy_35 : decode cX5_readOfArmy 35 = .ok (.ifCond .ne 5, 3) := by decide +kernel
theorem dX5_readOfArmy_38 : decode cX5_readOfArmy 38 = .ok (.iconst 0, 1) := by decide +kernel
theorem dX5_readOfArmy_39 : decode cX5_readOfArmy 39 = .ok (.ireturn, 1) := by decide +kernel
theorem dX5_readOfArmy_40 : decode cX5_readOfArmy 40 = .ok (.iload_n 2, 1) := by decide +kernel
theorem dX5_readOfArmy_41 : decode cX5_readOfArmy 41 = .ok (.iconst (-1), 1) := by decide +kernel
theorem dX5_readOfArmy_42 : decode cX5_readOfArmy 42 = .ok (.if_icmp .eq 11, 3) := by decide +kernel
theorem dX5_readOfArmy_45 : decode cX5_readOfArmy 45 = .ok (.aload_n 0, 1) := by decide +kernel
theorem dX5_readOfArmy_46 : decode cX5_readOfArmy 46 = .ok (.getfield 71, 3) := by decide +kernel
theorem dX5_readOfArmy_49 : decode cX5_readOfArmy 49 = .ok (.iconst (-1), 1) := by decide +kernel
theorem dX5_readOfArmy_50 : decode cX5_readOfArmy 50 = .ok (.if_icmp .ne 5, 3) := by decide +kernel
theorem dX5_readOfArmy_53 : decode cX5_readOfArmy 53 = .ok (.iconst 1, 1) := by decide +kernel
theorem dX5_readOfArmy_54 : decode cX5_readOfArmy 54 = .ok (.ireturn, 1) := by decide +kernel
theorem dX5_readOfArmy_55 : decode cX5_readOfArmy 55 = .ok (.iload_n 1, 1) := by decide +kernel
theorem dX5_readOfArmy_56 : decode cX5_readOfArmy 56 = .ok (.bipush 13, 2) := by decide +kernel
theorem dX5_readOfArmy_58 : decode cX5_readOfArmy 58 = .ok (.if_icmp .ne 19, 3) := by decide +kernel
theorem dX5_readOfArmy_61 : decode cX5_readOfArmy 61 = .ok (.aload_n 0, 1) := by decide +kernel
theorem dX5_readOfArmy_62 : decode cX5_readOfArmy 62 = .ok (.getfield 12, 3) := by decide +kernel
theorem dX5_readOfArmy_65 : decode cX5_readOfArmy 65 = .ok (.getfield 153, 3) := by decide +kernel
theorem dX5_readOfArmy_68 : decode cX5_readOfArmy 68 = .ok (.iload_n 2, 1) := by decide +kernel
theorem dX5_readOfArmy_69 : decode cX5_readOfArmy 69 = .ok (.aload_n 0, 1) := by decide +kernel
theorem dX5_readOfArmy_70 : decode cX5_readOfArmy 70 = .ok (.getfield 71, 3) := by decide +kernel
theorem dX5_readOfArmy_73 : decode cX5_readOfArmy 73 = .ok (.iastore, 1) := by decide +kernel
theorem dX5_readOfArmy_74 : decode cX5_readOfArmy 74 = .ok (.goto 60, 3) := by decide +kernel
theorem dX5_readOfArmy_77 : decode cX5_readOfArmy 77 = .ok (.iload_n 1, 1) := by decide +kernel
theorem dX5_readOfArmy_78 : decode cX5_readOfArmy 78 = .ok (.bipush 14, 2) := by decide +kernel
theorem dX5_readOfArmy_80 : decode cX5_readOfArmy 80 = .ok (.if_icmp .ne 19, 3) := by decide +kernel
theorem dX5_readOfArmy_83 : decode cX5_readOfArmy 83 = .ok (.aload_n 0, 1) := by decide +kernel
theorem dX5_readOfArmy_84 : decode cX5_readOfArmy 84 = .ok (.getfield 12, 3) := by decide +kernel
theorem dX5_readOfArmy_87 : decode cX5_readOfArmy 87 = .ok (.getfield 156, 3) := by decide +kernel
theorem dX5_readOfArmy_90 : decode cX5_readOfArmy 90 = .ok (.iload_n 2, 1) := by decide +kernel
theorem dX5_readOfArmy_91 : decode cX5_readOfArmy 91 = .ok (.aload_n 0, 1) := by decide +kernel
theorem dX5_readOfArmy_92 : decode cX5_readOfArmy 92 = .ok (.getfield 71, 3) := by decide +kernel
theorem dX5_readOfArmy_95 : decode cX5_readOfArmy 95 = .ok (.iastore, 1) := by decide +kernel
theorem dX5_readOfArmy_96 : decode cX5_readOfArmy 96 = .ok (.goto 38, 3) := by decide +kernel
theorem dX5_readOfArmy_99 : decode cX5_readOfArmy 99 = .ok (.iload_n 1, 1) := by decide +kernel
theorem dX5_readOfArmy_100 : decode cX5_readOfArmy 100 = .ok (.bipush 15, 2) := by decide +kernel
theorem dX5_readOfArmy_102 : decode cX5_readOfArmy 102 = .ok (.if_icmp .ne 19, 3) := by decide +kernel
theorem dX5_readOfArmy_105 : decode cX5_readOfArmy 105 = .ok (.aload_n 0, 1) := by decide +kernel
theorem dX5_readOfArmy_106 : decode cX5_readOfArmy 106 = .ok (.getfield 12, 3) := by decide +kernel
theorem dX5_readOfArmy_109 : decode cX5_readOfArmy 109 = .ok (.getfield 159, 3) := by decide +kernel
theorem dX5_readOfArmy_112 : decode cX5_readOfArmy 112 = .ok (.iload_n 2, 1) := by decide +kernel
theorem dX5_readOfArmy_113 : decode cX5_readOfArmy 113 = .ok (.aload_n 0, 1) := by decide +kernel
theorem dX5_readOfArmy_114 : decode cX5_readOfArmy 114 = .ok (.getfield 71, 3) := by decide +kernel
theorem dX5_readOfArmy_117 : decode cX5_readOfArmy 117 = .ok (.iastore, 1) := by decide +kernel
theorem dX5_readOfArmy_118 : decode cX5_readOfArmy 118 = .ok (.goto 16, 3) := by decide +kernel
theorem dX5_readOfArmy_121 : decode cX5_readOfArmy 121 = .ok (.aload_n 0, 1) := by decide +kernel
theorem dX5_readOfArmy_122 : decode cX5_readOfArmy 122 = .ok (.getfield 12, 3) := by decide +kernel
theorem dX5_readOfArmy_125 : decode cX5_readOfArmy 125 = .ok (.getfield 162, 3) := by decide +kernel
theorem dX5_readOfArmy_128 : decode cX5_readOfArmy 128 = .ok (.iload_n 2, 1) := by decide +kernel
theorem dX5_readOfArmy_129 : decode cX5_readOfArmy 129 = .ok (.aload_n 0, 1) := by decide +kernel
theorem dX5_readOfArmy_130 : decode cX5_readOfArmy 130 = .ok (.getfield 71, 3) := by decide +kernel
theorem dX5_readOfArmy_133 : decode cX5_readOfArmy 133 = .ok (.iastore, 1) := by decide +kernel
theorem dX5_readOfArmy_134 : decode cX5_readOfArmy 134 = .ok (.iconst 1, 1) := by decide +kernel
theorem dX5_readOfArmy_135 : decode cX5_readOfArmy 135 = .ok (.ireturn, 1) := by decide +kernel
theorem dX5_mostOfArmy_0 : decode cX5_mostOfArmy 0 = .ok (.iload_n 0, 1) := by decide +kernel
theorem dX5_mostOfArmy_1 : decode cX5_mostOfArmy 1 = .ok (.bipush 14, 2) := by decide +kernel
theorem dX5_mostOfArmy_3 : decode cX5_mostOfArmy 3 = .ok (.if_icmp .ne 5, 3) := by decide +kernel
theorem dX5_mostOfArmy_6 : decode cX5_mostOfArmy 6 = .ok (.iconst 4, 1) := by decide +kernel
theorem dX5_mostOfArmy_7 : decode cX5_mostOfArmy 7 = .ok (.ireturn, 1) := by decide +kernel
theorem dX5_mostOfArmy_8 : decode cX5_mostOfArmy 8 = .ok (.iload_n 0, 1) := by decide +kernel
theorem dX5_mostOfArmy_9 : decode cX5_mostOfArmy 9 = .ok (.bipush 13, 2) := by decide +kernel
theorem dX5_mostOfArmy_11 : decode cX5_mostOfArmy 11 = .ok (.if_icmp .eq 9, 3) := by decide +kernel
theorem dX5_mostOfArmy_14 : decode cX5_mostOfArmy 14 = .ok (.iload_n 0, 1) := by decide +kernel
theorem dX5_mostOfArmy_15 : decode cX5_mostOfArmy 15 = .ok (.bipush 15, 2) := by decide +kernel
theorem dX5_mostOfArmy_17 : decode cX5_mostOfArmy 17 = .ok (.if_icmp .ne 7, 3) := by decide +kernel
theorem dX5_mostOfArmy_20 : decode cX5_mostOfArmy 20 = .ok (.iconst 3, 1) := by decide +kernel
theorem dX5_mostOfArmy_21 : decode cX5_mostOfArmy 21 = .ok (.goto 5, 3) := by decide +kernel
theorem dX5_mostOfArmy_24 : decode cX5_mostOfArmy 24 = .ok (.bipush 20, 2) := by decide +kernel
theorem dX5_mostOfArmy_26 : decode cX5_mostOfArmy 26 = .ok (.ireturn, 1) := by decide +kernel
theorem dX5_readOrder_0 : decode cX5_readOrder 0 = .ok (.aload_n 0, 1) := by decide +kernel
theorem dX5_readOrder_1 : decode cX5_readOrder 1 = .ok (.iconst 0, 1) := by decide +kernel
theorem dX5_readOrder_2 : decode cX5_readOrder 2 = .ok (.iconst 1, 1) := by decide +kernel
theorem dX5_readOrder_3 : decode cX5_readOrder 3 = .ok (.invokevirtual 131, 3) := by decide +kernel
theorem dX5_readOrder_6 : decode cX5_readOrder 6 = .ok (.ifCond .ne 5, 3) := by decide +kernel
theorem dX5_readOrder_9 : decode cX5_readOrder 9 = .ok (.iconst 0, 1) := by decide +kernel
theorem dX5_readOrder_10 : decode cX5_readOrder 10 = .ok (.ireturn, 1) := by decide +kernel
theorem dX5_readOrder_11 : decode cX5_readOrder 11 = .ok (.aload_n 0, 1) := by decide +kernel
theorem dX5_readOrder_12 : decode cX5_readOrder 12 = .ok (.getfield 71, 3) := by decide +kernel
theorem dX5_readOrder_15 : decode cX5_readOrder 15 = .ok (.istore_n 2, 1) := by decide +kernel
theorem dX5_readOrder_16 : decode cX5_readOrder 16 = .ok (.iconst (-1), 1) := by decide +kernel
theorem dX5_readOrder_17 : decode cX5_readOrder 17 = .ok (.istore_n 3, 1) := by decide +kernel
theorem dX5_readOrder_18 : decode cX5_readOrder 18 = .ok (.iload_n 2, 1) := by decide +kernel
theorem dX5_readOrder_19 : decode cX5_readOrder 19 = .ok (.iconst (-1), 1) := by decide +kernel
theorem dX5_readOrder_20 : decode cX5_readOrder 20 = .ok (.if_icmp .eq 34, 3) := by decide +kernel
theorem dX5_readOrder_23 : decode cX5_readOrder 23 = .ok (.aload_n 0, 1) := by decide +kernel
theorem dX5_readOrder_24 : decode cX5_readOrder 24 = .ok (.getfield 12, 3) := by decide +kernel
theorem dX5_readOrder_27 : decode cX5_readOrder 27 = .ok (.getfield 164, 3) := by decide +kernel
theorem dX5_readOrder_30 : decode cX5_readOrder 30 = .ok (.iload_n 2, 1) := by decide +kernel
theorem dX5_readOrder_31 : decode cX5_readOrder 31 = .ok (.iaload, 1) := by decide +kernel
theorem dX5_readOrder_32 : decode cX5_readOrder 32 = .ok (.bipush 6, 2) := by decide +kernel
theorem dX5_readOrder_34 : decode cX5_readOrder 34 = .ok (.if_icmp .ge 20, 3) := by decide +kernel
theorem dX5_readOrder_37 : decode cX5_readOrder 37 = .ok (.iload_n 2, 1) := by decide +kernel
theorem dX5_readOrder_38 : decode cX5_readOrder 38 = .ok (.aload_n 0, 1) := by decide +kernel
theorem dX5_readOrder_39 : decode cX5_readOrder 39 = .ok (.getfield 12, 3) := by decide +kernel
theorem dX5_readOrder_42 : decode cX5_readOrder 42 = .ok (.getfield 164, 3) := by decide +kernel
theorem dX5_readOrder_45 : decode cX5_readOrder 45 = .ok (.iload_n 2, 1) := by decide +kernel
theorem dX5_readOrder_46 : decode cX5_readOrder 46 = .ok (.iaload, 1) := by decide +kernel
theorem dX5_readOrder_47 : decode cX5_readOrder 47 = .ok (.invokestatic 167, 3) := by decide +kernel
theorem dX5_readOrder_50 : decode cX5_readOrder 50 = .ok (.istore_n 3, 1) := by decide +kernel
theorem dX5_readOrder_51 : decode cX5_readOrder 51 = .ok (.goto 14, 3) := by decide +kernel
theorem dX5_readOrder_54 : decode cX5_readOrder 54 = .ok (.iload_n 2, 1) := by decide +kernel
theorem dX5_readOrder_55 : decode cX5_readOrder 55 = .ok (.iconst (-1), 1) := by decide +kernel
theorem dX5_readOrder_56 : decode cX5_readOrder 56 = .ok (.if_icmp .eq 9, 3) := by decide +kernel
theorem dX5_readOrder_59 : decode cX5_readOrder 59 = .ok (.aload_n 0, 1) := by decide +kernel
theorem dX5_readOrder_60 : decode cX5_readOrder 60 = .ok (.iconst 3, 1) := by decide +kernel
theorem dX5_readOrder_61 : decode cX5_readOrder 61 = .ok (.iload_n 1, 1) := by decide +kernel
theorem dX5_readOrder_62 : decode cX5_readOrder 62 = .ok (.invokevirtual 170, 3) := by decide +kernel
theorem dX5_readOrder_65 : decode cX5_readOrder 65 = .ok (.aload_n 0, 1) := by decide +kernel
theorem dX5_readOrder_66 : decode cX5_readOrder 66 = .ok (.invokevirtual 174, 3) := by decide +kernel
theorem dX5_readOrder_69 : decode cX5_readOrder 69 = .ok (.ifCond .ne 5, 3) := by decide +kernel
theorem dX5_readOrder_72 : decode cX5_readOrder 72 = .ok (.iconst 0, 1) := by decide +kernel
theorem dX5_readOrder_73 : decode cX5_readOrder 73 = .ok (.ireturn, 1) := by decide +kernel
theorem dX5_readOrder_74 : decode cX5_readOrder 74 = .ok (.aload_n 0, 1) := by decide +kernel
theorem dX5_readOrder_75 : decode cX5_readOrder 75 = .ok (.getfield 71, 3) := by decide +kernel
theorem dX5_readOrder_78 : decode cX5_readOrder 78 = .ok (.istore 4, 2) := by decide +kernel
theorem dX5_readOrder_80 : decode cX5_readOrder 80 = .ok (.aload_n 0, 1) := by decide +kernel
theorem dX5_readOrder_81 : decode cX5_readOrder 81 = .ok (.invokevirtual 177, 3) := by decide +kernel
theorem dX5_readOrder_84 : decode cX5_readOrder 84 = .ok (.ifCond .ne 5, 3) := by decide +kernel
theorem dX5_readOrder_87 : decode cX5_readOrder 87 = .ok (.iconst 0, 1) := by decide +kernel
theorem dX5_readOrder_88 : decode cX5_readOrder 88 = .ok (.ireturn, 1) := by decide +kernel
theorem dX5_readOrder_89 : decode cX5_readOrder 89 = .ok (.aload_n 0, 1) := by decide +kernel
theorem dX5_readOrder_90 : decode cX5_readOrder 90 = .ok (.iload_n 3, 1) := by decide +kernel
theorem dX5_readOrder_91 : decode cX5_readOrder 91 = .ok (.invokevirtual 180, 3) := by decide +kernel
theorem dX5_readOrder_94 : decode cX5_readOrder 94 = .ok (.istore 5, 2) := by decide +kernel
theorem dX5_readOrder_96 : decode cX5_readOrder 96 = .ok (.iload_n 3, 1) := by decide +kernel
theorem dX5_readOrder_97 : decode cX5_readOrder 97 = .ok (.iconst (-1), 1) := by decide +kernel
theorem dX5_readOrder_98 : decode cX5_readOrder 98 = .ok (.if_icmp .eq 38, 3) := by decide +kernel
theorem dX5_readOrder_101 : decode cX5_readOrder 101 = .ok (.aload_n 0, 1) := by decide +kernel
theorem dX5_readOrder_102 : decode cX5_readOrder 102 = .ok (.getfield 12, 3) := by decide +kernel
theorem dX5_readOrder_105 : decode cX5_readOrder 105 = .ok (.getfield 183, 3) := by decide +kernel
theorem dX5_readOrder_108 : decode cX5_readOrder 108 = .ok (.iload_n 3, 1) := by decide +kernel
theorem dX5_readOrder_109 : decode cX5_readOrder 109 = .ok (.iload 4, 2) := by decide +kernel
theorem dX5_readOrder_111 : decode cX5_readOrder 111 = .ok (.iastore, 1) := by decide +kernel
theorem dX5_readOrder_112 : decode cX5_readOrder 112 = .ok (.aload_n 0, 1) := by decide +kernel
theorem dX5_readOrder_113 : decode cX5_readOrder 113 = .ok (.getfield 12, 3) := by decide +kernel
theorem dX5_readOrder_116 : decode cX5_readOrder 116 = .ok (.getfield 186, 3) := by decide +kernel
theorem dX5_readOrder_119 : decode cX5_readOrder 119 = .ok (.iload_n 3, 1) := by decide +kernel
theorem dX5_readOrder_120 : decode cX5_readOrder 120 = .ok (.iload 5, 2) := by decide +kernel
theorem dX5_readOrder_122 : decode cX5_readOrder 122 = .ok (.iastore, 1) := by decide +kernel
theorem dX5_readOrder_123 : decode cX5_readOrder 123 = .ok (.aload_n 0, 1) := by decide +kernel
theorem dX5_readOrder_124 : decode cX5_readOrder 124 = .ok (.getfield 12, 3) := by decide +kernel
theorem dX5_readOrder_127 : decode cX5_readOrder 127 = .ok (.getfield 164, 3) := by decide +kernel
theorem dX5_readOrder_130 : decode cX5_readOrder 130 = .ok (.iload_n 2, 1) := by decide +kernel
theorem dX5_readOrder_131 : decode cX5_readOrder 131 = .ok (.dup2, 1) := by decide +kernel
theorem dX5_readOrder_132 : decode cX5_readOrder 132 = .ok (.iaload, 1) := by decide +kernel
theorem dX5_readOrder_133 : decode cX5_readOrder 133 = .ok (.iconst 1, 1) := by decide +kernel
theorem dX5_readOrder_134 : decode cX5_readOrder 134 = .ok (.iadd, 1) := by decide +kernel
theorem dX5_readOrder_135 : decode cX5_readOrder 135 = .ok (.iastore, 1) := by decide +kernel
theorem dX5_readOrder_136 : decode cX5_readOrder 136 = .ok (.iconst 1, 1) := by decide +kernel
theorem dX5_readOrder_137 : decode cX5_readOrder 137 = .ok (.ireturn, 1) := by decide +kernel
theorem dX5_readOrderBeats_0 : decode cX5_readOrderBeats 0 = .ok (.iconst 0, 1) := by decide +kernel
theorem dX5_readOrderBeats_1 : decode cX5_readOrderBeats 1 = .ok (.istore_n 2, 1) := by decide +kernel
theorem dX5_readOrderBeats_2 : decode cX5_readOrderBeats 2 = .ok (.iconst 0, 1) := by decide +kernel
theorem dX5_readOrderBeats_3 : decode cX5_readOrderBeats 3 = .ok (.istore_n 3, 1) := by decide +kernel
theorem dX5_readOrderBeats_4 : decode cX5_readOrderBeats 4 = .ok (.iload_n 3, 1) := by decide +kernel
theorem dX5_readOrderBeats_5 : decode cX5_readOrderBeats 5 = .ok (.sipush 600, 3) := by decide +kernel
theorem dX5_readOrderBeats_8 : decode cX5_readOrderBeats 8 = .ok (.if_icmp .ge 62, 3) := by decide +kernel
theorem dX5_readOrderBeats_11 : decode cX5_readOrderBeats 11 = .ok (.aload_n 0, 1) := by decide +kernel
theorem dX5_readOrderBeats_12 : decode cX5_readOrderBeats 12 = .ok (.invokevirtual 177, 3) := by decide +kernel
theorem dX5_readOrderBeats_15 : decode cX5_readOrderBeats 15 = .ok (.ifCond .eq 55, 3) := by decide +kernel
theorem dX5_readOrderBeats_18 : decode cX5_readOrderBeats 18 = .ok (.iload_n 2, 1) := by decide +kernel
theorem dX5_readOrderBeats_19 : decode cX5_readOrderBeats 19 = .ok (.iconst 4, 1) := by decide +kernel
theorem dX5_readOrderBeats_20 : decode cX5_readOrderBeats 20 = .ok (.if_icmp .lt 15, 3) := by decide +kernel
theorem dX5_readOrderBeats_23 : decode cX5_readOrderBeats 23 = .ok (.aload_n 0, 1) := by decide +kernel
theorem dX5_readOrderBeats_24 : decode cX5_readOrderBeats 24 = .ok (.iconst 3, 1) := by decide +kernel
theorem dX5_readOrderBeats_25 : decode cX5_readOrderBeats 25 = .ok (.aload_n 0, 1) := by decide +kernel
theorem dX5_readOrderBeats_26 : decode cX5_readOrderBeats 26 = .ok (.getfield 65, 3) := by decide +kernel
theorem dX5_readOrderBeats_29 : decode cX5_readOrderBeats 29 = .ok (.invokevirtual 170, 3) := by decide +kernel
theorem dX5_readOrderBeats_32 : decode cX5_readOrderBeats 32 = .ok (.goto 28, 3) := by decide +kernel
theorem dX5_readOrderBeats_35 : decode cX5_readOrderBeats 35 = .ok (.iload_n 1, 1) := by decide +kernel
theorem dX5_readOrderBeats_36 : decode cX5_readOrderBeats 36 = .ok (.iconst (-1), 1) := by decide +kernel
theorem dX5_readOrderBeats_37 : decode cX5_readOrderBeats 37 = .ok (.if_icmp .eq 20, 3) := by decide +kernel
theorem dX5_readOrderBeats_40 : decode cX5_readOrderBeats 40 = .ok (.aload_n 0, 1) := by decide +kernel
theorem dX5_readOrderBeats_41 : decode cX5_readOrderBeats 41 = .ok (.getfield 12, 3) := by decide +kernel
theorem dX5_readOrderBeats_44 : decode cX5_readOrderBeats 44 = .ok (.getfield 189, 3) := by decide +kernel
theorem dX5_readOrderBeats_47 : decode cX5_readOrderBeats 47 = .ok (.iload_n 1, 1) := by decide +kernel
theorem dX5_readOrderBeats_48 : decode cX5_readOrderBeats 48 = .ok (.iconst 4, 1) := by decide +kernel
theorem dX5_readOrderBeats_49 : decode cX5_readOrderBeats 49 = .ok (.imul, 1) := by decide +kernel
theorem dX5_readOrderBeats_50 : decode cX5_readOrderBeats 50 = .ok (.iload_n 2, 1) := by decide +kernel
theorem dX5_readOrderBeats_51 : decode cX5_readOrderBeats 51 = .ok (.iadd, 1) := by decide +kernel
theorem dX5_readOrderBeats_52 : decode cX5_readOrderBeats 52 = .ok (.aload_n 0, 1) := by decide +kernel
theorem dX5_readOrderBeats_53 : decode cX5_readOrderBeats 53 = .ok (.getfield 68, 3) := by decide +kernel
theorem dX5_readOrderBeats_56 : decode cX5_readOrderBeats 56 = .ok (.iastore, 1) := by decide +kernel
theorem dX5_readOrderBeats_57 : decode cX5_readOrderBeats 57 = .ok (.iinc 2 1, 3) := by decide +kernel
theorem dX5_readOrderBeats_60 : decode cX5_readOrderBeats 60 = .ok (.aload_n 0, 1) := by decide +kernel
theorem dX5_readOrderBeats_61 : decode cX5_readOrderBeats 61 = .ok (.invokevirtual 87, 3) := by decide +kernel
theorem dX5_readOrderBeats_64 : decode cX5_readOrderBeats 64 = .ok (.iinc 3 1, 3) := by decide +kernel
theorem dX5_readOrderBeats_67 : decode cX5_readOrderBeats 67 = .ok (.goto (-63), 3) := by decide +kernel
theorem dX5_readOrderBeats_70 : decode cX5_readOrderBeats 70 = .ok (.iload_n 2, 1) := by decide +kernel
theorem dX5_readOrderBeats_71 : decode cX5_readOrderBeats 71 = .ok (.ireturn, 1) := by decide +kernel
theorem dX5_readScoreLine_0 : decode cX5_readScoreLine 0 = .ok (.iload_n 1, 1) := by decide +kernel
theorem dX5_readScoreLine_1 : decode cX5_readScoreLine 1 = .ok (.bipush 18, 2) := by decide +kernel
theorem dX5_readScoreLine_3 : decode cX5_readScoreLine 3 = .ok (.if_icmp .eq 5, 3) := by decide +kernel
theorem dX5_readScoreLine_6 : decode cX5_readScoreLine 6 = .ok (.iconst 0, 1) := by decide +kernel
theorem dX5_readScoreLine_7 : decode cX5_readScoreLine 7 = .ok (.ireturn, 1) := by decide +kernel
theorem dX5_readScoreLine_8 : decode cX5_readScoreLine 8 = .ok (.aload_n 0, 1) := by decide +kernel
theorem dX5_readScoreLine_9 : decode cX5_readScoreLine 9 = .ok (.invokevirtual 87, 3) := by decide +kernel
theorem dX5_readScoreLine_12 : decode cX5_readScoreLine 12 = .ok (.aload_n 0, 1) := by decide +kernel
theorem dX5_readScoreLine_13 : decode cX5_readScoreLine 13 = .ok (.iconst 0, 1) := by decide +kernel
theorem dX5_readScoreLine_14 : decode cX5_readScoreLine 14 = .ok (.iconst 1, 1) := by decide +kernel
theorem dX5_readScoreLine_15 : decode cX5_readScoreLine 15 = .ok (.invokevirtual 131, 3) := by decide +kernel
theorem dX5_readScoreLine_18 : decode cX5_readScoreLine 18 = .ok (.ifCond .eq 10, 3) := by decide +kernel
theorem dX5_readScoreLine_21 : decode cX5_readScoreLine 21 = .ok (.aload_n 0, 1) := by decide +kernel
theorem dX5_readScoreLine_22 : decode cX5_readScoreLine 22 = .ok (.invokevirtual 177, 3) := by decide +kernel
theorem dX5_readScoreLine_25 : decode cX5_readScoreLine 25 = .ok (.ifCond .ne 5, 3) := by decide +kernel
theorem dX5_readScoreLine_28 : decode cX5_readScoreLine 28 = .ok (.iconst 0, 1) := by decide +kernel
theorem dX5_readScoreLine_29 : decode cX5_readScoreLine 29 = .ok (.ireturn, 1) := by decide +kernel
theorem dX5_readScoreLine_30 : decode cX5_readScoreLine 30 = .ok (.aload_n 0, 1) := by decide +kernel
theorem dX5_readScoreLine_31 : decode cX5_readScoreLine 31 = .ok (.getfield 71, 3) := by decide +kernel
theorem dX5_readScoreLine_34 : decode cX5_readScoreLine 34 = .ok (.istore_n 2, 1) := by decide +kernel
theorem dX5_readScoreLine_35 : decode cX5_readScoreLine 35 = .ok (.iconst 0, 1) := by decide +kernel
theorem dX5_readScoreLine_36 : decode cX5_readScoreLine 36 = .ok (.istore_n 3, 1) := by decide +kernel
theorem dX5_readScoreLine_37 : decode cX5_readScoreLine 37 = .ok (.iload_n 3, 1) := by decide +kernel
theorem dX5_readScoreLine_38 : decode cX5_readScoreLine 38 = .ok (.sipush 600, 3) := by decide +kernel
theorem dX5_readScoreLine_41 : decode cX5_readScoreLine 41 = .ok (.if_icmp .ge 30, 3) := by decide +kernel
theorem dX5_readScoreLine_44 : decode cX5_readScoreLine 44 = .ok (.aload_n 0, 1) := by decide +kernel
theorem dX5_readScoreLine_45 : decode cX5_readScoreLine 45 = .ok (.invokevirtual 177, 3) := by decide +kernel
theorem dX5_readScoreLine_48 : decode cX5_readScoreLine 48 = .ok (.ifCond .eq 23, 3) := by decide +kernel
theorem dX5_readScoreLine_51 : decode cX5_readScoreLine 51 = .ok (.iload_n 2, 1) := by decide +kernel
theorem dX5_readScoreLine_52 : decode cX5_readScoreLine 52 = .ok (.iconst (-1), 1) := by decide +kernel
theorem dX5_readScoreLine_53 : decode cX5_readScoreLine 53 = .ok (.if_icmp .eq 8, 3) := by decide +kernel
theorem dX5_readScoreLine_56 : decode cX5_readScoreLine 56 = .ok (.aload_n 0, 1) := by decide +kernel
theorem dX5_readScoreLine_57 : decode cX5_readScoreLine 57 = .ok (.iload_n 2, 1) := by decide +kernel
theorem dX5_readScoreLine_58 : decode cX5_readScoreLine 58 = .ok (.invokevirtual 192, 3) := by decide +kernel
theorem dX5_readScoreLine_61 : decode cX5_readScoreLine 61 = .ok (.aload_n 0, 1) := by decide +kernel
theorem dX5_readScoreLine_62 : decode cX5_readScoreLine 62 = .ok (.invokevirtual 87, 3) := by decide +kernel
theorem dX5_readScoreLine_65 : decode cX5_readScoreLine 65 = .ok (.iinc 3 1, 3) := by decide +kernel
theorem dX5_readScoreLine_68 : decode cX5_readScoreLine 68 = .ok (.goto (-31), 3) := by decide +kernel
theorem dX5_readScoreLine_71 : decode cX5_readScoreLine 71 = .ok (.iconst 1, 1) := by decide +kernel
theorem dX5_readScoreLine_72 : decode cX5_readScoreLine 72 = .ok (.ireturn, 1) := by decide +kernel
theorem dX5_addGiven_0 : decode cX5_addGiven 0 = .ok (.aload_n 0, 1) := by decide +kernel
theorem dX5_addGiven_1 : decode cX5_addGiven 1 = .ok (.getfield 21, 3) := by decide +kernel
theorem dX5_addGiven_4 : decode cX5_addGiven 4 = .ok (.getfield 196, 3) := by decide +kernel
theorem dX5_addGiven_7 : decode cX5_addGiven 7 = .ok (.iload_n 1, 1) := by decide +kernel
theorem dX5_addGiven_8 : decode cX5_addGiven 8 = .ok (.iaload, 1) := by decide +kernel
theorem dX5_addGiven_9 : decode cX5_addGiven 9 = .ok (.istore_n 2, 1) := by decide +kernel
theorem dX5_addGiven_10 : decode cX5_addGiven 10 = .ok (.iload_n 2, 1) := by decide +kernel
theorem dX5_addGiven_11 : decode cX5_addGiven 11 = .ok (.bipush 12, 2) := by decide +kernel
theorem dX5_addGiven_13 : decode cX5_addGiven 13 = .ok (.if_icmp .lt 13, 3) := by decide +kernel
theorem dX5_addGiven_16 : decode cX5_addGiven 16 = .ok (.aload_n 0, 1) := by decide +kernel
theorem dX5_addGiven_17 : decode cX5_addGiven 17 = .ok (.iconst 3, 1) := by decide +kernel
theorem dX5_addGiven_18 : decode cX5_addGiven 18 = .ok (.aload_n 0, 1) := by decide +kernel
theorem dX5_addGiven_19 : decode cX5_addGiven 19 = .ok (.getfield 65, 3) := by decide +kernel
theorem dX5_addGiven_22 : decode cX5_addGiven 22 = .ok (.invokevirtual 170, 3) := by decide +kernel
theorem dX5_addGiven_25 : decode cX5_addGiven 25 = .ok (.return_, 1) := by decide +kernel
theorem dX5_addGiven_26 : decode cX5_addGiven 26 = .ok (.aload_n 0, 1) := by decide +kernel
theorem dX5_addGiven_27 : decode cX5_addGiven 27 = .ok (.getfield 21, 3) := by decide +kernel
theorem dX5_addGiven_30 : decode cX5_addGiven 30 = .ok (.getfield 199, 3) := by decide +kernel
theorem dX5_addGiven_33 : decode cX5_addGiven 33 = .ok (.iload_n 1, 1) := by decide +kernel
theorem dX5_addGiven_34 : decode cX5_addGiven 34 = .ok (.bipush 12, 2) := by decide +kernel
theorem dX5_addGiven_36 : decode cX5_addGiven 36 = .ok (.imul, 1) := by decide +kernel
theorem dX5_addGiven_37 : decode cX5_addGiven 37 = .ok (.iload_n 2, 1) := by decide +kernel
theorem dX5_addGiven_38 : decode cX5_addGiven 38 = .ok (.iadd, 1) := by decide +kernel
theorem dX5_addGiven_39 : decode cX5_addGiven 39 = .ok (.aload_n 0, 1) := by decide +kernel
theorem dX5_addGiven_40 : decode cX5_addGiven 40 = .ok (.getfield 68, 3) := by decide +kernel
theorem dX5_addGiven_43 : decode cX5_addGiven 43 = .ok (.iastore, 1) := by decide +kernel
theorem dX5_addGiven_44 : decode cX5_addGiven 44 = .ok (.aload_n 0, 1) := by decide +kernel
theorem dX5_addGiven_45 : decode cX5_addGiven 45 = .ok (.getfield 21, 3) := by decide +kernel
theorem dX5_addGiven_48 : decode cX5_addGiven 48 = .ok (.getfield 196, 3) := by decide +kernel
theorem dX5_addGiven_51 : decode cX5_addGiven 51 = .ok (.iload_n 1, 1) := by decide +kernel
theorem dX5_addGiven_52 : decode cX5_addGiven 52 = .ok (.iload_n 2, 1) := by decide +kernel
theorem dX5_addGiven_53 : decode cX5_addGiven 53 = .ok (.iconst 1, 1) := by decide +kernel
theorem dX5_addGiven_54 : decode cX5_addGiven 54 = .ok (.iadd, 1) := by decide +kernel
theorem dX5_addGiven_55 : decode cX5_addGiven 55 = .ok (.iastore, 1) := by decide +kernel
theorem dX5_addGiven_56 : decode cX5_addGiven 56 = .ok (.return_, 1) := by decide +kernel
theorem dX5_readHearingLine_0 : decode cX5_readHearingLine 0 = .ok (.iload_n 1, 1) := by decide +kernel
theorem dX5_readHearingLine_1 : decode cX5_readHearingLine 1 = .ok (.bipush 19, 2) := by decide +kernel
theorem dX5_readHearingLine_3 : decode cX5_readHearingLine 3 = .ok (.if_icmp .eq 5, 3) := by decide +kernel
theorem dX5_readHearingLine_6 : decode cX5_readHearingLine 6 = .ok (.iconst 0, 1) := by decide +kernel
theorem dX5_readHearingLine_7 : decode cX5_readHearingLine 7 = .ok (.ireturn, 1) := by decide +kernel
theorem dX5_readHearingLine_8 : decode cX5_readHearingLine 8 = .ok (.aload_n 0, 1) := by decide +kernel
theorem dX5_readHearingLine_9 : decode cX5_readHearingLine 9 = .ok (.invokevirtual 87, 3) := by decide +kernel
theorem dX5_readHearingLine_12 : decode cX5_readHearingLine 12 = .ok (.aload_n 0, 1) := by decide +kernel
theorem dX5_readHearingLine_13 : decode cX5_readHearingLine 13 = .ok (.iconst 0, 1) := by decide +kernel
theorem dX5_readHearingLine_14 : decode cX5_readHearingLine 14 = .ok (.iconst 1, 1) := by decide +kernel
theorem dX5_readHearingLine_15 : decode cX5_readHearingLine 15 = .ok (.invokevirtual 131, 3) := by decide +kernel
theorem dX5_readHearingLine_18 : decode cX5_readHearingLine 18 = .ok (.ifCond .ne 5, 3) := by decide +kernel
theorem dX5_readHearingLine_21 : decode cX5_readHearingLine 21 = .ok (.iconst 0, 1) := by decide +kernel
theorem dX5_readHearingLine_22 : decode cX5_readHearingLine 22 = .ok (.ireturn, 1) := by decide +kernel
theorem dX5_readHearingLine_23 : decode cX5_readHearingLine 23 = .ok (.aload_n 0, 1) := by decide +kernel
theorem dX5_readHearingLine_24 : decode cX5_readHearingLine 24 = .ok (.getfield 71, 3) := by decide +kernel
theorem dX5_readHearingLine_27 : decode cX5_readHearingLine 27 = .ok (.istore_n 2, 1) := by decide +kernel
theorem dX5_readHearingLine_28 : decode cX5_readHearingLine 28 = .ok (.iconst 0, 1) := by decide +kernel
theorem dX5_readHearingLine_29 : decode cX5_readHearingLine 29 = .ok (.istore_n 3, 1) := by decide +kernel
theorem dX5_readHearingLine_30 : decode cX5_readHearingLine 30 = .ok (.iconst 0, 1) := by decide +kernel
theorem dX5_readHearingLine_31 : decode cX5_readHearingLine 31 = .ok (.istore 4, 2) := by decide +kernel
theorem dX5_readHearingLine_33 : decode cX5_readHearingLine 33 = .ok (.iload 4, 2) := by decide +kernel
theorem dX5_readHearingLine_35 : decode cX5_readHearingLine 35 = .ok (.sipush 600, 3) := by decide +kernel
theorem dX5_readHearingLine_38 : decode cX5_readHearingLine 38 = .ok (.if_icmp .ge 66, 3) := by decide +kernel
theorem dX5_readHearingLine_41 : decode cX5_readHearingLine 41 = .ok (.aload_n 0, 1) := by decide +kernel
theorem dX5_readHearingLine_42 : decode cX5_readHearingLine 42 = .ok (.invokevirtual 200, 3) := by decide +kernel
theorem dX5_readHearingLine_45 : decode cX5_readHearingLine 45 = .ok (.ifCond .eq 59, 3) := by decide +kernel
theorem dX5_readHearingLine_48 : decode cX5_readHearingLine 48 = .ok (.iload_n 3, 1) := by decide +kernel
theorem dX5_readHearingLine_49 : decode cX5_readHearingLine 49 = .ok (.bipush 6, 2) := by decide +kernel
theorem dX5_readHearingLine_51 : decode cX5_readHearingLine 51 = .ok (.if_icmp .lt 15, 3) := by decide +kernel
theorem dX5_readHearingLine_54 : decode cX5_readHearingLine 54 = .ok (.aload_n 0, 1) := by decide +kernel
theorem dX5_readHearingLine_55 : decode cX5_readHearingLine 55 = .ok (.iconst 3, 1) := by decide +kernel
theorem dX5_readHearingLine_56 : decode cX5_readHearingLine 56 = .ok (.aload_n 0, 1) := by decide +kernel
theorem dX5_readHearingLine_57 : decode cX5_readHearingLine 57 = .ok (.getfield 65, 3) := by decide +kernel
theorem dX5_readHearingLine_60 : decode cX5_readHearingLine 60 = .ok (.invokevirtual 170, 3) := by decide +kernel
theorem dX5_readHearingLine_63 : decode cX5_readHearingLine 63 = .ok (.goto 31, 3) := by decide +kernel
theorem dX5_readHearingLine_66 : decode cX5_readHearingLine 66 = .ok (.iload_n 2, 1) := by decide +kernel
theorem dX5_readHearingLine_67 : decode cX5_readHearingLine 67 = .ok (.iconst (-1), 1) := by decide +kernel
theorem dX5_readHearingLine_68 : decode cX5_readHearingLine 68 = .ok (.if_icmp .eq 23, 3) := by decide +kernel
theorem dX5_readHearingLine_71 : decode cX5_readHearingLine 71 = .ok (.aload_n 0, 1) := by decide +kernel
theorem dX5_readHearingLine_72 : decode cX5_readHearingLine 72 = .ok (.getfield 28, 3) := by decide +kernel
theorem dX5_readHearingLine_75 : decode cX5_readHearingLine 75 = .ok (.getfield 203, 3) := by decide +kernel
theorem dX5_readHearingLine_78 : decode cX5_readHearingLine 78 = .ok (.iload_n 2, 1) := by decide +kernel
theorem dX5_readHearingLine_79 : decode cX5_readHearingLine 79 = .ok (.bipush 6, 2) := by decide +kernel
theorem dX5_readHearingLine_81 : decode cX5_readHearingLine 81 = .ok (.imul, 1) := by decide +kernel
theorem dX5_readHearingLine_82 : decode cX5_readHearingLine 82 = .ok (.iload_n 3, 1) := by decide +kernel
theorem dX5_readHearingLine_83 : decode cX5_readHearingLine 83 = .ok (.iadd, 1) := by decide +kernel
theorem dX5_readHearingLine_84 : decode cX5_readHearingLine 84 = .ok (.aload_n 0, 1) := by decide +kernel
theorem dX5_readHearingLine_85 : decode cX5_readHearingLine 85 = .ok (.getfield 68, 3) := by decide +kernel
theorem dX5_readHearingLine_88 : decode cX5_readHearingLine 88 = .ok (.iconst 4, 1) := by decide +kernel
theorem dX5_readHearingLine_89 : decode cX5_readHearingLine 89 = .ok (.isub, 1) := by decide +kernel
theorem dX5_readHearingLine_90 : decode cX5_readHearingLine 90 = .ok (.iastore, 1) := by decide +kernel
theorem dX5_readHearingLine_91 : decode cX5_readHearingLine 91 = .ok (.iinc 3 1, 3) := by decide +kernel
theorem dX5_readHearingLine_94 : decode cX5_readHearingLine 94 = .ok (.aload_n 0, 1) := by decide +kernel
theorem dX5_readHearingLine_95 : decode cX5_readHearingLine 95 = .ok (.invokevirtual 87, 3) := by decide +kernel
theorem dX5_readHearingLine_98 : decode cX5_readHearingLine 98 = .ok (.iinc 4 1, 3) := by decide +kernel
theorem dX5_readHearingLine_101 : decode cX5_readHearingLine 101 = .ok (.goto (-68), 3) := by decide +kernel
theorem dX5_readHearingLine_104 : decode cX5_readHearingLine 104 = .ok (.iload_n 2, 1) := by decide +kernel
theorem dX5_readHearingLine_105 : decode cX5_readHearingLine 105 = .ok (.iconst (-1), 1) := by decide +kernel
theorem dX5_readHearingLine_106 : decode cX5_readHearingLine 106 = .ok (.if_icmp .eq 13, 3) := by decide +kernel
theorem dX5_readHearingLine_109 : decode cX5_readHearingLine 109 = .ok (.aload_n 0, 1) := by decide +kernel
theorem dX5_readHearingLine_110 : decode cX5_readHearingLine 110 = .ok (.getfield 28, 3) := by decide +kernel
theorem dX5_readHearingLine_113 : decode cX5_readHearingLine 113 = .ok (.getfield 204, 3) := by decide +kernel
theorem dX5_readHearingLine_116 : decode cX5_readHearingLine 116 = .ok (.iload_n 2, 1) := by decide +kernel
theorem dX5_readHearingLine_117 : decode cX5_readHearingLine 117 = .ok (.iload_n 3, 1) := by decide +kernel
theorem dX5_readHearingLine_118 : decode cX5_readHearingLine 118 = .ok (.iastore, 1) := by decide +kernel
theorem dX5_readHearingLine_119 : decode cX5_readHearingLine 119 = .ok (.iconst 1, 1) := by decide +kernel
theorem dX5_readHearingLine_120 : decode cX5_readHearingLine 120 = .ok (.ireturn, 1) := by decide +kernel
theorem dX5_readVillageLine_0 : decode cX5_readVillageLine 0 = .ok (.iload_n 1, 1) := by decide +kernel
theorem dX5_readVillageLine_1 : decode cX5_readVillageLine 1 = .ok (.bipush 20, 2) := by decide +kernel
theorem dX5_readVillageLine_3 : decode cX5_readVillageLine 3 = .ok (.if_icmp .ge 5, 3) := by decide +kernel
theorem dX5_readVillageLine_6 : decode cX5_readVillageLine 6 = .ok (.iconst 0, 1) := by decide +kernel
theorem dX5_readVillageLine_7 : decode cX5_readVillageLine 7 = .ok (.ireturn, 1) := by decide +kernel
theorem dX5_readVillageLine_8 : decode cX5_readVillageLine 8 = .ok (.iload_n 1, 1) := by decide +kernel
theorem dX5_readVillageLine_9 : decode cX5_readVillageLine 9 = .ok (.bipush 20, 2) := by decide +kernel
theorem dX5_readVillageLine_11 : decode cX5_readVillageLine 11 = .ok (.isub, 1) := by decide +kernel
theorem dX5_readVillageLine_12 : decode cX5_readVillageLine 12 = .ok (.istore_n 3, 1) := by decide +kernel
theorem dX5_readVillageLine_13 : decode cX5_readVillageLine 13 = .ok (.aload_n 0, 1) := by decide +kernel
theorem dX5_readVillageLine_14 : decode cX5_readVillageLine 14 = .ok (.invokevirtual 87, 3) := by decide +kernel
theorem dX5_readVillageLine_17 : decode cX5_readVillageLine 17 = .ok (.aload_n 0, 1) := by decide +kernel
theorem dX5_readVillageLine_18 : decode cX5_readVillageLine 18 = .ok (.getfield 35, 3) := by decide +kernel
theorem dX5_readVillageLine_21 : decode cX5_readVillageLine 21 = .ok (.getfield 99, 3) := by decide +kernel
theorem dX5_readVillageLine_24 : decode cX5_readVillageLine 24 = .ok (.bipush 8, 2) := by decide +kernel
theorem dX5_readVillageLine_26 : decode cX5_readVillageLine 26 = .ok (.if_icmp .lt 9, 3) := by decide +kernel
theorem dX5_readVillageLine_29 : decode cX5_readVillageLine 29 = .ok (.aload_n 0, 1) := by decide +kernel
theorem dX5_readVillageLine_30 : decode cX5_readVillageLine 30 = .ok (.iconst 3, 1) := by decide +kernel
theorem dX5_readVillageLine_31 : decode cX5_readVillageLine 31 = .ok (.iload_n 2, 1) := by decide +kernel
theorem dX5_readVillageLine_32 : decode cX5_readVillageLine 32 = .ok (.invokevirtual 170, 3) := by decide +kernel
theorem dX5_readVillageLine_35 : decode cX5_readVillageLine 35 = .ok (.aload_n 0, 1) := by decide +kernel
theorem dX5_readVillageLine_36 : decode cX5_readVillageLine 36 = .ok (.invokevirtual 205, 3) := by decide +kernel
theorem dX5_readVillageLine_39 : decode cX5_readVillageLine 39 = .ok (.ifCond .ne 5, 3) := by decide +kernel
theorem dX5_readVillageLine_42 : decode cX5_readVillageLine 42 = .ok (.iconst 0, 1) := by decide +kernel
theorem dX5_readVillageLine_43 : decode cX5_readVillageLine 43 = .ok (.ireturn, 1) := by decide +kernel
theorem dX5_readVillageLine_44 : decode cX5_readVillageLine 44 = .ok (.aload_n 0, 1) := by decide +kernel
theorem dX5_readVillageLine_45 : decode cX5_readVillageLine 45 = .ok (.getfield 71, 3) := by decide +kernel
theorem dX5_readVillageLine_48 : decode cX5_readVillageLine 48 = .ok (.istore 4, 2) := by decide +kernel
theorem dX5_readVillageLine_50 : decode cX5_readVillageLine 50 = .ok (.iconst (-1), 1) := by decide +kernel
theorem dX5_readVillageLine_51 : decode cX5_readVillageLine 51 = .ok (.istore 5, 2) := by decide +kernel
theorem dX5_readVillageLine_53 : decode cX5_readVillageLine 53 = .ok (.iconst (-1), 1) := by decide +kernel
theorem dX5_readVillageLine_54 : decode cX5_readVillageLine 54 = .ok (.istore 6, 2) := by decide +kernel
theorem dX5_readVillageLine_56 : decode cX5_readVillageLine 56 = .ok (.iload_n 3, 1) := by decide +kernel
theorem dX5_readVillageLine_57 : decode cX5_readVillageLine 57 = .ok (.ifCond .ne 24, 3) := by decide +kernel
theorem dX5_readVillageLine_60 : decode cX5_readVillageLine 60 = .ok (.aload_n 0, 1) := by decide +kernel
theorem dX5_readVillageLine_61 : decode cX5_readVillageLine 61 = .ok (.iconst 1, 1) := by decide +kernel
theorem dX5_readVillageLine_62 : decode cX5_readVillageLine 62 = .ok (.bipush 9, 2) := by decide +kernel
theorem dX5_readVillageLine_64 : decode cX5_readVillageLine 64 = .ok (.invokevirtual 131, 3) := by decide +kernel
theorem dX5_readVillageLine_67 : decode cX5_readVillageLine 67 = .ok (.ifCond .ne 5, 3) := by decide +kernel
theorem dX5_readVillageLine_70 : decode cX5_readVillageLine 70 = .ok (.iconst 0, 1) := by decide +kernel
theorem dX5_readVillageLine_71 : decode cX5_readVillageLine 71 = .ok (.ireturn, 1) := by decide +kernel
theorem dX5_readVillageLine_72 : decode cX5_readVillageLine 72 = .ok (.aload_n 0, 1) := by decide +kernel
theorem dX5_readVillageLine_73 : decode cX5_readVillageLine 73 = .ok (.getfield 71, 3) := by decide +kernel
theorem dX5_readVillageLine_76 : decode cX5_readVillageLine 76 = .ok (.istore 5, 2) := by decide +kernel
theorem dX5_readVillageLine_78 : decode cX5_readVillageLine 78 = .ok (.goto 23, 3) := by decide +kernel
theorem dX5_readVillageLine_81 : decode cX5_readVillageLine 81 = .ok (.iload_n 3, 1) := by decide +kernel
theorem dX5_readVillageLine_82 : decode cX5_readVillageLine 82 = .ok (.iconst 3, 1) := by decide +kernel
theorem dX5_readVillageLine_83 : decode cX5_readVillageLine 83 = .ok (.if_icmp .eq 18, 3) := by decide +kernel
theorem dX5_readVillageLine_86 : decode cX5_readVillageLine 86 = .ok (.aload_n 0, 1) := by decide +kernel
theorem dX5_readVillageLine_87 : decode cX5_readVillageLine 87 = .ok (.invokevirtual 143, 3) := by decide +kernel
theorem dX5_readVillageLine_90 : decode cX5_readVillageLine 90 = .ok (.ifCond .ne 5, 3) := by decide +kernel
theorem dX5_readVillageLine_93 : decode cX5_readVillageLine 93 = .ok (.iconst 0, 1) := by decide +kernel
theorem dX5_readVillageLine_94 : decode cX5_readVillageLine 94 = .ok (.ireturn, 1) := by decide +kernel
theorem dX5_readVillageLine_95 : decode cX5_readVillageLine 95 = .ok (.aload_n 0, 1) := by decide +kernel
theorem dX5_readVillageLine_96 : decode cX5_readVillageLine 96 = .ok (.getfield 71, 3) := by decide +kernel
theorem dX5_readVillageLine_99 : decode cX5_readVillageLine 99 = .ok (.istore 5, 2) := by decide +kernel
theorem dX5_readVillageLine_101 : decode cX5_readVillageLine 101 = .ok (.iload_n 3, 1) := by decide +kernel
theorem dX5_readVillageLine_102 : decode cX5_readVillageLine 102 = .ok (.iconst 1, 1) := by decide +kernel
theorem dX5_readVillageLine_103 : decode cX5_readVillageLine 103 = .ok (.if_icmp .ne 43, 3) := by decide +kernel
theorem dX5_readVillageLine_106 : decode cX5_readVillageLine 106 = .ok (.aload_n 0, 1) := by decide +kernel
theorem dX5_readVillageLine_107 : decode cX5_readVillageLine 107 = .ok (.invokevirtual 177, 3) := by decide +kernel
theorem dX5_readVillageLine_110 : decode cX5_readVillageLine 110 = .ok (.ifCond .eq 21, 3) := by decide +kernel
theorem dX5_readVillageLine_113 : decode cX5_readVillageLine 113 = .ok (.aload_n 0, 1) := by decide +kernel
theorem dX5_readVillageLine_114 : decode cX5_readVillageLine 114 = .ok (.getfield 68, 3) := by decide +kernel
theorem dX5_readVillageLine_117 : decode cX5_readVillageLine 117 = .ok (.iload 5, 2) := by decide +kernel
theorem dX5_readVillageLine_119 : decode cX5_readVillageLine 119 = .ok (.if_icmp .ne 12, 3) := by decide +kernel
theorem dX5_readVillageLine_122 : decode cX5_readVillageLine 122 = .ok (.aload_n 0, 1) := by decide +kernel
theorem dX5_readVillageLine_123 : decode cX5_readVillageLine 123 = .ok (.iconst 4, 1) := by decide +kernel
theorem dX5_readVillageLine_124 : decode cX5_readVillageLine 124 = .ok (.aload_n 0, 1) := by decide +kernel
theorem dX5_readVillageLine_125 : decode cX5_readVillageLine 125 = .ok (.getfield 65, 3) := by decide +kernel
theorem dX5_readVillageLine_128 : decode cX5_readVillageLine 128 = .ok (.invokevirtual 170, 3) := by decide +kernel
theorem dX5_readVillageLine_131 : decode cX5_readVillageLine 131 = .ok (.aload_n 0, 1) := by decide +kernel
theorem dX5_readVillageLine_132 : decode cX5_readVillageLine 132 = .ok (.invokevirtual 143, 3) := by decide +kernel
theorem dX5_readVillageLine_135 : decode cX5_readVillageLine 135 = .ok (.ifCond .ne 5, 3) := by decide +kernel
theorem dX5_readVillageLine_138 : decode cX5_readVillageLine 138 = .ok (.iconst 0, 1) := by decide +kernel
theorem dX5_readVillageLine_139 : decode cX5_readVillageLine 139 = .ok (.ireturn, 1) := by decide +kernel
theorem dX5_readVillageLine_140 : decode cX5_readVillageLine 140 = .ok (.aload_n 0, 1) := by decide +kernel
theorem dX5_readVillageLine_141 : decode cX5_readVillageLine 141 = .ok (.getfield 71, 3) := by decide +kernel
theorem dX5_readVillageLine_144 : decode cX5_readVillageLine 144 = .ok (.istore 6, 2) := by decide +kernel
theorem dX5_readVillageLine_146 : decode cX5_readVillageLine 146 = .ok (.aload_n 0, 1) := by decide +kernel
theorem dX5_readVillageLine_147 : decode cX5_readVillageLine 147 = .ok (.iload 4, 2) := by decide +kernel
theorem dX5_readVillageLine_149 : decode cX5_readVillageLine 149 = .ok (.iload_n 3, 1) := by decide +kernel
theorem dX5_readVillageLine_150 : decode cX5_readVillageLine 150 = .ok (.iload 5, 2) := by decide +kernel
theorem dX5_readVillageLine_152 : decode cX5_readVillageLine 152 = .ok (.iload 6, 2) := by decide +kernel
theorem dX5_readVillageLine_154 : decode cX5_readVillageLine 154 = .ok (.invokevirtual 208, 3) := by decide +kernel
theorem dX5_readVillageLine_157 : decode cX5_readVillageLine 157 = .ok (.iconst 1, 1) := by decide +kernel
theorem dX5_readVillageLine_158 : decode cX5_readVillageLine 158 = .ok (.ireturn, 1) := by decide +kernel
theorem dX5_addVillage_0 : decode cX5_addVillage 0 = .ok (.aload_n 0, 1) := by decide +kernel
theorem dX5_addVillage_1 : decode cX5_addVillage 1 = .ok (.getfield 35, 3) := by decide +kernel
theorem dX5_addVillage_4 : decode cX5_addVillage 4 = .ok (.getfield 99, 3) := by decide +kernel
theorem dX5_addVillage_7 : decode cX5_addVillage 7 = .ok (.istore 5, 2) := by decide +kernel
theorem dX5_addVillage_9 : decode cX5_addVillage 9 = .ok (.iload 5, 2) := by decide +kernel
theorem dX5_addVillage_11 : decode cX5_addVillage 11 = .ok (.bipush 8, 2) := by decide +kernel
theorem dX5_addVillage_13 : decode cX5_addVillage 13 = .ok (.if_icmp .ge 59, 3) := by decide +kernel
theorem dX5_addVillage_16 : decode cX5_addVillage 16 = .ok (.aload_n 0, 1) := by decide +kernel
theorem dX5_addVillage_17 : decode cX5_addVillage 17 = .ok (.getfield 35, 3) := by decide +kernel
theorem dX5_addVillage_20 : decode cX5_addVillage 20 = .ok (.getfield 212, 3) := by decide +kernel
theorem dX5_addVillage_23 : decode cX5_addVillage 23 = .ok (.iload 5, 2) := by decide +kernel
theorem dX5_addVillage_25 : decode cX5_addVillage 25 = .ok (.iload_n 1, 1) := by decide +kernel
theorem dX5_addVillage_26 : decode cX5_addVillage 26 = .ok (.iastore, 1) := by decide +kernel
theorem dX5_addVillage_27 : decode cX5_addVillage 27 = .ok (.aload_n 0, 1) := by decide +kernel
theorem dX5_addVillage_28 : decode cX5_addVillage 28 = .ok (.getfield 35, 3) := by decide +kernel
theorem dX5_addVillage_31 : decode cX5_addVillage 31 = .ok (.getfield 215, 3) := by decide +kernel
theorem dX5_addVillage_34 : decode cX5_addVillage 34 = .ok (.iload 5, 2) := by decide +kernel
theorem dX5_addVillage_36 : decode cX5_addVillage 36 = .ok (.iload_n 2, 1) := by decide +kernel
theorem dX5_addVillage_37 : decode cX5_addVillage 37 = .ok (.iastore, 1) := by decide +kernel
theorem dX5_addVillage_38 : decode cX5_addVillage 38 = .ok (.aload_n 0, 1) := by decide +kernel
theorem dX5_addVillage_39 : decode cX5_addVillage 39 = .ok (.getfield 35, 3) := by decide +kernel
theorem dX5_addVillage_42 : decode cX5_addVillage 42 = .ok (.getfield 218, 3) := by decide +kernel
theorem dX5_addVillage_45 : decode cX5_addVillage 45 = .ok (.iload 5, 2) := by decide +kernel
theorem dX5_addVillage_47 : decode cX5_addVillage 47 = .ok (.iload_n 3, 1) := by decide +kernel
theorem dX5_addVillage_48 : decode cX5_addVillage 48 = .ok (.iastore, 1) := by decide +kernel
theorem dX5_addVillage_49 : decode cX5_addVillage 49 = .ok (.aload_n 0, 1) := by decide +kernel
theorem dX5_addVillage_50 : decode cX5_addVillage 50 = .ok (.getfield 35, 3) := by decide +kernel
theorem dX5_addVillage_53 : decode cX5_addVillage 53 = .ok (.getfield 221, 3) := by decide +kernel
theorem dX5_addVillage_56 : decode cX5_addVillage 56 = .ok (.iload 5, 2) := by decide +kernel
theorem dX5_addVillage_58 : decode cX5_addVillage 58 = .ok (.iload 4, 2) := by decide +kernel
theorem dX5_addVillage_60 : decode cX5_addVillage 60 = .ok (.iastore, 1) := by decide +kernel
theorem dX5_addVillage_61 : decode cX5_addVillage 61 = .ok (.aload_n 0, 1) := by decide +kernel
theorem dX5_addVillage_62 : decode cX5_addVillage 62 = .ok (.getfield 35, 3) := by decide +kernel
theorem dX5_addVillage_65 : decode cX5_addVillage 65 = .ok (.iload 5, 2) := by decide +kernel
theorem dX5_addVillage_67 : decode cX5_addVillage 67 = .ok (.iconst 1, 1) := by decide +kernel
theorem dX5_addVillage_68 : decode cX5_addVillage 68 = .ok (.iadd, 1) := by decide +kernel
theorem dX5_addVillage_69 : decode cX5_addVillage 69 = .ok (.putfield 99, 3) := by decide +kernel
theorem dX5_addVillage_72 : decode cX5_addVillage 72 = .ok (.return_, 1) := by decide +kernel
theorem dX5_takeParent_0 : decode cX5_takeParent 0 = .ok (.aload_n 0, 1) := by decide +kernel
theorem dX5_takeParent_1 : decode cX5_takeParent 1 = .ok (.getfield 62, 3) := by decide +kernel
theorem dX5_takeParent_4 : decode cX5_takeParent 4 = .ok (.iconst 2, 1) := by decide +kernel
theorem dX5_takeParent_5 : decode cX5_takeParent 5 = .ok (.if_icmp .ne 21, 3) := by decide +kernel
theorem dX5_takeParent_8 : decode cX5_takeParent 8 = .ok (.aload_n 0, 1) := by decide +kernel
theorem dX5_takeParent_9 : decode cX5_takeParent 9 = .ok (.getfield 68, 3) := by decide +kernel
theorem dX5_takeParent_12 : decode cX5_takeParent 12 = .ok (.bipush 8, 2) := by decide +kernel
theorem dX5_takeParent_14 : decode cX5_takeParent 14 = .ok (.if_icmp .ne 12, 3) := by decide +kernel
theorem dX5_takeParent_17 : decode cX5_takeParent 17 = .ok (.aload_n 0, 1) := by decide +kernel
theorem dX5_takeParent_18 : decode cX5_takeParent 18 = .ok (.bipush 8, 2) := by decide +kernel
theorem dX5_takeParent_20 : decode cX5_takeParent 20 = .ok (.bipush 8, 2) := by decide +kernel
theorem dX5_takeParent_22 : decode cX5_takeParent 22 = .ok (.invokevirtual 131, 3) := by decide +kernel
theorem dX5_takeParent_25 : decode cX5_takeParent 25 = .ok (.ireturn, 1) := by decide +kernel
theorem dX5_takeParent_26 : decode cX5_takeParent 26 = .ok (.aload_n 0, 1) := by decide +kernel
theorem dX5_takeParent_27 : decode cX5_takeParent 27 = .ok (.iconst 0, 1) := by decide +kernel
theorem dX5_takeParent_28 : decode cX5_takeParent 28 = .ok (.aload_n 0, 1) := by decide +kernel
theorem dX5_takeParent_29 : decode cX5_takeParent 29 = .ok (.getfield 35, 3) := by decide +kernel
theorem dX5_takeParent_32 : decode cX5_takeParent 32 = .ok (.getfield 99, 3) := by decide +kernel
theorem dX5_takeParent_35 : decode cX5_takeParent 35 = .ok (.iconst 1, 1) := by decide +kernel
theorem dX5_takeParent_36 : decode cX5_takeParent 36 = .ok (.isub, 1) := by decide +kernel
theorem dX5_takeParent_37 : decode cX5_takeParent 37 = .ok (.invokevirtual 131, 3) := by decide +kernel
theorem dX5_takeParent_40 : decode cX5_takeParent 40 = .ok (.ireturn, 1) := by decide +kernel
theorem dX5_takeNumber_0 : decode cX5_takeNumber 0 = .ok (.aload_n 0, 1) := by decide +kernel
theorem dX5_takeNumber_1 : decode cX5_takeNumber 1 = .ok (.getfield 62, 3) := by decide +kernel
theorem dX5_takeNumber_4 : decode cX5_takeNumber 4 = .ok (.iconst 2, 1) := by decide +kernel
theorem dX5_takeNumber_5 : decode cX5_takeNumber 5 = .ok (.if_icmp .eq 5, 3) := by decide +kernel
theorem dX5_takeNumber_8 : decode cX5_takeNumber 8 = .ok (.iconst 0, 1) := by decide +kernel
theorem dX5_takeNumber_9 : decode cX5_takeNumber 9 = .ok (.ireturn, 1) := by decide +kernel
theorem dX5_takeNumber_10 : decode cX5_takeNumber 10 = .ok (.aload_n 0, 1) := by decide +kernel
theorem dX5_takeNumber_11 : decode cX5_takeNumber 11 = .ok (.aload_n 0, 1) := by decide +kernel
theorem dX5_takeNumber_12 : decode cX5_takeNumber 12 = .ok (.getfield 68, 3) := by decide +kernel
theorem dX5_takeNumber_15 : decode cX5_takeNumber 15 = .ok (.putfield 71, 3) := by decide +kernel
theorem dX5_takeNumber_18 : decode cX5_takeNumber 18 = .ok (.aload_n 0, 1) := by decide +kernel
theorem dX5_takeNumber_19 : decode cX5_takeNumber 19 = .ok (.getfield 68, 3) := by decide +kernel
theorem dX5_takeNumber_22 : decode cX5_takeNumber 22 = .ok (.iload_n 1, 1) := by decide +kernel
theorem dX5_takeNumber_23 : decode cX5_takeNumber 23 = .ok (.if_icmp .lt 11, 3) := by decide +kernel
theorem dX5_takeNumber_26 : decode cX5_takeNumber 26 = .ok (.aload_n 0, 1) := by decide +kernel
theorem dX5_takeNumber_27 : decode cX5_takeNumber 27 = .ok (.getfield 68, 3) := by decide +kernel
theorem dX5_takeNumber_30 : decode cX5_takeNumber 30 = .ok (.iload_n 2, 1) := by decide +kernel
theorem dX5_takeNumber_31 : decode cX5_takeNumber 31 = .ok (.if_icmp .le 17, 3) := by decide +kernel
theorem dX5_takeNumber_34 : decode cX5_takeNumber 34 = .ok (.aload_n 0, 1) := by decide +kernel
theorem dX5_takeNumber_35 : decode cX5_takeNumber 35 = .ok (.iconst (-1), 1) := by decide +kernel
theorem dX5_takeNumber_36 : decode cX5_takeNumber 36 = .ok (.putfield 71, 3) := by decide +kernel
theorem dX5_takeNumber_39 : decode cX5_takeNumber 39 = .ok (.aload_n 0, 1) := by decide +kernel
theorem dX5_takeNumber_40 : decode cX5_takeNumber 40 = .ok (.iconst 2, 1) := by decide +kernel
theorem dX5_takeNumber_41 : decode cX5_takeNumber 41 = .ok (.aload_n 0, 1) := by decide +kernel
theorem dX5_takeNumber_42 : decode cX5_takeNumber 42 = .ok (.getfield 65, 3) := by decide +kernel
theorem dX5_takeNumber_45 : decode cX5_takeNumber 45 = .ok (.invokevirtual 170, 3) := by decide +kernel
theorem dX5_takeNumber_48 : decode cX5_takeNumber 48 = .ok (.aload_n 0, 1) := by decide +kernel
theorem dX5_takeNumber_49 : decode cX5_takeNumber 49 = .ok (.invokevirtual 87, 3) := by decide +kernel
theorem dX5_takeNumber_52 : decode cX5_takeNumber 52 = .ok (.iconst 1, 1) := by decide +kernel
theorem dX5_takeNumber_53 : decode cX5_takeNumber 53 = .ok (.ireturn, 1) := by decide +kernel
theorem dX5_takeBeat_0 : decode cX5_takeBeat 0 = .ok (.aload_n 0, 1) := by decide +kernel
theorem dX5_takeBeat_1 : decode cX5_takeBeat 1 = .ok (.invokevirtual 177, 3) := by decide +kernel
theorem dX5_takeBeat_4 : decode cX5_takeBeat 4 = .ok (.ifCond .ne 5, 3) := by decide +kernel
theorem dX5_takeBeat_7 : decode cX5_takeBeat 7 = .ok (.iconst 0, 1) := by decide +kernel
theorem dX5_takeBeat_8 : decode cX5_takeBeat 8 = .ok (.ireturn, 1) := by decide +kernel
theorem dX5_takeBeat_9 : decode cX5_takeBeat 9 = .ok (.aload_n 0, 1) := by decide +kernel
theorem dX5_takeBeat_10 : decode cX5_takeBeat 10 = .ok (.aload_n 0, 1) := by decide +kernel
theorem dX5_takeBeat_11 : decode cX5_takeBeat 11 = .ok (.getfield 68, 3) := by decide +kernel
theorem dX5_takeBeat_14 : decode cX5_takeBeat 14 = .ok (.putfield 71, 3) := by decide +kernel
theorem dX5_takeBeat_17 : decode cX5_takeBeat 17 = .ok (.aload_n 0, 1) := by decide +kernel
theorem dX5_takeBeat_18 : decode cX5_takeBeat 18 = .ok (.invokevirtual 87, 3) := by decide +kernel
theorem dX5_takeBeat_21 : decode cX5_takeBeat 21 = .ok (.iconst 1, 1) := by decide +kernel
theorem dX5_takeBeat_22 : decode cX5_takeBeat 22 = .ok (.ireturn, 1) := by decide +kernel
theorem dX5_takeMove_0 : decode cX5_takeMove 0 = .ok (.aload_n 0, 1) := by decide +kernel
theorem dX5_takeMove_1 : decode cX5_takeMove 1 = .ok (.invokevirtual 200, 3) := by decide +kernel
theorem dX5_takeMove_4 : decode cX5_takeMove 4 = .ok (.ifCond .ne 5, 3) := by decide +kernel
theorem dX5_takeMove_7 : decode cX5_takeMove 7 = .ok (.iconst 0, 1) := by decide +kernel
theorem dX5_takeMove_8 : decode cX5_takeMove 8 = .ok (.ireturn, 1) := by decide +kernel
theorem dX5_takeMove_9 : decode cX5_takeMove 9 = .ok (.aload_n 0, 1) := by decide +kernel
theorem dX5_takeMove_10 : decode cX5_takeMove 10 = .ok (.aload_n 0, 1) := by decide +kernel
theorem dX5_takeMove_11 : decode cX5_takeMove 11 = .ok (.getfield 68, 3) := by decide +kernel
theorem dX5_takeMove_14 : decode cX5_takeMove 14 = .ok (.iconst 4, 1) := by decide +kernel
theorem dX5_takeMove_15 : decode cX5_takeMove 15 = .ok (.isub, 1) := by decide +kernel
theorem dX5_takeMove_16 : decode cX5_takeMove 16 = .ok (.putfield 71, 3) := by decide +kernel
theorem dX5_takeMove_19 : decode cX5_takeMove 19 = .ok (.aload_n 0, 1) := by decide +kernel
theorem dX5_takeMove_20 : decode cX5_takeMove 20 = .ok (.invokevirtual 87, 3) := by decide +kernel
theorem dX5_takeMove_23 : decode cX5_takeMove 23 = .ok (.iconst 1, 1) := by decide +kernel
theorem dX5_takeMove_24 : decode cX5_takeMove 24 = .ok (.ireturn, 1) := by decide +kernel
theorem dX5_takeSemicolon_0 : decode cX5_takeSemicolon 0 = .ok (.aload_n 0, 1) := by decide +kernel
theorem dX5_takeSemicolon_1 : decode cX5_takeSemicolon 1 = .ok (.getfield 62, 3) := by decide +kernel
theorem dX5_takeSemicolon_4 : decode cX5_takeSemicolon 4 = .ok (.iconst 3, 1) := by decide +kernel
theorem dX5_takeSemicolon_5 : decode cX5_takeSemicolon 5 = .ok (.if_icmp .eq 5, 3) := by decide +kernel
theorem dX5_takeSemicolon_8 : decode cX5_takeSemicolon 8 = .ok (.iconst 0, 1) := by decide +kernel
theorem dX5_takeSemicolon_9 : decode cX5_takeSemicolon 9 = .ok (.ireturn, 1) := by decide +kernel
theorem dX5_takeSemicolon_10 : decode cX5_takeSemicolon 10 = .ok (.aload_n 0, 1) := by decide +kernel
theorem dX5_takeSemicolon_11 : decode cX5_takeSemicolon 11 = .ok (.invokevirtual 87, 3) := by decide +kernel
theorem dX5_takeSemicolon_14 : decode cX5_takeSemicolon 14 = .ok (.iconst 1, 1) := by decide +kernel
theorem dX5_takeSemicolon_15 : decode cX5_takeSemicolon 15 = .ok (.ireturn, 1) := by decide +kernel
theorem dX5_isBeatHere_0 : decode cX5_isBeatHere 0 = .ok (.aload_n 0, 1) := by decide +kernel
theorem dX5_isBeatHere_1 : decode cX5_isBeatHere 1 = .ok (.getfield 62, 3) := by decide +kernel
theorem dX5_isBeatHere_4 : decode cX5_isBeatHere 4 = .ok (.iconst 1, 1) := by decide +kernel
theorem dX5_isBeatHere_5 : decode cX5_isBeatHere 5 = .ok (.if_icmp .ne 22, 3) := by decide +kernel
theorem dX5_isBeatHere_8 : decode cX5_isBeatHere 8 = .ok (.aload_n 0, 1) := by decide +kernel
theorem dX5_isBeatHere_9 : decode cX5_isBeatHere 9 = .ok (.getfield 68, 3) := by decide +kernel
theorem dX5_isBeatHere_12 : decode cX5_isBeatHere 12 = .ok (.ifCond .lt 15, 3) := by decide +kernel
theorem dX5_isBeatHere_15 : decode cX5_isBeatHere 15 = .ok (.aload_n 0, 1) := by decide +kernel
theorem dX5_isBeatHere_16 : decode cX5_isBeatHere 16 = .ok (.getfield 68, 3) := by decide +kernel
theorem dX5_isBeatHere_19 : decode cX5_isBeatHere 19 = .ok (.iconst 4, 1) := by decide +kernel
theorem dX5_isBeatHere_20 : decode cX5_isBeatHere 20 = .ok (.if_icmp .ge 7, 3) := by decide +kernel
theorem dX5_isBeatHere_23 : decode cX5_isBeatHere 23 = .ok (.iconst 1, 1) := by decide +kernel
theorem dX5_isBeatHere_24 : decode cX5_isBeatHere 24 = .ok (.goto 4, 3) := by decide +kernel
theorem dX5_isBeatHere_27 : decode cX5_isBeatHere 27 = .ok (.iconst 0, 1) := by decide +kernel
theorem dX5_isBeatHere_28 : decode cX5_isBeatHere 28 = .ok (.ireturn, 1) := by decide +kernel
theorem dX5_isMoveHere_0 : decode cX5_isMoveHere 0 = .ok (.aload_n 0, 1) := by decide +kernel
theorem dX5_isMoveHere_1 : decode cX5_isMoveHere 1 = .ok (.getfield 62, 3) := by decide +kernel
theorem dX5_isMoveHere_4 : decode cX5_isMoveHere 4 = .ok (.iconst 1, 1) := by decide +kernel
theorem dX5_isMoveHere_5 : decode cX5_isMoveHere 5 = .ok (.if_icmp .ne 24, 3) := by decide +kernel
theorem dX5_isMoveHere_8 : decode cX5_isMoveHere 8 = .ok (.aload_n 0, 1) := by decide +kernel
theorem dX5_isMoveHere_9 : decode cX5_isMoveHere 9 = .ok (.getfield 68, 3) := by decide +kernel
theorem dX5_isMoveHere_12 : decode cX5_isMoveHere 12 = .ok (.iconst 4, 1) := by decide +kernel
theorem dX5_isMoveHere_13 : decode cX5_isMoveHere 13 = .ok (.if_icmp .lt 16, 3) := by decide +kernel
theorem dX5_isMoveHere_16 : decode cX5_isMoveHere 16 = .ok (.aload_n 0, 1) := by decide +kernel
theorem dX5_isMoveHere_17 : decode cX5_isMoveHere 17 = .ok (.getfield 68, 3) := by decide +kernel
theorem dX5_isMoveHere_20 : decode cX5_isMoveHere 20 = .ok (.bipush 9, 2) := by decide +kernel
theorem dX5_isMoveHere_22 : decode cX5_isMoveHere 22 = .ok (.if_icmp .ge 7, 3) := by decide +kernel
theorem dX5_isMoveHere_25 : decode cX5_isMoveHere 25 = .ok (.iconst 1, 1) := by decide +kernel
theorem dX5_isMoveHere_26 : decode cX5_isMoveHere 26 = .ok (.goto 4, 3) := by decide +kernel
theorem dX5_isMoveHere_29 : decode cX5_isMoveHere 29 = .ok (.iconst 0, 1) := by decide +kernel
theorem dX5_isMoveHere_30 : decode cX5_isMoveHere 30 = .ok (.ireturn, 1) := by decide +kernel
theorem dX5_note_0 : decode cX5_note 0 = .ok (.aload_n 0, 1) := by decide +kernel
theorem dX5_note_1 : decode cX5_note 1 = .ok (.getfield 39, 3) := by decide +kernel
theorem dX5_note_4 : decode cX5_note 4 = .ok (.ifCond .eq 27, 3) := by decide +kernel
theorem dX5_note_7 : decode cX5_note 7 = .ok (.iload_n 2, 1) := by decide +kernel
theorem dX5_note_8 : decode cX5_note 8 = .ok (.aload_n 0, 1) := by decide +kernel
theorem dX5_note_9 : decode cX5_note 9 = .ok (.getfield 43, 3) := by decide +kernel
theorem dX5_note_12 : decode cX5_note 12 = .ok (.if_icmp .lt 19, 3) := by decide +kernel
theorem dX5_note_15 : decode cX5_note 15 = .ok (.iload_n 2, 1) := by decide +kernel
theorem dX5_note_16 : decode cX5_note 16 = .ok (.aload_n 0, 1) := by decide +kernel
theorem dX5_note_17 : decode cX5_note 17 = .ok (.getfield 43, 3) := by decide +kernel
theorem dX5_note_20 : decode cX5_note 20 = .ok (.if_icmp .ne 15, 3) := by decide +kernel
theorem dX5_note_23 : decode cX5_note 23 = .ok (.iload_n 1, 1) := by decide +kernel
theorem dX5_note_24 : decode cX5_note 24 = .ok (.aload_n 0, 1) := by decide +kernel
theorem dX5_note_25 : decode cX5_note 25 = .ok (.getfield 39, 3) := by decide +kernel
theorem dX5_note_28 : decode cX5_note 28 = .ok (.if_icmp .ge 7, 3) := by decide +kernel
theorem dX5_note_31 : decode cX5_note 31 = .ok (.iconst 1, 1) := by decide +kernel
theorem dX5_note_32 : decode cX5_note 32 = .ok (.goto 4, 3) := by decide +kernel
theorem dX5_note_35 : decode cX5_note 35 = .ok (.iconst 0, 1) := by decide +kernel
theorem dX5_note_36 : decode cX5_note 36 = .ok (.istore_n 3, 1) := by decide +kernel
theorem dX5_note_37 : decode cX5_note 37 = .ok (.iload_n 3, 1) := by decide +kernel
theorem dX5_note_38 : decode cX5_note 38 = .ok (.ifCond .eq 13, 3) := by decide +kernel
theorem dX5_note_41 : decode cX5_note 41 = .ok (.aload_n 0, 1) := by decide +kernel
theorem dX5_note_42 : decode cX5_note 42 = .ok (.iload_n 1, 1) := by decide +kernel
theorem dX5_note_43 : decode cX5_note 43 = .ok (.putfield 39, 3) := by decide +kernel
theorem dX5_note_46 : decode cX5_note 46 = .ok (.aload_n 0, 1) := by decide +kernel
theorem dX5_note_47 : decode cX5_note 47 = .ok (.iload_n 2, 1) := by decide +kernel
theorem dX5_note_48 : decode cX5_note 48 = .ok (.putfield 43, 3) := by decide +kernel
theorem dX5_note_51 : decode cX5_note 51 = .ok (.return_, 1) := by decide +kernel
theorem dX5_next_0 : decode cX5_next 0 = .ok (.aload_n 0, 1) := by decide +kernel
theorem dX5_next_1 : decode cX5_next 1 = .ok (.getfield 59, 3) := by decide +kernel
theorem dX5_next_4 : decode cX5_next 4 = .ok (.aload_n 0, 1) := by decide +kernel
theorem dX5_next_5 : decode cX5_next 5 = .ok (.getfield 56, 3) := by decide +kernel
theorem dX5_next_8 : decode cX5_next 8 = .ok (.if_icmp .ge 52, 3) := by decide +kernel
theorem dX5_next_11 : decode cX5_next 11 = .ok (.aload_n 0, 1) := by decide +kernel
theorem dX5_next_12 : decode cX5_next 12 = .ok (.aload_n 0, 1) := by decide +kernel
theorem dX5_next_13 : decode cX5_next 13 = .ok (.getfield 46, 3) := by decide +kernel
theorem dX5_next_16 : decode cX5_next 16 = .ok (.aload_n 0, 1) := by decide +kernel
theorem dX5_next_17 : decode cX5_next 17 = .ok (.getfield 59, 3) := by decide +kernel
theorem dX5_next_20 : decode cX5_next 20 = .ok (.iaload, 1) := by decide +kernel
theorem dX5_next_21 : decode cX5_next 21 = .ok (.putfield 62, 3) := by decide +kernel
theorem dX5_next_24 : decode cX5_next 24 = .ok (.aload_n 0, 1) := by decide +kernel
theorem dX5_next_25 : decode cX5_next 25 = .ok (.aload_n 0, 1) := by decide +kernel
theorem dX5_next_26 : decode cX5_next 26 = .ok (.getfield 50, 3) := by decide +kernel
theorem dX5_next_29 : decode cX5_next 29 = .ok (.aload_n 0, 1) := by decide +kernel
theorem dX5_next_30 : decode cX5_next 30 = .ok (.getfield 59, 3) := by decide +kernel
theorem dX5_next_33 : decode cX5_next 33 = .ok (.iaload, 1) := by decide +kernel
theorem dX5_next_34 : decode cX5_next 34 = .ok (.putfield 65, 3) := by decide +kernel
theorem dX5_next_37 : decode cX5_next 37 = .ok (.aload_n 0, 1) := by decide +kernel
theorem dX5_next_38 : decode cX5_next 38 = .ok (.aload_n 0, 1) := by decide +kernel
theorem dX5_next_39 : decode cX5_next 39 = .ok (.getfield 53, 3) := by decide +kernel
theorem dX5_next_42 : decode cX5_next 42 = .ok (.aload_n 0, 1) := by decide +kernel
theorem dX5_next_43 : decode cX5_next 43 = .ok (.getfield 59, 3) := by decide +kernel
theorem dX5_next_46 : decode cX5_next 46 = .ok (.iaload, 1) := by decide +kernel
theorem dX5_next_47 : decode cX5_next 47 = .ok (.putfield 68, 3) := by decide +kernel
theorem dX5_next_50 : decode cX5_next 50 = .ok (.aload_n 0, 1) := by decide +kernel
theorem dX5_next_51 : decode cX5_next 51 = .ok (.dup, 1) := by decide +kernel
theorem dX5_next_52 : decode cX5_next 52 = .ok (.getfield 59, 3) := by decide +kernel
theorem dX5_next_55 : decode cX5_next 55 = .ok (.iconst 1, 1) := by decide +kernel
theorem dX5_next_56 : decode cX5_next 56 = .ok (.iadd, 1) := by decide +kernel
theorem dX5_next_57 : decode cX5_next 57 = .ok (.putfield 59, 3) := by decide +kernel
theorem dX5_next_60 : decode cX5_next 60 = .ok (.return_, 1) := by decide +kernel
theorem dX5_scan_0 : decode cX5_scan 0 = .ok (.aload_n 0, 1) := by decide +kernel
theorem dX5_scan_1 : decode cX5_scan 1 = .ok (.iconst 0, 1) := by decide +kernel
theorem dX5_scan_2 : decode cX5_scan 2 = .ok (.putfield 56, 3) := by decide +kernel
theorem dX5_scan_5 : decode cX5_scan 5 = .ok (.iconst 0, 1) := by decide +kernel
theorem dX5_scan_6 : decode cX5_scan 6 = .ok (.istore_n 3, 1) := by decide +kernel
theorem dX5_scan_7 : decode cX5_scan 7 = .ok (.iload_n 3, 1) := by decide +kernel
theorem dX5_scan_8 : decode cX5_scan 8 = .ok (.iload_n 2, 1) := by decide +kernel
theorem dX5_scan_9 : decode cX5_scan 9 = .ok (.if_icmp .ge 141, 3) := by decide +kernel
theorem dX5_scan_12 : decode cX5_scan 12 = .ok (.iload_n 3, 1) := by decide +kernel
theorem dX5_scan_13 : decode cX5_scan 13 = .ok (.iconst 1, 1) := by decide +kernel
theorem dX5_scan_14 : decode cX5_scan 14 = .ok (.iadd, 1) := by decide +kernel
theorem dX5_scan_15 : decode cX5_scan 15 = .ok (.istore 4, 2) := by decide +kernel
theorem dX5_scan_17 : decode cX5_scan 17 = .ok (.aload_n 1, 1) := by decide +kernel
theorem dX5_scan_18 : decode cX5_scan 18 = .ok (.iload_n 3, 1) := by decide +kernel
theorem dX5_scan_19 : decode cX5_scan 19 = .ok (.baload, 1) := by decide +kernel
theorem dX5_scan_20 : decode cX5_scan 20 = .ok (.invokestatic 224, 3) := by decide +kernel
theorem dX5_scan_23 : decode cX5_scan 23 = .ok (.ifCond .eq 28, 3) := by decide +kernel
theorem dX5_scan_26 : decode cX5_scan 26 = .ok (.aload_n 1, 1) := by decide +kernel
theorem dX5_scan_27 : decode cX5_scan 27 = .ok (.iload 4, 2) := by decide +kernel
theorem dX5_scan_29 : decode cX5_scan 29 = .ok (.iload_n 2, 1) := by decide +kernel
theorem dX5_scan_30 : decode cX5_scan 30 = .ok (.invokestatic 227, 3) := by decide +kernel
theorem dX5_scan_33 : decode cX5_scan 33 = .ok (.istore 4, 2) := by decide +kernel
theorem dX5_scan_35 : decode cX5_scan 35 = .ok (.aload_n 0, 1) := by decide +kernel
theorem dX5_scan_36 : decode cX5_scan 36 = .ok (.iconst 1, 1) := by decide +kernel
theorem dX5_scan_37 : decode cX5_scan 37 = .ok (.iload_n 3, 1) := by decide +kernel
theorem dX5_scan_38 : decode cX5_scan 38 = .ok (.aload_n 1, 1) := by decide +kernel
theorem dX5_scan_39 : decode cX5_scan 39 = .ok (.iload_n 3, 1) := by decide +kernel
theorem dX5_scan_40 : decode cX5_scan 40 = .ok (.iload 4, 2) := by decide +kernel
theorem dX5_scan_42 : decode cX5_scan 42 = .ok (.invokestatic 231, 3) := by decide +kernel
theorem dX5_scan_45 : decode cX5_scan 45 = .ok (.invokevirtual 234, 3) := by decide +kernel
theorem dX5_scan_48 : decode cX5_scan 48 = .ok (.goto 90, 3) := by decide +kernel
theorem dX5_scan_51 : decode cX5_scan 51 = .ok (.aload_n 1, 1) := by decide +kernel
theorem dX5_scan_52 : decode cX5_scan 52 = .ok (.iload_n 3, 1) := by decide +kernel
theorem dX5_scan_53 : decode cX5_scan 53 = .ok (.baload, 1) := by decide +kernel
theorem dX5_scan_54 : decode cX5_scan 54 = .ok (.invokestatic 238, 3) := by decide +kernel
theorem dX5_scan_57 : decode cX5_scan 57 = .ok (.ifCond .eq 40, 3) := by decide +kernel
theorem dX5_scan_60 : decode cX5_scan 60 = .ok (.aload_n 1, 1) := by decide +kernel
theorem dX5_scan_61 : decode cX5_scan 61 = .ok (.iload 4, 2) := by decide +kernel
theorem dX5_scan_63 : decode cX5_scan 63 = .ok (.iload_n 2, 1) := by decide +kernel
theorem dX5_scan_64 : decode cX5_scan 64 = .ok (.invokestatic 241, 3) := by decide +kernel
theorem dX5_scan_67 : decode cX5_scan 67 = .ok (.istore 4, 2) := by decide +kernel
theorem dX5_scan_69 : decode cX5_scan 69 = .ok (.aload_n 0, 1) := by decide +kernel
theorem dX5_scan_70 : decode cX5_scan 70 = .ok (.iload 4, 2) := by decide +kernel
theorem dX5_scan_72 : decode cX5_scan 72 = .ok (.iload_n 3, 1) := by decide +kernel
theorem dX5_scan_73 : decode cX5_scan 73 = .ok (.isub, 1) := by decide +kernel
theorem dX5_scan_74 : decode cX5_scan 74 = .ok (.iconst 2, 1) := by decide +kernel
theorem dX5_scan_75 : decode cX5_scan 75 = .ok (.if_icmp .le 7, 3) := by decide +kernel
theorem dX5_scan_78 : decode cX5_scan 78 = .ok (.iconst 4, 1) := by decide +kernel
theorem dX5_scan_79 : decode cX5_scan 79 = .ok (.goto 4, 3) := by decide +kernel
theorem dX5_scan_82 : decode cX5_scan 82 = .ok (.iconst 2, 1) := by decide +kernel
theorem dX5_scan_83 : decode cX5_scan 83 = .ok (.iload_n 3, 1) := by decide +kernel
theorem dX5_scan_84 : decode cX5_scan 84 = .ok (.aload_n 1, 1) := by decide +kernel
theorem dX5_scan_85 : decode cX5_scan 85 = .ok (.iload_n 3, 1) := by decide +kernel
theorem dX5_scan_86 : decode cX5_scan 86 = .ok (.iload 4, 2) := by decide +kernel
theorem dX5_scan_88 : decode cX5_scan 88 = .ok (.invokestatic 244, 3) := by decide +kernel
theorem dX5_scan_91 : decode cX5_scan 91 = .ok (.invokevirtual 234, 3) := by decide +kernel
theorem dX5_scan_94 : decode cX5_scan 94 = .ok (.goto 44, 3) := by decide +kernel
theorem dX5_scan_97 : decode cX5_scan 97 = .ok (.aload_n 1, 1) := by decide +kernel
theorem dX5_scan_98 : decode cX5_scan 98 = .ok (.iload_n 3, 1) := by decide +kernel
theorem dX5_scan_99 : decode cX5_scan 99 = .ok (.baload, 1) := by decide +kernel
theorem dX5_scan_100 : decode cX5_scan 100 = .ok (.bipush 59, 2) := by decide +kernel
theorem dX5_scan_102 : decode cX5_scan 102 = .ok (.if_icmp .ne 13, 3) := by decide +kernel
theorem dX5_scan_105 : decode cX5_scan 105 = .ok (.aload_n 0, 1) := by decide +kernel
theorem dX5_scan_106 : decode cX5_scan 106 = .ok (.iconst 3, 1) := by decide +kernel
theorem dX5_scan_107 : decode cX5_scan 107 = .ok (.iload_n 3, 1) := by decide +kernel
theorem dX5_scan_108 : decode cX5_scan 108 = .ok (.iconst (-1), 1) := by decide +kernel
theorem dX5_scan_109 : decode cX5_scan 109 = .ok (.invokevirtual 234, 3) := by decide +kernel
theorem dX5_scan_112 : decode cX5_scan 112 = .ok (.goto 26, 3) := by decide +kernel
theorem dX5_scan_115 : decode cX5_scan 115 = .ok (.aload_n 1, 1) := by decide +kernel
theorem dX5_scan_116 : decode cX5_scan 116 = .ok (.iload_n 3, 1) := by decide +kernel
theorem dX5_scan_117 : decode cX5_scan 117 = .ok (.baload, 1) := by decide +kernel
theorem dX5_scan_118 : decode cX5_scan 118 = .ok (.bipush 32, 2) := by decide +kernel
theorem dX5_scan_120 : decode cX5_scan 120 = .ok (.if_icmp .eq 18, 3) := by decide +kernel
theorem dX5_scan_123 : decode cX5_scan 123 = .ok (.aload_n 1, 1) := by decide +kernel
theorem dX5_scan_124 : decode cX5_scan 124 = .ok (.iload_n 3, 1) := by decide +kernel
theorem dX5_scan_125 : decode cX5_scan 125 = .ok (.baload, 1) := by decide +kernel
theorem dX5_scan_126 : decode cX5_scan 126 = .ok (.bipush 10, 2) := by decide +kernel
theorem dX5_scan_128 : decode cX5_scan 128 = .ok (.if_icmp .eq 10, 3) := by decide +kernel
theorem dX5_scan_131 : decode cX5_scan 131 = .ok (.aload_n 0, 1) := by decide +kernel
theorem dX5_scan_132 : decode cX5_scan 132 = .ok (.iconst 4, 1) := by decide +kernel
theorem dX5_scan_133 : decode cX5_scan 133 = .ok (.iload_n 3, 1) := by decide +kernel
theorem dX5_scan_134 : decode cX5_scan 134 = .ok (.iconst (-1), 1) := by decide +kernel
theorem dX5_scan_135 : decode cX5_scan 135 = .ok (.invokevirtual 234, 3) := by decide +kernel
theorem dX5_scan_138 : decode cX5_scan 138 = .ok (.iload_n 3, 1) := by decide +kernel
theorem dX5_scan_139 : decode cX5_scan 139 = .ok (.iconst 1, 1) := by decide +kernel
theorem dX5_scan_140 : decode cX5_scan 140 = .ok (.iadd, 1) := by decide +kernel
theorem dX5_scan_141 : decode cX5_scan 141 = .ok (.iload 4, 2) := by decide +kernel
theorem dX5_scan_143 : decode cX5_scan 143 = .ok (.invokestatic 247, 3) := by decide +kernel
theorem dX5_scan_146 : decode cX5_scan 146 = .ok (.istore_n 3, 1) := by decide +kernel
theorem dX5_scan_147 : decode cX5_scan 147 = .ok (.goto (-140), 3) := by decide +kernel
theorem dX5_scan_150 : decode cX5_scan 150 = .ok (.aload_n 0, 1) := by decide +kernel
theorem dX5_scan_151 : decode cX5_scan 151 = .ok (.iconst 0, 1) := by decide +kernel
theorem dX5_scan_152 : decode cX5_scan 152 = .ok (.iload_n 2, 1) := by decide +kernel
theorem dX5_scan_153 : decode cX5_scan 153 = .ok (.iconst (-1), 1) := by decide +kernel
theorem dX5_scan_154 : decode cX5_scan 154 = .ok (.invokevirtual 234, 3) := by decide +kernel
theorem dX5_scan_157 : decode cX5_scan 157 = .ok (.return_, 1) := by decide +kernel
theorem dX5_keepToken_0 : decode cX5_keepToken 0 = .ok (.aload_n 0, 1) := by decide +kernel
theorem dX5_keepToken_1 : decode cX5_keepToken 1 = .ok (.getfield 56, 3) := by decide +kernel
theorem dX5_keepToken_4 : decode cX5_keepToken 4 = .ok (.sipush 600, 3) := by decide +kernel
theorem dX5_keepToken_7 : decode cX5_keepToken 7 = .ok (.if_icmp .gt 43, 3) := by decide +kernel
theorem dX5_keepToken_10 : decode cX5_keepToken 10 = .ok (.aload_n 0, 1) := by decide +kernel
theorem dX5_keepToken_11 : decode cX5_keepToken 11 = .ok (.getfield 46, 3) := by decide +kernel
theorem dX5_keepToken_14 : decode cX5_keepToken 14 = .ok (.aload_n 0, 1) := by decide +kernel
theorem dX5_keepToken_15 : decode cX5_keepToken 15 = .ok (.getfield 56, 3) := by decide +kernel
theorem dX5_keepToken_18 : decode cX5_keepToken 18 = .ok (.iload_n 1, 1) := by decide +kernel
theorem dX5_keepToken_19 : decode cX5_keepToken 19 = .ok (.iastore, 1) := by decide +kernel
theorem dX5_keepToken_20 : decode cX5_keepToken 20 = .ok (.aload_n 0, 1) := by decide +kernel
theorem dX5_keepToken_21 : decode cX5_keepToken 21 = .ok (.getfield 50, 3) := by decide +kernel
theorem dX5_keepToken_24 : decode cX5_keepToken 24 = .ok (.aload_n 0, 1) := by decide +kernel
theorem dX5_keepToken_25 : decode cX5_keepToken 25 = .ok (.getfield 56, 3) := by decide +kernel
theorem dX5_keepToken_28 : decode cX5_keepToken 28 = .ok (.iload_n 2, 1) := by decide +kernel
theorem dX5_keepToken_29 : decode cX5_keepToken 29 = .ok (.iastore, 1) := by decide +kernel
theorem dX5_keepToken_30 : decode cX5_keepToken 30 = .ok (.aload_n 0, 1) := by decide +kernel
theorem dX5_keepToken_31 : decode cX5_keepToken 31 = .ok (.getfield 53, 3) := by decide +kernel
theorem dX5_keepToken_34 : decode cX5_keepToken 34 = .ok (.aload_n 0, 1) := by decide +kernel
theorem dX5_keepToken_35 : decode cX5_keepToken 35 = .ok (.getfield 56, 3) := by decide +kernel
theorem dX5_keepToken_38 : decode cX5_keepToken 38 = .ok (.iload_n 3, 1) := by decide +kernel
theorem dX5_keepToken_39 : decode cX5_keepToken 39 = .ok (.iastore, 1) := by decide +kernel
theorem dX5_keepToken_40 : decode cX5_keepToken 40 = .ok (.aload_n 0, 1) := by decide +kernel
theorem dX5_keepToken_41 : decode cX5_keepToken 41 = .ok (.dup, 1) := by decide +kernel
theorem dX5_keepToken_42 : decode cX5_keepToken 42 = .ok (.getfield 56, 3) := by decide +kernel
theorem dX5_keepToken_45 : decode cX5_keepToken 45 = .ok (.iconst 1, 1) := by decide +kernel
theorem dX5_keepToken_46 : decode cX5_keepToken 46 = .ok (.iadd, 1) := by decide +kernel
theorem dX5_keepToken_47 : decode cX5_keepToken 47 = .ok (.putfield 56, 3) := by decide +kernel
theorem dX5_keepToken_50 : decode cX5_keepToken 50 = .ok (.return_, 1) := by decide +kernel
theorem dX5_isLetter_0 : decode cX5_isLetter 0 = .ok (.iload_n 0, 1) := by decide +kernel
theorem dX5_isLetter_1 : decode cX5_isLetter 1 = .ok (.bipush 97, 2) := by decide +kernel
theorem dX5_isLetter_3 : decode cX5_isLetter 3 = .ok (.if_icmp .lt 13, 3) := by decide +kernel
theorem dX5_isLetter_6 : decode cX5_isLetter 6 = .ok (.iload_n 0, 1) := by decide +kernel
theorem dX5_isLetter_7 : decode cX5_isLetter 7 = .ok (.bipush 122, 2) := by decide +kernel
theorem dX5_isLetter_9 : decode cX5_isLetter 9 = .ok (.if_icmp .gt 7, 3) := by decide +kernel
theorem dX5_isLetter_12 : decode cX5_isLetter 12 = .ok (.iconst 1, 1) := by decide +kernel
theorem dX5_isLetter_13 : decode cX5_isLetter 13 = .ok (.goto 4, 3) := by decide +kernel
theorem dX5_isLetter_16 : decode cX5_isLetter 16 = .ok (.iconst 0, 1) := by decide +kernel
theorem dX5_isLetter_17 : decode cX5_isLetter 17 = .ok (.ireturn, 1) := by decide +kernel
theorem dX5_isDigit_0 : decode cX5_isDigit 0 = .ok (.iload_n 0, 1) := by decide +kernel
theorem dX5_isDigit_1 : decode cX5_isDigit 1 = .ok (.bipush 48, 2) := by decide +kernel
theorem dX5_isDigit_3 : decode cX5_isDigit 3 = .ok (.if_icmp .lt 13, 3) := by decide +kernel
theorem dX5_isDigit_6 : decode cX5_isDigit 6 = .ok (.iload_n 0, 1) := by decide +kernel
theorem dX5_isDigit_7 : decode cX5_isDigit 7 = .ok (.bipush 57, 2) := by decide +kernel
theorem dX5_isDigit_9 : decode cX5_isDigit 9 = .ok (.if_icmp .gt 7, 3) := by decide +kernel
theorem dX5_isDigit_12 : decode cX5_isDigit 12 = .ok (.iconst 1, 1) := by decide +kernel
theorem dX5_isDigit_13 : decode cX5_isDigit 13 = .ok (.goto 4, 3) := by decide +kernel
theorem dX5_isDigit_16 : decode cX5_isDigit 16 = .ok (.iconst 0, 1) := by decide +kernel
theorem dX5_isDigit_17 : decode cX5_isDigit 17 = .ok (.ireturn, 1) := by decide +kernel
theorem dX5_behindLetters_0 : decode cX5_behindLetters 0 = .ok (.iload_n 1, 1) := by decide +kernel
theorem dX5_behindLetters_1 : decode cX5_behindLetters 1 = .ok (.istore_n 3, 1) := by decide +kernel
theorem dX5_behindLetters_2 : decode cX5_behindLetters 2 = .ok (.iload_n 3, 1) := by decide +kernel
theorem dX5_behindLetters_3 : decode cX5_behindLetters 3 = .ok (.iload_n 2, 1) := by decide +kernel
theorem dX5_behindLetters_4 : decode cX5_behindLetters 4 = .ok (.if_icmp .ge 18, 3) := by decide +kernel
theorem dX5_behindLetters_7 : decode cX5_behindLetters 7 = .ok (.aload_n 0, 1) := by decide +kernel
theorem dX5_behindLetters_8 : decode cX5_behindLetters 8 = .ok (.iload_n 3, 1) := by decide +kernel
theorem dX5_behindLetters_9 : decode cX5_behindLetters 9 = .ok (.baload, 1) := by decide +kernel
theorem dX5_behindLetters_10 : decode cX5_behindLetters 10 = .ok (.invokestatic 224, 3) := by decide +kernel
theorem dX5_behindLetters_13 : decode cX5_behindLetters 13 = .ok (.ifCond .eq 9, 3) := by decide +kernel
theorem dX5_behindLetters_16 : decode cX5_behindLetters 16 = .ok (.iinc 3 1, 3) := by decide +kernel
theorem dX5_behindLetters_19 : decode cX5_behindLetters 19 = .ok (.goto (-17), 3) := by decide +kernel
theorem dX5_behindLetters_22 : decode cX5_behindLetters 22 = .ok (.iload_n 3, 1) := by decide +kernel
theorem dX5_behindLetters_23 : decode cX5_behindLetters 23 = .ok (.ireturn, 1) := by decide +kernel
theorem dX5_behindDigits_0 : decode cX5_behindDigits 0 = .ok (.iload_n 1, 1) := by decide +kernel
theorem dX5_behindDigits_1 : decode cX5_behindDigits 1 = .ok (.istore_n 3, 1) := by decide +kernel
theorem dX5_behindDigits_2 : decode cX5_behindDigits 2 = .ok (.iload_n 3, 1) := by decide +kernel
theorem dX5_behindDigits_3 : decode cX5_behindDigits 3 = .ok (.iload_n 2, 1) := by decide +kernel
theorem dX5_behindDigits_4 : decode cX5_behindDigits 4 = .ok (.if_icmp .ge 18, 3) := by decide +kernel
theorem dX5_behindDigits_7 : decode cX5_behindDigits 7 = .ok (.aload_n 0, 1) := by decide +kernel
theorem dX5_behindDigits_8 : decode cX5_behindDigits 8 = .ok (.iload_n 3, 1) := by decide +kernel
theorem dX5_behindDigits_9 : decode cX5_behindDigits 9 = .ok (.baload, 1) := by decide +kernel
theorem dX5_behindDigits_10 : decode cX5_behindDigits 10 = .ok (.invokestatic 238, 3) := by decide +kernel
theorem dX5_behindDigits_13 : decode cX5_behindDigits 13 = .ok (.ifCond .eq 9, 3) := by decide +kernel
theorem dX5_behindDigits_16 : decode cX5_behindDigits 16 = .ok (.iinc 3 1, 3) := by decide +kernel
theorem dX5_behindDigits_19 : decode cX5_behindDigits 19 = .ok (.goto (-17), 3) := by decide +kernel
theorem dX5_behindDigits_22 : decode cX5_behindDigits 22 = .ok (.iload_n 3, 1) := by decide +kernel
theorem dX5_behindDigits_23 : decode cX5_behindDigits 23 = .ok (.ireturn, 1) := by decide +kernel
theorem dX5_number_0 : decode cX5_number 0 = .ok (.iconst 0, 1) := by decide +kernel
theorem dX5_number_1 : decode cX5_number 1 = .ok (.istore_n 3, 1) := by decide +kernel
theorem dX5_number_2 : decode cX5_number 2 = .ok (.iload_n 1, 1) := by decide +kernel
theorem dX5_number_3 : decode cX5_number 3 = .ok (.istore 4, 2) := by decide +kernel
theorem dX5_number_5 : decode cX5_number 5 = .ok (.iload 4, 2) := by decide +kernel
theorem dX5_number_7 : decode cX5_number 7 = .ok (.iload_n 2, 1) := by decide +kernel
theorem dX5_number_8 : decode cX5_number 8 = .ok (.if_icmp .ge 22, 3) := by decide +kernel
theorem dX5_number_11 : decode cX5_number 11 = .ok (.iload_n 3, 1) := by decide +kernel
theorem dX5_number_12 : decode cX5_number 12 = .ok (.bipush 10, 2) := by decide +kernel
theorem dX5_number_14 : decode cX5_number 14 = .ok (.imul, 1) := by decide +kernel
theorem dX5_number_15 : decode cX5_number 15 = .ok (.aload_n 0, 1) := by decide +kernel
theorem dX5_number_16 : decode cX5_number 16 = .ok (.iload 4, 2) := by decide +kernel
theorem dX5_number_18 : decode cX5_number 18 = .ok (.baload, 1) := by decide +kernel
theorem dX5_number_19 : decode cX5_number 19 = .ok (.iadd, 1) := by decide +kernel
theorem dX5_number_20 : decode cX5_number 20 = .ok (.bipush 48, 2) := by decide +kernel
theorem dX5_number_22 : decode cX5_number 22 = .ok (.isub, 1) := by decide +kernel
theorem dX5_number_23 : decode cX5_number 23 = .ok (.istore_n 3, 1) := by decide +kernel
theorem dX5_number_24 : decode cX5_number 24 = .ok (.iinc 4 1, 3) := by decide +kernel
theorem dX5_number_27 : decode cX5_number 27 = .ok (.goto (-22), 3) := by decide +kernel
theorem dX5_number_30 : decode cX5_number 30 = .ok (.iload_n 3, 1) := by decide +kernel
theorem dX5_number_31 : decode cX5_number 31 = .ok (.ireturn, 1) := by decide +kernel
theorem dX5_wordNumber_0 : decode cX5_wordNumber 0 = .ok (.iconst 0, 1) := by decide +kernel
theorem dX5_wordNumber_1 : decode cX5_wordNumber 1 = .ok (.istore_n 3, 1) := by decide +kernel
theorem dX5_wordNumber_2 : decode cX5_wordNumber 2 = .ok (.iconst 0, 1) := by decide +kernel
theorem dX5_wordNumber_3 : decode cX5_wordNumber 3 = .ok (.istore 4, 2) := by decide +kernel
theorem dX5_wordNumber_5 : decode cX5_wordNumber 5 = .ok (.iconst 0, 1) := by decide +kernel
theorem dX5_wordNumber_6 : decode cX5_wordNumber 6 = .ok (.istore 5, 2) := by decide +kernel
theorem dX5_wordNumber_8 : decode cX5_wordNumber 8 = .ok (.iload 5, 2) := by decide +kernel
theorem dX5_wordNumber_10 : decode cX5_wordNumber 10 = .ok (.ldc 250, 2) := by decide +kernel
theorem dX5_wordNumber_12 : decode cX5_wordNumber 12 = .ok (.invokevirtual 252, 3) := by decide +kernel
theorem dX5_wordNumber_15 : decode cX5_wordNumber 15 = .ok (.if_icmp .ge 55, 3) := by decide +kernel
theorem dX5_wordNumber_18 : decode cX5_wordNumber 18 = .ok (.ldc 250, 2) := by decide +kernel
theorem dX5_wordNumber_20 : decode cX5_wordNumber 20 = .ok (.iload 5, 2) := by decide +kernel
theorem dX5_wordNumber_22 : decode cX5_wordNumber 22 = .ok (.invokevirtual 258, 3) := by decide +kernel
theorem dX5_wordNumber_25 : decode cX5_wordNumber 25 = .ok (.bipush 32, 2) := by decide +kernel
theorem dX5_wordNumber_27 : decode cX5_wordNumber 27 = .ok (.if_icmp .ne 37, 3) := by decide +kernel
theorem dX5_wordNumber_30 : decode cX5_wordNumber 30 = .ok (.iload 5, 2) := by decide +kernel
theorem dX5_wordNumber_32 : decode cX5_wordNumber 32 = .ok (.iload 4, 2) := by decide +kernel
theorem dX5_wordNumber_34 : decode cX5_wordNumber 34 = .ok (.isub, 1) := by decide +kernel
theorem dX5_wordNumber_35 : decode cX5_wordNumber 35 = .ok (.iload_n 2, 1) := by decide +kernel
theorem dX5_wordNumber_36 : decode cX5_wordNumber 36 = .ok (.iload_n 1, 1) := by decide +kernel
theorem dX5_wordNumber_37 : decode cX5_wordNumber 37 = .ok (.isub, 1) := by decide +kernel
theorem dX5_wordNumber_38 : decode cX5_wordNumber 38 = .ok (.if_icmp .ne 17, 3) := by decide +kernel
theorem dX5_wordNumber_41 : decode cX5_wordNumber 41 = .ok (.aload_n 0, 1) := by decide +kernel
theorem dX5_wordNumber_42 : decode cX5_wordNumber 42 = .ok (.iload_n 1, 1) := by decide +kernel
theorem dX5_wordNumber_43 : decode cX5_wordNumber 43 = .ok (.iload 4, 2) := by decide +kernel
theorem dX5_wordNumber_45 : decode cX5_wordNumber 45 = .ok (.iload 5, 2) := by decide +kernel
theorem dX5_wordNumber_47 : decode cX5_wordNumber 47 = .ok (.invokestatic 262, 3) := by decide +kernel
theorem dX5_wordNumber_50 : decode cX5_wordNumber 50 = .ok (.ifCond .eq 5, 3) := by decide +kernel
theorem dX5_wordNumber_53 : decode cX5_wordNumber 53 = .ok (.iload_n 3, 1) := by decide +kernel
theorem dX5_wordNumber_54 : decode cX5_wordNumber 54 = .ok (.ireturn, 1) := by decide +kernel
theorem dX5_wordNumber_55 : decode cX5_wordNumber 55 = .ok (.iinc 3 1, 3) := by decide +kernel
theorem dX5_wordNumber_58 : decode cX5_wordNumber 58 = .ok (.iload 5, 2) := by decide +kernel
theorem dX5_wordNumber_60 : decode cX5_wordNumber 60 = .ok (.iconst 1, 1) := by decide +kernel
theorem dX5_wordNumber_61 : decode cX5_wordNumber 61 = .ok (.iadd, 1) := by decide +kernel
theorem dX5_wordNumber_62 : decode cX5_wordNumber 62 = .ok (.istore 4, 2) := by decide +kernel
theorem dX5_wordNumber_64 : decode cX5_wordNumber 64 = .ok (.iinc 5 1, 3) := by decide +kernel
theorem dX5_wordNumber_67 : decode cX5_wordNumber 67 = .ok (.goto (-59), 3) := by decide +kernel
theorem dX5_wordNumber_70 : decode cX5_wordNumber 70 = .ok (.iconst (-1), 1) := by decide +kernel
theorem dX5_wordNumber_71 : decode cX5_wordNumber 71 = .ok (.ireturn, 1) := by decide +kernel
theorem dX5_isWord_0 : decode cX5_isWord 0 = .ok (.iload_n 2, 1) := by decide +kernel
theorem dX5_isWord_1 : decode cX5_isWord 1 = .ok (.istore 4, 2) := by decide +kernel
theorem dX5_isWord_3 : decode cX5_isWord 3 = .ok (.iload 4, 2) := by decide +kernel
theorem dX5_isWord_5 : decode cX5_isWord 5 = .ok (.iload_n 3, 1) := by decide +kernel
theorem dX5_isWord_6 : decode cX5_isWord 6 = .ok (.if_icmp .ge 29, 3) := by decide +kernel
theorem dX5_isWord_9 : decode cX5_isWord 9 = .ok (.ldc 250, 2) := by decide +kernel
theorem dX5_isWord_11 : decode cX5_isWord 11 = .ok (.iload 4, 2) := by decide +kernel
theorem dX5_isWord_13 : decode cX5_isWord 13 = .ok (.invokevirtual 258, 3) := by decide +kernel
theorem dX5_isWord_16 : decode cX5_isWord 16 = .ok (.aload_n 0, 1) := by decide +kernel
theorem dX5_isWord_17 : decode cX5_isWord 17 = .ok (.iload_n 1, 1) := by decide +kernel
theorem dX5_isWord_18 : decode cX5_isWord 18 = .ok (.iload 4, 2) := by decide +kernel
theorem dX5_isWord_20 : decode cX5_isWord 20 = .ok (.iadd, 1) := by decide +kernel
theorem dX5_isWord_21 : decode cX5_isWord 21 = .ok (.iload_n 2, 1) := by decide +kernel
theorem dX5_isWord_22 : decode cX5_isWord 22 = .ok (.isub, 1) := by decide +kernel
theorem dX5_isWord_23 : decode cX5_isWord 23 = .ok (.baload, 1) := by decide +kernel
theorem dX5_isWord_24 : decode cX5_isWord 24 = .ok (.if_icmp .eq 5, 3) := by decide +kernel
theorem dX5_isWord_27 : decode cX5_isWord 27 = .ok (.iconst 0, 1) := by decide +kernel
theorem dX5_isWord_28 : decode cX5_isWord 28 = .ok (.ireturn, 1) := by decide +kernel
theorem dX5_isWord_29 : decode cX5_isWord 29 = .ok (.iinc 4 1, 3) := by decide +kernel
theorem dX5_isWord_32 : decode cX5_isWord 32 = .ok (.goto (-29), 3) := by decide +kernel
theorem dX5_isWord_35 : decode cX5_isWord 35 = .ok (.iconst 1, 1) := by decide +kernel
theorem dX5_isWord_36 : decode cX5_isWord 36 = .ok (.ireturn, 1) := by decide +kernel

theorem dX12_init_0 : decode cX12_init 0 = .ok (.aload_n 0, 1) := by decide +kernel
theorem dX12_init_1 : decode cX12_init 1 = .ok (.invokespecial 1, 3) := by decide +kernel
theorem dX12_init_4 : decode cX12_init 4 = .ok (.aload_n 0, 1) := by decide +kernel
theorem dX12_init_5 : decode cX12_init 5 = .ok (.sipush 3736, 3) := by decide +kernel
theorem dX12_init_8 : decode cX12_init 8 = .ok (.newarray .int, 2) := by decide +kernel
theorem dX12_init_10 : decode cX12_init 10 = .ok (.putfield 7, 3) := by decide +kernel
theorem dX12_init_13 : decode cX12_init 13 = .ok (.aload_n 0, 1) := by decide +kernel
theorem dX12_init_14 : decode cX12_init 14 = .ok (.iconst 3, 1) := by decide +kernel
theorem dX12_init_15 : decode cX12_init 15 = .ok (.newarray .boolean, 2) := by decide +kernel
theorem dX12_init_17 : decode cX12_init 17 = .ok (.putfield 13, 3) := by decide +kernel
theorem dX12_init_20 : decode cX12_init 20 = .ok (.aload_n 0, 1) := by decide +kernel
theorem dX12_init_21 : decode cX12_init 21 = .ok (.bipush 89, 2) := by decide +kernel
theorem dX12_init_23 : decode cX12_init 23 = .ok (.newarray .int, 2) := by decide +kernel
theorem dX12_init_25 : decode cX12_init 25 = .ok (.putfield 17, 3) := by decide +kernel
theorem dX12_init_28 : decode cX12_init 28 = .ok (.aload_n 0, 1) := by decide +kernel
theorem dX12_init_29 : decode cX12_init 29 = .ok (.bipush 24, 2) := by decide +kernel
theorem dX12_init_31 : decode cX12_init 31 = .ok (.newarray .int, 2) := by decide +kernel
theorem dX12_init_33 : decode cX12_init 33 = .ok (.putfield 20, 3) := by decide +kernel
theorem dX12_init_36 : decode cX12_init 36 = .ok (.aload_n 0, 1) := by decide +kernel
theorem dX12_init_37 : decode cX12_init 37 = .ok (.iconst 2, 1) := by decide +kernel
theorem dX12_init_38 : decode cX12_init 38 = .ok (.newarray .int, 2) := by decide +kernel
theorem dX12_init_40 : decode cX12_init 40 = .ok (.putfield 23, 3) := by decide +kernel
theorem dX12_init_43 : decode cX12_init 43 = .ok (.aload_n 0, 1) := by decide +kernel
theorem dX12_init_44 : decode cX12_init 44 = .ok (.bipush 24, 2) := by decide +kernel
theorem dX12_init_46 : decode cX12_init 46 = .ok (.newarray .int, 2) := by decide +kernel
theorem dX12_init_48 : decode cX12_init 48 = .ok (.putfield 26, 3) := by decide +kernel
theorem dX12_init_51 : decode cX12_init 51 = .ok (.aload_n 0, 1) := by decide +kernel
theorem dX12_init_52 : decode cX12_init 52 = .ok (.bipush 24, 2) := by decide +kernel
theorem dX12_init_54 : decode cX12_init 54 = .ok (.newarray .int, 2) := by decide +kernel
theorem dX12_init_56 : decode cX12_init 56 = .ok (.putfield 29, 3) := by decide +kernel
theorem dX12_init_59 : decode cX12_init 59 = .ok (.aload_n 0, 1) := by decide +kernel
theorem dX12_init_60 : decode cX12_init 60 = .ok (.bipush 24, 2) := by decide +kernel
theorem dX12_init_62 : decode cX12_init 62 = .ok (.newarray .int, 2) := by decide +kernel
theorem dX12_init_64 : decode cX12_init 64 = .ok (.putfield 32, 3) := by decide +kernel
theorem dX12_init_67 : decode cX12_init 67 = .ok (.aload_n 0, 1) := by decide +kernel
theorem dX12_init_68 : decode cX12_init 68 = .ok (.bipush 24, 2) := by decide +kernel
theorem dX12_init_70 : decode cX12_init 70 = .ok (.newarray .boolean, 2) := by decide +kernel
theorem dX12_init_72 : decode cX12_init 72 = .ok (.putfield 35, 3) := by decide +kernel
theorem dX12_init_75 : decode cX12_init 75 = .ok (.aload_n 0, 1) := by decide +kernel
theorem dX12_init_76 : decode cX12_init 76 = .ok (.bipush 48, 2) := by decide +kernel
theorem dX12_init_78 : decode cX12_init 78 = .ok (.newarray .int, 2) := by decide +kernel
theorem dX12_init_80 : decode cX12_init 80 = .ok (.putfield 38, 3) := by decide +kernel
theorem dX12_init_83 : decode cX12_init 83 = .ok (.aload_n 0, 1) := by decide +kernel
theorem dX12_init_84 : decode cX12_init 84 = .ok (.bipush 48, 2) := by decide +kernel
theorem dX12_init_86 : decode cX12_init 86 = .ok (.newarray .int, 2) := by decide +kernel
theorem dX12_init_88 : decode cX12_init 88 = .ok (.putfield 41, 3) := by decide +kernel
theorem dX12_init_91 : decode cX12_init 91 = .ok (.aload_n 0, 1) := by decide +kernel
theorem dX12_init_92 : decode cX12_init 92 = .ok (.bipush 48, 2) := by decide +kernel
theorem dX12_init_94 : decode cX12_init 94 = .ok (.newarray .int, 2) := by decide +kernel
theorem dX12_init_96 : decode cX12_init 96 = .ok (.putfield 44, 3) := by decide +kernel
theorem dX12_init_99 : decode cX12_init 99 = .ok (.aload_n 0, 1) := by decide +kernel
theorem dX12_init_100 : decode cX12_init 100 = .ok (.iconst 2, 1) := by decide +kernel
theorem dX12_init_101 : decode cX12_init 101 = .ok (.newarray .int, 2) := by decide +kernel
theorem dX12_init_103 : decode cX12_init 103 = .ok (.putfield 47, 3) := by decide +kernel
theorem dX12_init_106 : decode cX12_init 106 = .ok (.aload_n 0, 1) := by decide +kernel
theorem dX12_init_107 : decode cX12_init 107 = .ok (.iconst 2, 1) := by decide +kernel
theorem dX12_init_108 : decode cX12_init 108 = .ok (.newarray .int, 2) := by decide +kernel
theorem dX12_init_110 : decode cX12_init 110 = .ok (.putfield 50, 3) := by decide +kernel
theorem dX12_init_113 : decode cX12_init 113 = .ok (.aload_n 0, 1) := by decide +kernel
theorem dX12_init_114 : decode cX12_init 114 = .ok (.iconst 2, 1) := by decide +kernel
theorem dX12_init_115 : decode cX12_init 115 = .ok (.newarray .int, 2) := by decide +kernel
theorem dX12_init_117 : decode cX12_init 117 = .ok (.putfield 53, 3) := by decide +kernel
theorem dX12_init_120 : decode cX12_init 120 = .ok (.aload_n 0, 1) := by decide +kernel
theorem dX12_init_121 : decode cX12_init 121 = .ok (.bipush 64, 2) := by decide +kernel
theorem dX12_init_123 : decode cX12_init 123 = .ok (.newarray .int, 2) := by decide +kernel
theorem dX12_init_125 : decode cX12_init 125 = .ok (.putfield 56, 3) := by decide +kernel
theorem dX12_init_128 : decode cX12_init 128 = .ok (.aload_n 0, 1) := by decide +kernel
theorem dX12_init_129 : decode cX12_init 129 = .ok (.bipush 64, 2) := by decide +kernel
theorem dX12_init_131 : decode cX12_init 131 = .ok (.newarray .int, 2) := by decide +kernel
theorem dX12_init_133 : decode cX12_init 133 = .ok (.putfield 59, 3) := by decide +kernel
theorem dX12_init_136 : decode cX12_init 136 = .ok (.aload_n 0, 1) := by decide +kernel
theorem dX12_init_137 : decode cX12_init 137 = .ok (.bipush 65, 2) := by decide +kernel
theorem dX12_init_139 : decode cX12_init 139 = .ok (.newarray .int, 2) := by decide +kernel
theorem dX12_init_141 : decode cX12_init 141 = .ok (.putfield 62, 3) := by decide +kernel
theorem dX12_init_144 : decode cX12_init 144 = .ok (.aload_n 0, 1) := by decide +kernel
theorem dX12_init_145 : decode cX12_init 145 = .ok (.sipush 480, 3) := by decide +kernel
theorem dX12_init_148 : decode cX12_init 148 = .ok (.newarray .int, 2) := by decide +kernel
theorem dX12_init_150 : decode cX12_init 150 = .ok (.putfield 65, 3) := by decide +kernel
theorem dX12_init_153 : decode cX12_init 153 = .ok (.aload_n 0, 1) := by decide +kernel
theorem dX12_init_154 : decode cX12_init 154 = .ok (.bipush 8, 2) := by decide +kernel
theorem dX12_init_156 : decode cX12_init 156 = .ok (.newarray .int, 2) := by decide +kernel
theorem dX12_init_158 : decode cX12_init 158 = .ok (.putfield 68, 3) := by decide +kernel
theorem dX12_init_161 : decode cX12_init 161 = .ok (.aload_n 0, 1) := by decide +kernel
theorem dX12_init_162 : decode cX12_init 162 = .ok (.sipush 128, 3) := by decide +kernel
theorem dX12_init_165 : decode cX12_init 165 = .ok (.newarray .int, 2) := by decide +kernel
theorem dX12_init_167 : decode cX12_init 167 = .ok (.putfield 71, 3) := by decide +kernel
theorem dX12_init_170 : decode cX12_init 170 = .ok (.aload_n 0, 1) := by decide +kernel
theorem dX12_init_171 : decode cX12_init 171 = .ok (.bipush 10, 2) := by decide +kernel
theorem dX12_init_173 : decode cX12_init 173 = .ok (.newarray .int, 2) := by decide +kernel
theorem dX12_init_175 : decode cX12_init 175 = .ok (.putfield 74, 3) := by decide +kernel
theorem dX12_init_178 : decode cX12_init 178 = .ok (.aload_n 0, 1) := by decide +kernel
theorem dX12_init_179 : decode cX12_init 179 = .ok (.bipush 25, 2) := by decide +kernel
theorem dX12_init_181 : decode cX12_init 181 = .ok (.newarray .long, 2) := by decide +kernel
theorem dX12_init_183 : decode cX12_init 183 = .ok (.putfield 77, 3) := by decide +kernel
theorem dX12_init_186 : decode cX12_init 186 = .ok (.aload_n 0, 1) := by decide +kernel
theorem dX12_init_187 : decode cX12_init 187 = .ok (.bipush 25, 2) := by decide +kernel
theorem dX12_init_189 : decode cX12_init 189 = .ok (.newarray .int, 2) := by decide +kernel
theorem dX12_init_191 : decode cX12_init 191 = .ok (.putfield 81, 3) := by decide +kernel
theorem dX12_init_194 : decode cX12_init 194 = .ok (.aload_n 0, 1) := by decide +kernel
theorem dX12_init_195 : decode cX12_init 195 = .ok (.bipush 30, 2) := by decide +kernel
theorem dX12_init_197 : decode cX12_init 197 = .ok (.newarray .int, 2) := by decide +kernel
theorem dX12_init_199 : decode cX12_init 199 = .ok (.putfield 84, 3) := by decide +kernel
theorem dX12_init_202 : decode cX12_init 202 = .ok (.aload_n 0, 1) := by decide +kernel
theorem dX12_init_203 : decode cX12_init 203 = .ok (.getfield 7, 3) := by decide +kernel
theorem dX12_init_206 : decode cX12_init 206 = .ok (.bipush 6, 2) := by decide +kernel
theorem dX12_init_208 : decode cX12_init 208 = .ok (.iconst (-1), 1) := by decide +kernel
theorem dX12_init_209 : decode cX12_init 209 = .ok (.iastore, 1) := by decide +kernel
theorem dX12_init_210 : decode cX12_init 210 = .ok (.return_, 1) := by decide +kernel
theorem dX12_isIn_0 : decode cX12_isIn 0 = .ok (.iload_n 0, 1) := by decide +kernel
theorem dX12_isIn_1 : decode cX12_isIn 1 = .ok (.iload_n 1, 1) := by decide +kernel
theorem dX12_isIn_2 : decode cX12_isIn 2 = .ok (.if_icmp .lt 12, 3) := by decide +kernel
theorem dX12_isIn_5 : decode cX12_isIn 5 = .ok (.iload_n 0, 1) := by decide +kernel
theorem dX12_isIn_6 : decode cX12_isIn 6 = .ok (.iload_n 2, 1) := by decide +kernel
theorem dX12_isIn_7 : decode cX12_isIn 7 = .ok (.if_icmp .gt 7, 3) := by decide +kernel
theorem dX12_isIn_10 : decode cX12_isIn 10 = .ok (.iconst 1, 1) := by decide +kernel
theorem dX12_isIn_11 : decode cX12_isIn 11 = .ok (.goto 4, 3) := by decide +kernel
theorem dX12_isIn_14 : decode cX12_isIn 14 = .ok (.iconst 0, 1) := by decide +kernel
theorem dX12_isIn_15 : decode cX12_isIn 15 = .ok (.ireturn, 1) := by decide +kernel
theorem dX12_feed_0 : decode cX12_feed 0 = .ok (.aload_n 0, 1) := by decide +kernel
theorem dX12_feed_1 : decode cX12_feed 1 = .ok (.getfield 7, 3) := by decide +kernel
theorem dX12_feed_4 : decode cX12_feed 4 = .ok (.iconst 4, 1) := by decide +kernel
theorem dX12_feed_5 : decode cX12_feed 5 = .ok (.iaload, 1) := by decide +kernel
theorem dX12_feed_6 : decode cX12_feed 6 = .ok (.bipush 20, 2) := by decide +kernel
theorem dX12_feed_8 : decode cX12_feed 8 = .ok (.iadd, 1) := by decide +kernel
theorem dX12_feed_9 : decode cX12_feed 9 = .ok (.sipush 600, 3) := by decide +kernel
theorem dX12_feed_12 : decode cX12_feed 12 = .ok (.if_icmp .le 5, 3) := by decide +kernel
theorem dX12_feed_15 : decode cX12_feed 15 = .ok (.iconst (-1), 1) := by decide +kernel
theorem dX12_feed_16 : decode cX12_feed 16 = .ok (.ireturn, 1) := by decide +kernel
theorem dX12_feed_17 : decode cX12_feed 17 = .ok (.iconst 0, 1) := by decide +kernel
theorem dX12_feed_18 : decode cX12_feed 18 = .ok (.istore 6, 2) := by decide +kernel
theorem dX12_feed_20 : decode cX12_feed 20 = .ok (.iload 6, 2) := by decide +kernel
theorem dX12_feed_22 : decode cX12_feed 22 = .ok (.bipush 20, 2) := by decide +kernel
theorem dX12_feed_24 : decode cX12_feed 24 = .ok (.if_icmp .ge 98, 3) := by decide +kernel
theorem dX12_feed_27 : decode cX12_feed 27 = .ok (.iload 6, 2) := by decide +kernel
theorem dX12_feed_29 : decode cX12_feed 29 = .ok (.iconst 4, 1) := by decide +kernel
theorem dX12_feed_30 : decode cX12_feed 30 = .ok (.if_icmp .ge 7, 3) := by decide +kernel
theorem dX12_feed_33 : decode cX12_feed 33 = .ok (.iload_n 1, 1) := by decide +kernel
theorem dX12_feed_34 : decode cX12_feed 34 = .ok (.goto 39, 3) := by decide +kernel
theorem dX12_feed_37 : decode cX12_feed 37 = .ok (.iload 6, 2) := by decide +kernel
theorem dX12_feed_39 : decode cX12_feed 39 = .ok (.bipush 8, 2) := by decide +kernel
theorem dX12_feed_41 : decode cX12_feed 41 = .ok (.if_icmp .ge 7, 3) := by decide +kernel
theorem dX12_feed_44 : decode cX12_feed 44 = .ok (.iload_n 2, 1) := by decide +kernel
theorem dX12_feed_45 : decode cX12_feed 45 = .ok (.goto 28, 3) := by decide +kernel
theorem dX12_feed_48 : decode cX12_feed 48 = .ok (.iload 6, 2) := by decide +kernel
theorem dX12_feed_50 : decode cX12_feed 50 = .ok (.bipush 12, 2) := by decide +kernel
theorem dX12_feed_52 : decode cX12_feed 52 = .ok (.if_icmp .ge 7, 3) := by decide +kernel
theorem dX12_feed_55 : decode cX12_feed 55 = .ok (.iload_n 3, 1) := by decide +kernel
theorem dX12_feed_56 : decode cX12_feed 56 = .ok (.goto 17, 3) := by decide +kernel
theorem dX12_feed_59 : decode cX12_feed 59 = .ok (.iload 6, 2) := by decide +kernel
theorem dX12_feed_61 : decode cX12_feed 61 = .ok (.bipush 16, 2) := by decide +kernel
theorem dX12_feed_63 : decode cX12_feed 63 = .ok (.if_icmp .ge 8, 3) := by decide +kernel
theorem dX12_feed_66 : decode cX12_feed 66 = .ok (.iload 4, 2) := by decide +kernel
theorem dX12_feed_68 : decode cX12_feed 68 = .ok (.goto 5, 3) := by decide +kernel
theorem dX12_feed_71 : decode cX12_feed 71 = .ok (.iload 5, 2) := by decide +kernel
theorem dX12_feed_73 : decode cX12_feed 73 = .ok (.istore 7, 2) := by decide +kernel
theorem dX12_feed_75 : decode cX12_feed 75 = .ok (.aload_n 0, 1) := by decide +kernel
theorem dX12_feed_76 : decode cX12_feed 76 = .ok (.getfield 7, 3) := by decide +kernel
theorem dX12_feed_79 : decode cX12_feed 79 = .ok (.bipush 10, 2) := by decide +kernel
theorem dX12_feed_81 : decode cX12_feed 81 = .ok (.aload_n 0, 1) := by decide +kernel
theorem dX12_feed_82 : decode cX12_feed 82 = .ok (.getfield 7, 3) := by decide +kernel
theorem dX12_feed_85 : decode cX12_feed 85 = .ok (.iconst 4, 1) := by decide +kernel
theorem dX12_feed_86 : decode cX12_feed 86 = .ok (.iaload, 1) := by decide +kernel
theorem dX12_feed_87 : decode cX12_feed 87 = .ok (.iadd, 1) := by decide +kernel
theorem dX12_feed_88 : decode cX12_feed 88 = .ok (.iload 7, 2) := by decide +kernel
theorem dX12_feed_90 : decode cX12_feed 90 = .ok (.bipush 24, 2) := by decide +kernel
theorem dX12_feed_92 : decode cX12_feed 92 = .ok (.bipush 8, 2) := by decide +kernel
theorem dX12_feed_94 : decode cX12_feed 94 = .ok (.iload 6, 2) := by decide +kernel
theorem dX12_feed_96 : decode cX12_feed 96 = .ok (.iconst 4, 1) := by decide +kernel
theorem dX12_feed_97 : decode cX12_feed 97 = .ok (.irem, 1) := by decide +kernel
theorem dX12_feed_98 : decode cX12_feed 98 = .ok (.imul, 1) := by decide +kernel
theorem dX12_feed_99 : decode cX12_feed 99 = .ok (.isub, 1) := by decide +kernel
theorem dX12_feed_100 : decode cX12_feed 100 = .ok (.ishr, 1) := by decide +kernel
theorem dX12_feed_101 : decode cX12_feed 101 = .ok (.sipush 255, 3) := by decide +kernel
theorem dX12_feed_104 : decode cX12_feed 104 = .ok (.iand, 1) := by decide +kernel
theorem dX12_feed_105 : decode cX12_feed 105 = .ok (.iastore, 1) := by decide +kernel
theorem dX12_feed_106 : decode cX12_feed 106 = .ok (.aload_n 0, 1) := by decide +kernel
theorem dX12_feed_107 : decode cX12_feed 107 = .ok (.getfield 7, 3) := by decide +kernel
theorem dX12_feed_110 : decode cX12_feed 110 = .ok (.iconst 4, 1) := by decide +kernel
theorem dX12_feed_111 : decode cX12_feed 111 = .ok (.dup2, 1) := by decide +kernel
theorem dX12_feed_112 : decode cX12_feed 112 = .ok (.iaload, 1) := by decide +kernel
theorem dX12_feed_113 : decode cX12_feed 113 = .ok (.iconst 1, 1) := by decide +kernel
theorem dX12_feed_114 : decode cX12_feed 114 = .ok (.iadd, 1) := by decide +kernel
theorem dX12_feed_115 : decode cX12_feed 115 = .ok (.iastore, 1) := by decide +kernel
theorem dX12_feed_116 : decode cX12_feed 116 = .ok (.iinc 6 1, 3) := by decide +kernel
theorem dX12_feed_119 : decode cX12_feed 119 = .ok (.goto (-99), 3) := by decide +kernel
theorem dX12_feed_122 : decode cX12_feed 122 = .ok (.aload_n 0, 1) := by decide +kernel
theorem dX12_feed_123 : decode cX12_feed 123 = .ok (.getfield 7, 3) := by decide +kernel
theorem dX12_feed_126 : decode cX12_feed 126 = .ok (.iconst 4, 1) := by decide +kernel
theorem dX12_feed_127 : decode cX12_feed 127 = .ok (.iaload, 1) := by decide +kernel
theorem dX12_feed_128 : decode cX12_feed 128 = .ok (.ireturn, 1) := by decide +kernel
theorem dX12_end_0 : decode cX12_end 0 = .ok (.iload_n 1, 1) := by decide +kernel
theorem dX12_end_1 : decode cX12_end 1 = .ok (.ifCond .lt 13, 3) := by decide +kernel
theorem dX12_end_4 : decode cX12_end 4 = .ok (.iload_n 1, 1) := by decide +kernel
theorem dX12_end_5 : decode cX12_end 5 = .ok (.aload_n 0, 1) := by decide +kernel
theorem dX12_end_6 : decode cX12_end 6 = .ok (.getfield 7, 3) := by decide +kernel
theorem dX12_end_9 : decode cX12_end 9 = .ok (.iconst 4, 1) := by decide +kernel
theorem dX12_end_10 : decode cX12_end 10 = .ok (.iaload, 1) := by decide +kernel
theorem dX12_end_11 : decode cX12_end 11 = .ok (.if_icmp .le 5, 3) := by decide +kernel
theorem dX12_end_14 : decode cX12_end 14 = .ok (.iconst (-1), 1) := by decide +kernel
theorem dX12_end_15 : decode cX12_end 15 = .ok (.ireturn, 1) := by decide +kernel
theorem dX12_end_16 : decode cX12_end 16 = .ok (.aload_n 0, 1) := by decide +kernel
theorem dX12_end_17 : decode cX12_end 17 = .ok (.getfield 7, 3) := by decide +kernel
theorem dX12_end_20 : decode cX12_end 20 = .ok (.iconst 4, 1) := by decide +kernel
theorem dX12_end_21 : decode cX12_end 21 = .ok (.iload_n 1, 1) := by decide +kernel
theorem dX12_end_22 : decode cX12_end 22 = .ok (.iastore, 1) := by decide +kernel
theorem dX12_end_23 : decode cX12_end 23 = .ok (.iload_n 1, 1) := by decide +kernel
theorem dX12_end_24 : decode cX12_end 24 = .ok (.ireturn, 1) := by decide +kernel
theorem dX12_byteAt_0 : decode cX12_byteAt 0 = .ok (.iload_n 1, 1) := by decide +kernel
theorem dX12_byteAt_1 : decode cX12_byteAt 1 = .ok (.aload_n 0, 1) := by decide +kernel
theorem dX12_byteAt_2 : decode cX12_byteAt 2 = .ok (.getfield 87, 3) := by decide +kernel
theorem dX12_byteAt_5 : decode cX12_byteAt 5 = .ok (.if_icmp .ge 15, 3) := by decide +kernel
theorem dX12_byteAt_8 : decode cX12_byteAt 8 = .ok (.aload_n 0, 1) := by decide +kernel
theorem dX12_byteAt_9 : decode cX12_byteAt 9 = .ok (.getfield 7, 3) := by decide +kernel
theorem dX12_byteAt_12 : decode cX12_byteAt 12 = .ok (.bipush 10, 2) := by decide +kernel
theorem dX12_byteAt_14 : decode cX12_byteAt 14 = .ok (.iload_n 1, 1) := by decide +kernel
theorem dX12_byteAt_15 : decode cX12_byteAt 15 = .ok (.iadd, 1) := by decide +kernel
theorem dX12_byteAt_16 : decode cX12_byteAt 16 = .ok (.iaload, 1) := by decide +kernel
theorem dX12_byteAt_17 : decode cX12_byteAt 17 = .ok (.goto 4, 3) := by decide +kernel
theorem dX12_byteAt_20 : decode cX12_byteAt 20 = .ok (.iconst (-1), 1) := by decide +kernel
theorem dX12_byteAt_21 : decode cX12_byteAt 21 = .ok (.ireturn, 1) := by decide +kernel
theorem dX12_isLetter_0 : decode cX12_isLetter 0 = .ok (.iload_n 0, 1) := by decide +kernel
theorem dX12_isLetter_1 : decode cX12_isLetter 1 = .ok (.bipush 97, 2) := by decide +kernel
theorem dX12_isLetter_3 : decode cX12_isLetter 3 = .ok (.if_icmp .lt 13, 3) := by decide +kernel
theorem dX12_isLetter_6 : decode cX12_isLetter 6 = .ok (.iload_n 0, 1) := by decide +kernel
theorem dX12_isLetter_7 : decode cX12_isLetter 7 = .ok (.bipush 122, 2) := by decide +kernel
theorem dX12_isLetter_9 : decode cX12_isLetter 9 = .ok (.if_icmp .gt 7, 3) := by decide +kernel
theorem dX12_isLetter_12 : decode cX12_isLetter 12 = .ok (.iconst 1, 1) := by decide +kernel
theorem dX12_isLetter_13 : decode cX12_isLetter 13 = .ok (.goto 4, 3) := by decide +kernel
theorem dX12_isLetter_16 : decode cX12_isLetter 16 = .ok (.iconst 0, 1) := by decide +kernel
theorem dX12_isLetter_17 : decode cX12_isLetter 17 = .ok (.ireturn, 1) := by decide +kernel
theorem dX12_isDigit_0 : decode cX12_isDigit 0 = .ok (.iload_n 0, 1) := by decide +kernel
theorem dX12_isDigit_1 : decode cX12_isDigit 1 = .ok (.bipush 48, 2) := by decide +kernel
theorem dX12_isDigit_3 : decode cX12_isDigit 3 = .ok (.if_icmp .lt 13, 3) := by decide +kernel
theorem dX12_isDigit_6 : decode cX12_isDigit 6 = .ok (.iload_n 0, 1) := by decide +kernel
theorem dX12_isDigit_7 : decode cX12_isDigit 7 = .ok (.bipush 57, 2) := by decide +kernel
theorem dX12_isDigit_9 : decode cX12_isDigit 9 = .ok (.if_icmp .gt 7, 3) := by decide +kernel
theorem dX12_isDigit_12 : decode cX12_isDigit 12 = .ok (.iconst 1, 1) := by decide +kernel
theorem dX12_isDigit_13 : decode cX12_isDigit 13 = .ok (.goto 4, 3) := by decide +kernel
theorem dX12_isDigit_16 : decode cX12_isDigit 16 = .ok (.iconst 0, 1) := by decide +kernel
theorem dX12_isDigit_17 : decode cX12_isDigit 17 = .ok (.ireturn, 1) := by decide +kernel
theorem dX12_four_0 : decode cX12_four 0 = .ok (.iload_n 0, 1) := by decide +kernel
theorem dX12_four_1 : decode cX12_four 1 = .ok (.bipush 32, 2) := by decide +kernel
theorem dX12_four_3 : decode cX12_four 3 = .ok (.imul, 1) := by decide +kernel
theorem dX12_four_4 : decode cX12_four 4 = .ok (.iload_n 1, 1) := by decide +kernel
theorem dX12_four_5 : decode cX12_four 5 = .ok (.iadd, 1) := by decide +kernel
theorem dX12_four_6 : decode cX12_four 6 = .ok (.bipush 32, 2) := by decide +kernel
theorem dX12_four_8 : decode cX12_four 8 = .ok (.imul, 1) := by decide +kernel
theorem dX12_four_9 : decode cX12_four 9 = .ok (.iload_n 2, 1) := by decide +kernel
theorem dX12_four_10 : decode cX12_four 10 = .ok (.iadd, 1) := by decide +kernel
theorem dX12_four_11 : decode cX12_four 11 = .ok (.bipush 32, 2) := by decide +kernel
theorem dX12_four_13 : decode cX12_four 13 = .ok (.imul, 1) := by decide +kernel
theorem dX12_four_14 : decode cX12_four 14 = .ok (.iload_n 3, 1) := by decide +kernel
theorem dX12_four_15 : decode cX12_four 15 = .ok (.iadd, 1) := by decide +kernel
theorem dX12_four_16 : decode cX12_four 16 = .ok (.i2l, 1) := by decide +kernel
theorem dX12_four_17 : decode cX12_four 17 = .ok (.lreturn, 1) := by decide +kernel
theorem dX12_eight_0 : decode cX12_eight 0 = .ok (.iload_n 0, 1) := by decide +kernel
theorem dX12_eight_1 : decode cX12_eight 1 = .ok (.iload_n 1, 1) := by decide +kernel
theorem dX12_eight_2 : decode cX12_eight 2 = .ok (.iload_n 2, 1) := by decide +kernel
theorem dX12_eight_3 : decode cX12_eight 3 = .ok (.iload_n 3, 1) := by decide +kernel
theorem dX12_eight_4 : decode cX12_eight 4 = .ok (.invokestatic 91, 3) := by decide +kernel
theorem dX12_eight_7 : decode cX12_eight 7 = .ok (.ldc2_w 95, 3) := by decide +kernel
theorem dX12_eight_10 : decode cX12_eight 10 = .ok (.lmul, 1) := by decide +kernel
theorem dX12_eight_11 : decode cX12_eight 11 = .ok (.iload 4, 2) := by decide +kernel
theorem dX12_eight_13 : decode cX12_eight 13 = .ok (.iload 5, 2) := by decide +kernel
theorem dX12_eight_15 : decode cX12_eight 15 = .ok (.iload 6, 2) := by decide +kernel
theorem dX12_eight_17 : decode cX12_eight 17 = .ok (.iload 7, 2) := by decide +kernel
theorem dX12_eight_19 : decode cX12_eight 19 = .ok (.invokestatic 91, 3) := by decide +kernel
theorem dX12_eight_22 : decode cX12_eight 22 = .ok (.ladd, 1) := by decide +kernel
theorem dX12_eight_23 : decode cX12_eight 23 = .ok (.lreturn, 1) := by decide +kernel
theorem dX12_wordOf_0 : decode cX12_wordOf 0 = .ok (.lload_n 0, 1) := by decide +kernel
theorem dX12_wordOf_1 : decode cX12_wordOf 1 = .ok (.bipush 20, 2) := by decide +kernel
theorem dX12_wordOf_3 : decode cX12_wordOf 3 = .ok (.bipush 21, 2) := by decide +kernel
theorem dX12_wordOf_5 : decode cX12_wordOf 5 = .ok (.bipush 18, 2) := by decide +kernel
theorem dX12_wordOf_7 : decode cX12_wordOf 7 = .ok (.bipush 14, 2) := by decide +kernel
theorem dX12_wordOf_9 : decode cX12_wordOf 9 = .ok (.invokestatic 91, 3) := by decide +kernel
theorem dX12_wordOf_12 : decode cX12_wordOf 12 = .ok (.lcmp, 1) := by decide +kernel
theorem dX12_wordOf_13 : decode cX12_wordOf 13 = .ok (.ifCond .ne 5, 3) := by decide +kernel
theorem dX12_wordOf_16 : decode cX12_wordOf 16 = .ok (.iconst 1, 1) := by decide +kernel
theorem dX12_wordOf_17 : decode cX12_wordOf 17 = .ok (.ireturn, 1) := by decide +kernel
theorem dX12_wordOf_18 : decode cX12_wordOf 18 = .ok (.lload_n 0, 1) := by decide +kernel
theorem dX12_wordOf_19 : decode cX12_wordOf 19 = .ok (.iconst 0, 1) := by decide +kernel
theorem dX12_wordOf_20 : decode cX12_wordOf 20 = .ok (.iconst 0, 1) := by decide +kernel
theorem dX12_wordOf_21 : decode cX12_wordOf 21 = .ok (.iconst 0, 1) := by decide +kernel
theorem dX12_wordOf_22 : decode cX12_wordOf 22 = .ok (.bipush 20, 2) := by decide +kernel
theorem dX12_wordOf_24 : decode cX12_wordOf 24 = .ok (.bipush 9, 2) := by decide +kernel
theorem dX12_wordOf_26 : decode cX12_wordOf 26 = .ok (.bipush 18, 2) := by decide +kernel
theorem dX12_wordOf_28 : decode cX12_wordOf 28 = .ok (.iconst 5, 1) := by decide +kernel
theorem dX12_wordOf_29 : decode cX12_wordOf 29 = .ok (.iconst 4, 1) := by decide +kernel
theorem dX12_wordOf_30 : decode cX12_wordOf 30 = .ok (.invokestatic 97, 3) := by decide +kernel
theorem dX12_wordOf_33 : decode cX12_wordOf 33 = .ok (.lcmp, 1) := by decide +kernel
theorem dX12_wordOf_34 : decode cX12_wordOf 34 = .ok (.ifCond .ne 5, 3) := by decide +kernel
theorem dX12_wordOf_37 : decode cX12_wordOf 37 = .ok (.iconst 2, 1) := by decide +kernel
theorem dX12_wordOf_38 : decode cX12_wordOf 38 = .ok (.ireturn, 1) := by decide +kernel
theorem dX12_wordOf_39 : decode cX12_wordOf 39 = .ok (.lload_n 0, 1) := by decide +kernel
theorem dX12_wordOf_40 : decode cX12_wordOf 40 = .ok (.iconst 5, 1) := by decide +kernel
theorem dX12_wordOf_41 : decode cX12_wordOf 41 = .ok (.iconst 3, 1) := by decide +kernel
theorem dX12_wordOf_42 : decode cX12_wordOf 42 = .ok (.bipush 8, 2) := by decide +kernel
theorem dX12_wordOf_44 : decode cX12_wordOf 44 = .ok (.bipush 15, 2) := by decide +kernel
theorem dX12_wordOf_46 : decode cX12_wordOf 46 = .ok (.invokestatic 91, 3) := by decide +kernel
theorem dX12_wordOf_49 : decode cX12_wordOf 49 = .ok (.lcmp, 1) := by decide +kernel
theorem dX12_wordOf_50 : decode cX12_wordOf 50 = .ok (.ifCond .ne 5, 3) := by decide +kernel
theorem dX12_wordOf_53 : decode cX12_wordOf 53 = .ok (.iconst 3, 1) := by decide +kernel
theorem dX12_wordOf_54 : decode cX12_wordOf 54 = .ok (.ireturn, 1) := by decide +kernel
theorem dX12_wordOf_55 : decode cX12_wordOf 55 = .ok (.lload_n 0, 1) := by decide +kernel
theorem dX12_wordOf_56 : decode cX12_wordOf 56 = .ok (.iconst 0, 1) := by decide +kernel
theorem dX12_wordOf_57 : decode cX12_wordOf 57 = .ok (.bipush 23, 2) := by decide +kernel
theorem dX12_wordOf_59 : decode cX12_wordOf 59 = .ok (.iconst 5, 1) := by decide +kernel
theorem dX12_wordOf_60 : decode cX12_wordOf 60 = .ok (.bipush 20, 2) := by decide +kernel
theorem dX12_wordOf_62 : decode cX12_wordOf 62 = .ok (.invokestatic 91, 3) := by decide +kernel
theorem dX12_wordOf_65 : decode cX12_wordOf 65 = .ok (.lcmp, 1) := by decide +kernel
theorem dX12_wordOf_66 : decode cX12_wordOf 66 = .ok (.ifCond .ne 5, 3) := by decide +kernel
theorem dX12_wordOf_69 : decode cX12_wordOf 69 = .ok (.iconst 4, 1) := by decide +kernel
theorem dX12_wordOf_70 : decode cX12_wordOf 70 = .ok (.ireturn, 1) := by decide +kernel
theorem dX12_wordOf_71 : decode cX12_wordOf 71 = .ok (.lload_n 0, 1) := by decide +kernel
theorem dX12_wordOf_72 : decode cX12_wordOf 72 = .ok (.bipush 6, 2) := by decide +kernel
theorem dX12_wordOf_74 : decode cX12_wordOf 74 = .ok (.bipush 18, 2) := by decide +kernel
theorem dX12_wordOf_76 : decode cX12_wordOf 76 = .ok (.bipush 15, 2) := by decide +kernel
theorem dX12_wordOf_78 : decode cX12_wordOf 78 = .ok (.bipush 13, 2) := by decide +kernel
theorem dX12_wordOf_80 : decode cX12_wordOf 80 = .ok (.invokestatic 91, 3) := by decide +kernel
theorem dX12_wordOf_83 : decode cX12_wordOf 83 = .ok (.lcmp, 1) := by decide +kernel
theorem dX12_wordOf_84 : decode cX12_wordOf 84 = .ok (.ifCond .ne 5, 3) := by decide +kernel
theorem dX12_wordOf_87 : decode cX12_wordOf 87 = .ok (.iconst 5, 1) := by decide +kernel
theorem dX12_wordOf_88 : decode cX12_wordOf 88 = .ok (.ireturn, 1) := by decide +kernel
theorem dX12_wordOf_89 : decode cX12_wordOf 89 = .ok (.lload_n 0, 1) := by decide +kernel
theorem dX12_wordOf_90 : decode cX12_wordOf 90 = .ok (.bipush 19, 2) := by decide +kernel
theorem dX12_wordOf_92 : decode cX12_wordOf 92 = .ok (.bipush 20, 2) := by decide +kernel
theorem dX12_wordOf_94 : decode cX12_wordOf 94 = .ok (.iconst 5, 1) := by decide +kernel
theorem dX12_wordOf_95 : decode cX12_wordOf 95 = .ok (.bipush 16, 2) := by decide +kernel
theorem dX12_wordOf_97 : decode cX12_wordOf 97 = .ok (.invokestatic 91, 3) := by decide +kernel
theorem dX12_wordOf_100 : decode cX12_wordOf 100 = .ok (.lcmp, 1) := by decide +kernel
theorem dX12_wordOf_101 : decode cX12_wordOf 101 = .ok (.ifCond .ne 6, 3) := by decide +kernel
theorem dX12_wordOf_104 : decode cX12_wordOf 104 = .ok (.bipush 6, 2) := by decide +kernel
theorem dX12_wordOf_106 : decode cX12_wordOf 106 = .ok (.ireturn, 1) := by decide +kernel
theorem dX12_wordOf_107 : decode cX12_wordOf 107 = .ok (.lload_n 0, 1) := by decide +kernel
theorem dX12_wordOf_108 : decode cX12_wordOf 108 = .ok (.iconst 0, 1) := by decide +kernel
theorem dX12_wordOf_109 : decode cX12_wordOf 109 = .ok (.bipush 12, 2) := by decide +kernel
theorem dX12_wordOf_111 : decode cX12_wordOf 111 = .ok (.iconst 1, 1) := by decide +kernel
theorem dX12_wordOf_112 : decode cX12_wordOf 112 = .ok (.bipush 7, 2) := by decide +kernel
theorem dX12_wordOf_114 : decode cX12_wordOf 114 = .ok (.invokestatic 91, 3) := by decide +kernel
theorem dX12_wordOf_117 : decode cX12_wordOf 117 = .ok (.lcmp, 1) := by decide +kernel
theorem dX12_wordOf_118 : decode cX12_wordOf 118 = .ok (.ifCond .ne 6, 3) := by decide +kernel
theorem dX12_wordOf_121 : decode cX12_wordOf 121 = .ok (.bipush 7, 2) := by decide +kernel
theorem dX12_wordOf_123 : decode cX12_wordOf 123 = .ok (.ireturn, 1) := by decide +kernel
theorem dX12_wordOf_124 : decode cX12_wordOf 124 = .ok (.lload_n 0, 1) := by decide +kernel
theorem dX12_wordOf_125 : decode cX12_wordOf 125 = .ok (.iconst 0, 1) := by decide +kernel
theorem dX12_wordOf_126 : decode cX12_wordOf 126 = .ok (.iconst 0, 1) := by decide +kernel
theorem dX12_wordOf_127 : decode cX12_wordOf 127 = .ok (.iconst 0, 1) := by decide +kernel
theorem dX12_wordOf_128 : decode cX12_wordOf 128 = .ok (.bipush 16, 2) := by decide +kernel
theorem dX12_wordOf_130 : decode cX12_wordOf 130 = .ok (.bipush 12, 2) := by decide +kernel
theorem dX12_wordOf_132 : decode cX12_wordOf 132 = .ok (.iconst 1, 1) := by decide +kernel
theorem dX12_wordOf_133 : decode cX12_wordOf 133 = .ok (.iconst 3, 1) := by decide +kernel
theorem dX12_wordOf_134 : decode cX12_wordOf 134 = .ok (.iconst 5, 1) := by decide +kernel
theorem dX12_wordOf_135 : decode cX12_wordOf 135 = .ok (.invokestatic 97, 3) := by decide +kernel
theorem dX12_wordOf_138 : decode cX12_wordOf 138 = .ok (.lcmp, 1) := by decide +kernel
theorem dX12_wordOf_139 : decode cX12_wordOf 139 = .ok (.ifCond .ne 6, 3) := by decide +kernel
theorem dX12_wordOf_142 : decode cX12_wordOf 142 = .ok (.bipush 8, 2) := by decide +kernel
theorem dX12_wordOf_144 : decode cX12_wordOf 144 = .ok (.ireturn, 1) := by decide +kernel
theorem dX12_wordOf_145 : decode cX12_wordOf 145 = .ok (.lload_n 0, 1) := by decide +kernel
theorem dX12_wordOf_146 : decode cX12_wordOf 146 = .ok (.iconst 0, 1) := by decide +kernel
theorem dX12_wordOf_147 : decode cX12_wordOf 147 = .ok (.iconst 0, 1) := by decide +kernel
theorem dX12_wordOf_148 : decode cX12_wordOf 148 = .ok (.iconst 0, 1) := by decide +kernel
theorem dX12_wordOf_149 : decode cX12_wordOf 149 = .ok (.bipush 15, 2) := by decide +kernel
theorem dX12_wordOf_151 : decode cX12_wordOf 151 = .ok (.bipush 18, 2) := by decide +kernel
theorem dX12_wordOf_153 : decode cX12_wordOf 153 = .ok (.iconst 4, 1) := by decide +kernel
theorem dX12_wordOf_154 : decode cX12_wordOf 154 = .ok (.iconst 5, 1) := by decide +kernel
theorem dX12_wordOf_155 : decode cX12_wordOf 155 = .ok (.bipush 18, 2) := by decide +kernel
theorem dX12_wordOf_157 : decode cX12_wordOf 157 = .ok (.invokestatic 97, 3) := by decide +kernel
theorem dX12_wordOf_160 : decode cX12_wordOf 160 = .ok (.lcmp, 1) := by decide +kernel
theorem dX12_wordOf_161 : decode cX12_wordOf 161 = .ok (.ifCond .ne 6, 3) := by decide +kernel
theorem dX12_wordOf_164 : decode cX12_wordOf 164 = .ok (.bipush 9, 2) := by decide +kernel
theorem dX12_wordOf_166 : decode cX12_wordOf 166 = .ok (.ireturn, 1) := by decide +kernel
theorem dX12_wordOf_167 : decode cX12_wordOf 167 = .ok (.lload_n 0, 1) := by decide +kernel
theorem dX12_wordOf_168 : decode cX12_wordOf 168 = .ok (.bipush 18, 2) := by decide +kernel
theorem dX12_wordOf_170 : decode cX12_wordOf 170 = .ok (.iconst 5, 1) := by decide +kernel
theorem dX12_wordOf_171 : decode cX12_wordOf 171 = .ok (.bipush 19, 2) := by decide +kernel
theorem dX12_wordOf_173 : decode cX12_wordOf 173 = .ok (.bipush 20, 2) := by decide +kernel
theorem dX12_wordOf_175 : decode cX12_wordOf 175 = .ok (.invokestatic 91, 3) := by decide +kernel
theorem dX12_wordOf_178 : decode cX12_wordOf 178 = .ok (.lcmp, 1) := by decide +kernel
theorem dX12_wordOf_179 : decode cX12_wordOf 179 = .ok (.ifCond .ne 6, 3) := by decide +kernel
theorem dX12_wordOf_182 : decode cX12_wordOf 182 = .ok (.bipush 10, 2) := by decide +kernel
theorem dX12_wordOf_184 : decode cX12_wordOf 184 = .ok (.ireturn, 1) := by decide +kernel
theorem dX12_wordOf_185 : decode cX12_wordOf 185 = .ok (.lload_n 0, 1) := by decide +kernel
theorem dX12_wordOf_186 : decode cX12_wordOf 186 = .ok (.iconst 0, 1) := by decide +kernel
theorem dX12_wordOf_187 : decode cX12_wordOf 187 = .ok (.bipush 20, 2) := by decide +kernel
theorem dX12_wordOf_189 : decode cX12_wordOf 189 = .ok (.iconst 1, 1) := by decide +kernel
theorem dX12_wordOf_190 : decode cX12_wordOf 190 = .ok (.bipush 16, 2) := by decide +kernel
theorem dX12_wordOf_192 : decode cX12_wordOf 192 = .ok (.invokestatic 91, 3) := by decide +kernel
theorem dX12_wordOf_195 : decode cX12_wordOf 195 = .ok (.lcmp, 1) := by decide +kernel
theorem dX12_wordOf_196 : decode cX12_wordOf 196 = .ok (.ifCond .ne 6, 3) := by decide +kernel
theorem dX12_wordOf_199 : decode cX12_wordOf 199 = .ok (.bipush 11, 2) := by decide +kernel
theorem dX12_wordOf_201 : decode cX12_wordOf 201 = .ok (.ireturn, 1) := by decide +kernel
theorem dX12_wordOf_202 : decode cX12_wordOf 202 = .ok (.lload_n 0, 1) := by decide +kernel
theorem dX12_wordOf_203 : decode cX12_wordOf 203 = .ok (.bipush 6, 2) := by decide +kernel
theorem dX12_wordOf_205 : decode cX12_wordOf 205 = .ok (.bipush 12, 2) := by decide +kernel
theorem dX12_wordOf_207 : decode cX12_wordOf 207 = .ok (.iconst 1, 1) := by decide +kernel
theorem dX12_wordOf_208 : decode cX12_wordOf 208 = .ok (.bipush 13, 2) := by decide +kernel
theorem dX12_wordOf_210 : decode cX12_wordOf 210 = .ok (.invokestatic 91, 3) := by decide +kernel
theorem dX12_wordOf_213 : decode cX12_wordOf 213 = .ok (.lcmp, 1) := by decide +kernel
theorem dX12_wordOf_214 : decode cX12_wordOf 214 = .ok (.ifCond .ne 6, 3) := by decide +kernel
theorem dX12_wordOf_217 : decode cX12_wordOf 217 = .ok (.bipush 12, 2) := by decide +kernel
theorem dX12_wordOf_219 : decode cX12_wordOf 219 = .ok (.ireturn, 1) := by decide +kernel
theorem dX12_wordOf_220 : decode cX12_wordOf 220 = .ok (.lload_n 0, 1) := by decide +kernel
theorem dX12_wordOf_221 : decode cX12_wordOf 221 = .ok (.bipush 18, 2) := by decide +kernel
theorem dX12_wordOf_223 : decode cX12_wordOf 223 = .ok (.bipush 15, 2) := by decide +kernel
theorem dX12_wordOf_225 : decode cX12_wordOf 225 = .ok (.bipush 12, 2) := by decide +kernel
theorem dX12_wordOf_227 : decode cX12_wordOf 227 = .ok (.bipush 12, 2) := by decide +kernel
theorem dX12_wordOf_229 : decode cX12_wordOf 229 = .ok (.invokestatic 91, 3) := by decide +kernel
theorem dX12_wordOf_232 : decode cX12_wordOf 232 = .ok (.lcmp, 1) := by decide +kernel
theorem dX12_wordOf_233 : decode cX12_wordOf 233 = .ok (.ifCond .ne 6, 3) := by decide +kernel
theorem dX12_wordOf_236 : decode cX12_wordOf 236 = .ok (.bipush 13, 2) := by decide +kernel
theorem dX12_wordOf_238 : decode cX12_wordOf 238 = .ok (.ireturn, 1) := by decide +kernel
theorem dX12_wordOf_239 : decode cX12_wordOf 239 = .ok (.lload_n 0, 1) := by decide +kernel
theorem dX12_wordOf_240 : decode cX12_wordOf 240 = .ok (.invokestatic 101, 3) := by decide +kernel
theorem dX12_wordOf_243 : decode cX12_wordOf 243 = .ok (.ireturn, 1) := by decide +kernel
theorem dX12_otherWord_0 : decode cX12_otherWord 0 = .ok (.lload_n 0, 1) := by decide +kernel
theorem dX12_otherWord_1 : decode cX12_otherWord 1 = .ok (.bipush 8, 2) := by decide +kernel
theorem dX12_otherWord_3 : decode cX12_otherWord 3 = .ok (.iconst 1, 1) := by decide +kernel
theorem dX12_otherWord_4 : decode cX12_otherWord 4 = .ok (.bipush 12, 2) := by decide +kernel
theorem dX12_otherWord_6 : decode cX12_otherWord 6 = .ok (.bipush 20, 2) := by decide +kernel
theorem dX12_otherWord_8 : decode cX12_otherWord 8 = .ok (.invokestatic 91, 3) := by decide +kernel
theorem dX12_otherWord_11 : decode cX12_otherWord 11 = .ok (.lcmp, 1) := by decide +kernel
theorem dX12_otherWord_12 : decode cX12_otherWord 12 = .ok (.ifCond .ne 6, 3) := by decide +kernel
theorem dX12_otherWord_15 : decode cX12_otherWord 15 = .ok (.bipush 14, 2) := by decide +kernel
theorem dX12_otherWord_17 : decode cX12_otherWord 17 = .ok (.ireturn, 1) := by decide +kernel
theorem dX12_otherWord_18 : decode cX12_otherWord 18 = .ok (.lload_n 0, 1) := by decide +kernel
theorem dX12_otherWord_19 : decode cX12_otherWord 19 = .ok (.bipush 12, 2) := by decide +kernel
theorem dX12_otherWord_21 : decode cX12_otherWord 21 = .ok (.iconst 5, 1) := by decide +kernel
theorem dX12_otherWord_22 : decode cX12_otherWord 22 = .ok (.bipush 6, 2) := by decide +kernel
theorem dX12_otherWord_24 : decode cX12_otherWord 24 = .ok (.bipush 20, 2) := by decide +kernel
theorem dX12_otherWord_26 : decode cX12_otherWord 26 = .ok (.invokestatic 91, 3) := by decide +kernel
theorem dX12_otherWord_29 : decode cX12_otherWord 29 = .ok (.lcmp, 1) := by decide +kernel
theorem dX12_otherWord_30 : decode cX12_otherWord 30 = .ok (.ifCond .ne 6, 3) := by decide +kernel
theorem dX12_otherWord_33 : decode cX12_otherWord 33 = .ok (.bipush 15, 2) := by decide +kernel
theorem dX12_otherWord_35 : decode cX12_otherWord 35 = .ok (.ireturn, 1) := by decide +kernel
theorem dX12_otherWord_36 : decode cX12_otherWord 36 = .ok (.lload_n 0, 1) := by decide +kernel
theorem dX12_otherWord_37 : decode cX12_otherWord 37 = .ok (.iconst 0, 1) := by decide +kernel
theorem dX12_otherWord_38 : decode cX12_otherWord 38 = .ok (.iconst 0, 1) := by decide +kernel
theorem dX12_otherWord_39 : decode cX12_otherWord 39 = .ok (.iconst 0, 1) := by decide +kernel
theorem dX12_otherWord_40 : decode cX12_otherWord 40 = .ok (.bipush 18, 2) := by decide +kernel
theorem dX12_otherWord_42 : decode cX12_otherWord 42 = .ok (.bipush 9, 2) := by decide +kernel
theorem dX12_otherWord_44 : decode cX12_otherWord 44 = .ok (.bipush 7, 2) := by decide +kernel
theorem dX12_otherWord_46 : decode cX12_otherWord 46 = .ok (.bipush 8, 2) := by decide +kernel
theorem dX12_otherWord_48 : decode cX12_otherWord 48 = .ok (.bipush 20, 2) := by decide +kernel
theorem dX12_otherWord_50 : decode cX12_otherWord 50 = .ok (.invokestatic 97, 3) := by decide +kernel
theorem dX12_otherWord_53 : decode cX12_otherWord 53 = .ok (.lcmp, 1) := by decide +kernel
theorem dX12_otherWord_54 : decode cX12_otherWord 54 = .ok (.ifCond .ne 6, 3) := by decide +kernel
theorem dX12_otherWord_57 : decode cX12_otherWord 57 = .ok (.bipush 16, 2) := by decide +kernel
theorem dX12_otherWord_59 : decode cX12_otherWord 59 = .ok (.ireturn, 1) := by decide +kernel
theorem dX12_otherWord_60 : decode cX12_otherWord 60 = .ok (.lload_n 0, 1) := by decide +kernel
theorem dX12_otherWord_61 : decode cX12_otherWord 61 = .ok (.iconst 0, 1) := by decide +kernel
theorem dX12_otherWord_62 : decode cX12_otherWord 62 = .ok (.iconst 0, 1) := by decide +kernel
theorem dX12_otherWord_63 : decode cX12_otherWord 63 = .ok (.iconst 3, 1) := by decide +kernel
theorem dX12_otherWord_64 : decode cX12_otherWord 64 = .ok (.bipush 8, 2) := by decide +kernel
theorem dX12_otherWord_66 : decode cX12_otherWord 66 = .ok (.iconst 1, 1) := by decide +kernel
theorem dX12_otherWord_67 : decode cX12_otherWord 67 = .ok (.bipush 18, 2) := by decide +kernel
theorem dX12_otherWord_69 : decode cX12_otherWord 69 = .ok (.bipush 7, 2) := by decide +kernel
theorem dX12_otherWord_71 : decode cX12_otherWord 71 = .ok (.iconst 5, 1) := by decide +kernel
theorem dX12_otherWord_72 : decode cX12_otherWord 72 = .ok (.invokestatic 97, 3) := by decide +kernel
theorem dX12_otherWord_75 : decode cX12_otherWord 75 = .ok (.lcmp, 1) := by decide +kernel
theorem dX12_otherWord_76 : decode cX12_otherWord 76 = .ok (.ifCond .ne 6, 3) := by decide +kernel
theorem dX12_otherWord_79 : decode cX12_otherWord 79 = .ok (.bipush 17, 2) := by decide +kernel
theorem dX12_otherWord_81 : decode cX12_otherWord 81 = .ok (.ireturn, 1) := by decide +kernel
theorem dX12_otherWord_82 : decode cX12_otherWord 82 = .ok (.lload_n 0, 1) := by decide +kernel
theorem dX12_otherWord_83 : decode cX12_otherWord 83 = .ok (.iconst 0, 1) := by decide +kernel
theorem dX12_otherWord_84 : decode cX12_otherWord 84 = .ok (.bipush 18, 2) := by decide +kernel
theorem dX12_otherWord_86 : decode cX12_otherWord 86 = .ok (.iconst 5, 1) := by decide +kernel
theorem dX12_otherWord_87 : decode cX12_otherWord 87 = .ok (.bipush 20, 2) := by decide +kernel
theorem dX12_otherWord_89 : decode cX12_otherWord 89 = .ok (.bipush 18, 2) := by decide +kernel
theorem dX12_otherWord_91 : decode cX12_otherWord 91 = .ok (.iconst 5, 1) := by decide +kernel
theorem dX12_otherWord_92 : decode cX12_otherWord 92 = .ok (.iconst 1, 1) := by decide +kernel
theorem dX12_otherWord_93 : decode cX12_otherWord 93 = .ok (.bipush 20, 2) := by decide +kernel
theorem dX12_otherWord_95 : decode cX12_otherWord 95 = .ok (.invokestatic 97, 3) := by decide +kernel
theorem dX12_otherWord_98 : decode cX12_otherWord 98 = .ok (.lcmp, 1) := by decide +kernel
theorem dX12_otherWord_99 : decode cX12_otherWord 99 = .ok (.ifCond .ne 6, 3) := by decide +kernel
theorem dX12_otherWord_102 : decode cX12_otherWord 102 = .ok (.bipush 18, 2) := by decide +kernel
theorem dX12_otherWord_104 : decode cX12_otherWord 104 = .ok (.ireturn, 1) := by decide +kernel
theorem dX12_otherWord_105 : decode cX12_otherWord 105 = .ok (.lload_n 0, 1) := by decide +kernel
theorem dX12_otherWord_106 : decode cX12_otherWord 106 = .ok (.iconst 0, 1) := by decide +kernel
theorem dX12_otherWord_107 : decode cX12_otherWord 107 = .ok (.iconst 0, 1) := by decide +kernel
theorem dX12_otherWord_108 : decode cX12_otherWord 108 = .ok (.iconst 0, 1) := by decide +kernel
theorem dX12_otherWord_109 : decode cX12_otherWord 109 = .ok (.bipush 7, 2) := by decide +kernel
theorem dX12_otherWord_111 : decode cX12_otherWord 111 = .ok (.bipush 9, 2) := by decide +kernel
theorem dX12_otherWord_113 : decode cX12_otherWord 113 = .ok (.bipush 22, 2) := by decide +kernel
theorem dX12_otherWord_115 : decode cX12_otherWord 115 = .ok (.iconst 5, 1) := by decide +kernel
theorem dX12_otherWord_116 : decode cX12_otherWord 116 = .ok (.bipush 19, 2) := by decide +kernel
theorem dX12_otherWord_118 : decode cX12_otherWord 118 = .ok (.invokestatic 97, 3) := by decide +kernel
theorem dX12_otherWord_121 : decode cX12_otherWord 121 = .ok (.lcmp, 1) := by decide +kernel
theorem dX12_otherWord_122 : decode cX12_otherWord 122 = .ok (.ifCond .ne 6, 3) := by decide +kernel
theorem dX12_otherWord_125 : decode cX12_otherWord 125 = .ok (.bipush 19, 2) := by decide +kernel
theorem dX12_otherWord_127 : decode cX12_otherWord 127 = .ok (.ireturn, 1) := by decide +kernel
theorem dX12_otherWord_128 : decode cX12_otherWord 128 = .ok (.lload_n 0, 1) := by decide +kernel
theorem dX12_otherWord_129 : decode cX12_otherWord 129 = .ok (.bipush 13, 2) := by decide +kernel
theorem dX12_otherWord_131 : decode cX12_otherWord 131 = .ok (.iconst 1, 1) := by decide +kernel
theorem dX12_otherWord_132 : decode cX12_otherWord 132 = .ok (.iconst 4, 1) := by decide +kernel
theorem dX12_otherWord_133 : decode cX12_otherWord 133 = .ok (.iconst 5, 1) := by decide +kernel
theorem dX12_otherWord_134 : decode cX12_otherWord 134 = .ok (.invokestatic 91, 3) := by decide +kernel
theorem dX12_otherWord_137 : decode cX12_otherWord 137 = .ok (.lcmp, 1) := by decide +kernel
theorem dX12_otherWord_138 : decode cX12_otherWord 138 = .ok (.ifCond .ne 6, 3) := by decide +kernel
theorem dX12_otherWord_141 : decode cX12_otherWord 141 = .ok (.bipush 20, 2) := by decide +kernel
theorem dX12_otherWord_143 : decode cX12_otherWord 143 = .ok (.ireturn, 1) := by decide +kernel
theorem dX12_otherWord_144 : decode cX12_otherWord 144 = .ok (.lload_n 0, 1) := by decide +kernel
theorem dX12_otherWord_145 : decode cX12_otherWord 145 = .ok (.iconst 4, 1) := by decide +kernel
theorem dX12_otherWord_146 : decode cX12_otherWord 146 = .ok (.bipush 18, 2) := by decide +kernel
theorem dX12_otherWord_148 : decode cX12_otherWord 148 = .ok (.bipush 15, 2) := by decide +kernel
theorem dX12_otherWord_150 : decode cX12_otherWord 150 = .ok (.bipush 16, 2) := by decide +kernel
theorem dX12_otherWord_152 : decode cX12_otherWord 152 = .ok (.invokestatic 91, 3) := by decide +kernel
theorem dX12_otherWord_155 : decode cX12_otherWord 155 = .ok (.lcmp, 1) := by decide +kernel
theorem dX12_otherWord_156 : decode cX12_otherWord 156 = .ok (.ifCond .ne 6, 3) := by decide +kernel
theorem dX12_otherWord_159 : decode cX12_otherWord 159 = .ok (.bipush 21, 2) := by decide +kernel
theorem dX12_otherWord_161 : decode cX12_otherWord 161 = .ok (.ireturn, 1) := by decide +kernel
theorem dX12_otherWord_162 : decode cX12_otherWord 162 = .ok (.lload_n 0, 1) := by decide +kernel
theorem dX12_otherWord_163 : decode cX12_otherWord 163 = .ok (.bipush 19, 2) := by decide +kernel
theorem dX12_otherWord_165 : decode cX12_otherWord 165 = .ok (.bipush 23, 2) := by decide +kernel
theorem dX12_otherWord_167 : decode cX12_otherWord 167 = .ok (.iconst 1, 1) := by decide +kernel
theorem dX12_otherWord_168 : decode cX12_otherWord 168 = .ok (.bipush 16, 2) := by decide +kernel
theorem dX12_otherWord_170 : decode cX12_otherWord 170 = .ok (.invokestatic 91, 3) := by decide +kernel
theorem dX12_otherWord_173 : decode cX12_otherWord 173 = .ok (.lcmp, 1) := by decide +kernel
theorem dX12_otherWord_174 : decode cX12_otherWord 174 = .ok (.ifCond .ne 6, 3) := by decide +kernel
theorem dX12_otherWord_177 : decode cX12_otherWord 177 = .ok (.bipush 22, 2) := by decide +kernel
theorem dX12_otherWord_179 : decode cX12_otherWord 179 = .ok (.ireturn, 1) := by decide +kernel
theorem dX12_otherWord_180 : decode cX12_otherWord 180 = .ok (.lload_n 0, 1) := by decide +kernel
theorem dX12_otherWord_181 : decode cX12_otherWord 181 = .ok (.iconst 0, 1) := by decide +kernel
theorem dX12_otherWord_182 : decode cX12_otherWord 182 = .ok (.iconst 0, 1) := by decide +kernel
theorem dX12_otherWord_183 : decode cX12_otherWord 183 = .ok (.iconst 0, 1) := by decide +kernel
theorem dX12_otherWord_184 : decode cX12_otherWord 184 = .ok (.bipush 20, 2) := by decide +kernel
theorem dX12_otherWord_186 : decode cX12_otherWord 186 = .ok (.bipush 23, 2) := by decide +kernel
theorem dX12_otherWord_188 : decode cX12_otherWord 188 = .ok (.bipush 9, 2) := by decide +kernel
theorem dX12_otherWord_190 : decode cX12_otherWord 190 = .ok (.iconst 3, 1) := by decide +kernel
theorem dX12_otherWord_191 : decode cX12_otherWord 191 = .ok (.iconst 5, 1) := by decide +kernel
theorem dX12_otherWord_192 : decode cX12_otherWord 192 = .ok (.invokestatic 97, 3) := by decide +kernel
theorem dX12_otherWord_195 : decode cX12_otherWord 195 = .ok (.lcmp, 1) := by decide +kernel
theorem dX12_otherWord_196 : decode cX12_otherWord 196 = .ok (.ifCond .ne 6, 3) := by decide +kernel
theorem dX12_otherWord_199 : decode cX12_otherWord 199 = .ok (.bipush 23, 2) := by decide +kernel
theorem dX12_otherWord_201 : decode cX12_otherWord 201 = .ok (.ireturn, 1) := by decide +kernel
theorem dX12_otherWord_202 : decode cX12_otherWord 202 = .ok (.lload_n 0, 1) := by decide +kernel
theorem dX12_otherWord_203 : decode cX12_otherWord 203 = .ok (.bipush 12, 2) := by decide +kernel
theorem dX12_otherWord_205 : decode cX12_otherWord 205 = .ok (.iconst 1, 1) := by decide +kernel
theorem dX12_otherWord_206 : decode cX12_otherWord 206 = .ok (.bipush 19, 2) := by decide +kernel
theorem dX12_otherWord_208 : decode cX12_otherWord 208 = .ok (.bipush 20, 2) := by decide +kernel
theorem dX12_otherWord_210 : decode cX12_otherWord 210 = .ok (.invokestatic 91, 3) := by decide +kernel
theorem dX12_otherWord_213 : decode cX12_otherWord 213 = .ok (.lcmp, 1) := by decide +kernel
theorem dX12_otherWord_214 : decode cX12_otherWord 214 = .ok (.ifCond .ne 8, 3) := by decide +kernel
theorem dX12_otherWord_217 : decode cX12_otherWord 217 = .ok (.bipush 24, 2) := by decide +kernel
theorem dX12_otherWord_219 : decode cX12_otherWord 219 = .ok (.goto 5, 3) := by decide +kernel
theorem dX12_otherWord_222 : decode cX12_otherWord 222 = .ok (.bipush 99, 2) := by decide +kernel
theorem dX12_otherWord_224 : decode cX12_otherWord 224 = .ok (.ireturn, 1) := by decide +kernel
theorem dX12_advance_0 : decode cX12_advance 0 = .ok (.aload_n 0, 1) := by decide +kernel
theorem dX12_advance_1 : decode cX12_advance 1 = .ok (.aload_n 0, 1) := by decide +kernel
theorem dX12_advance_2 : decode cX12_advance 2 = .ok (.getfield 105, 3) := by decide +kernel
theorem dX12_advance_5 : decode cX12_advance 5 = .ok (.invokevirtual 108, 3) := by decide +kernel
theorem dX12_advance_8 : decode cX12_advance 8 = .ok (.bipush 10, 2) := by decide +kernel
theorem dX12_advance_10 : decode cX12_advance 10 = .ok (.if_icmp .eq 16, 3) := by decide +kernel
theorem dX12_advance_13 : decode cX12_advance 13 = .ok (.aload_n 0, 1) := by decide +kernel
theorem dX12_advance_14 : decode cX12_advance 14 = .ok (.aload_n 0, 1) := by decide +kernel
theorem dX12_advance_15 : decode cX12_advance 15 = .ok (.getfield 105, 3) := by decide +kernel
theorem dX12_advance_18 : decode cX12_advance 18 = .ok (.invokevirtual 108, 3) := by decide +kernel
theorem dX12_advance_21 : decode cX12_advance 21 = .ok (.bipush 32, 2) := by decide +kernel
theorem dX12_advance_23 : decode cX12_advance 23 = .ok (.if_icmp .ne 16, 3) := by decide +kernel
theorem dX12_advance_26 : decode cX12_advance 26 = .ok (.aload_n 0, 1) := by decide +kernel
theorem dX12_advance_27 : decode cX12_advance 27 = .ok (.dup, 1) := by decide +kernel
theorem dX12_advance_28 : decode cX12_advance 28 = .ok (.getfield 105, 3) := by decide +kernel
theorem dX12_advance_31 : decode cX12_advance 31 = .ok (.iconst 1, 1) := by decide +kernel
theorem dX12_advance_32 : decode cX12_advance 32 = .ok (.iadd, 1) := by decide +kernel
theorem dX12_advance_33 : decode cX12_advance 33 = .ok (.putfield 105, 3) := by decide +kernel
theorem dX12_advance_36 : decode cX12_advance 36 = .ok (.goto (-36), 3) := by decide +kernel
theorem dX12_advance_39 : decode cX12_advance 39 = .ok (.aload_n 0, 1) := by decide +kernel
theorem dX12_advance_40 : decode cX12_advance 40 = .ok (.aload_n 0, 1) := by decide +kernel
theorem dX12_advance_41 : decode cX12_advance 41 = .ok (.getfield 105, 3) := by decide +kernel
theorem dX12_advance_44 : decode cX12_advance 44 = .ok (.putfield 112, 3) := by decide +kernel
theorem dX12_advance_47 : decode cX12_advance 47 = .ok (.aload_n 0, 1) := by decide +kernel
theorem dX12_advance_48 : decode cX12_advance 48 = .ok (.aload_n 0, 1) := by decide +kernel
theorem dX12_advance_49 : decode cX12_advance 49 = .ok (.getfield 105, 3) := by decide +kernel
theorem dX12_advance_52 : decode cX12_advance 52 = .ok (.invokevirtual 108, 3) := by decide +kernel
theorem dX12_advance_55 : decode cX12_advance 55 = .ok (.istore_n 1, 1) := by decide +kernel
theorem dX12_advance_56 : decode cX12_advance 56 = .ok (.iload_n 1, 1) := by decide +kernel
theorem dX12_advance_57 : decode cX12_advance 57 = .ok (.ifCond .ge 11, 3) := by decide +kernel
theorem dX12_advance_60 : decode cX12_advance 60 = .ok (.aload_n 0, 1) := by decide +kernel
theorem dX12_advance_61 : decode cX12_advance 61 = .ok (.iconst 0, 1) := by decide +kernel
theorem dX12_advance_62 : decode cX12_advance 62 = .ok (.putfield 115, 3) := by decide +kernel
theorem dX12_advance_65 : decode cX12_advance 65 = .ok (.goto 246, 3) := by decide +kernel
theorem dX12_advance_68 : decode cX12_advance 68 = .ok (.iload_n 1, 1) := by decide +kernel
theorem dX12_advance_69 : decode cX12_advance 69 = .ok (.invokestatic 118, 3) := by decide +kernel
theorem dX12_advance_72 : decode cX12_advance 72 = .ok (.ifCond .eq 114, 3) := by decide +kernel
theorem dX12_advance_75 : decode cX12_advance 75 = .ok (.lconst 0, 1) := by decide +kernel
theorem dX12_advance_76 : decode cX12_advance 76 = .ok (.lstore_n 2, 1) := by decide +kernel
theorem dX12_advance_77 : decode cX12_advance 77 = .ok (.aload_n 0, 1) := by decide +kernel
theorem dX12_advance_78 : decode cX12_advance 78 = .ok (.aload_n 0, 1) := by decide +kernel
theorem dX12_advance_79 : decode cX12_advance 79 = .ok (.getfield 105, 3) := by decide +kernel
theorem dX12_advance_82 : decode cX12_advance 82 = .ok (.invokevirtual 108, 3) := by decide +kernel
theorem dX12_advance_85 : decode cX12_advance 85 = .ok (.invokestatic 118, 3) := by decide +kernel
theorem dX12_advance_88 : decode cX12_advance 88 = .ok (.ifCond .eq 50, 3) := by decide +kernel
theorem dX12_advance_91 : decode cX12_advance 91 = .ok (.aload_n 0, 1) := by decide +kernel
theorem dX12_advance_92 : decode cX12_advance 92 = .ok (.getfield 105, 3) := by decide +kernel
theorem dX12_advance_95 : decode cX12_advance 95 = .ok (.aload_n 0, 1) := by decide +kernel
theorem dX12_advance_96 : decode cX12_advance 96 = .ok (.getfield 112, 3) := by decide +kernel
theorem dX12_advance_99 : decode cX12_advance 99 = .ok (.isub, 1) := by decide +kernel
theorem dX12_advance_100 : decode cX12_advance 100 = .ok (.bipush 8, 2) := by decide +kernel
theorem dX12_advance_102 : decode cX12_advance 102 = .ok (.if_icmp .ge 23, 3) := by decide +kernel
theorem dX12_advance_105 : decode cX12_advance 105 = .ok (.ldc2_w 122, 3) := by decide +kernel
theorem dX12_advance_108 : decode cX12_advance 108 = .ok (.lload_n 2, 1) := by decide +kernel
theorem dX12_advance_109 : decode cX12_advance 109 = .ok (.lmul, 1) := by decide +kernel
theorem dX12_advance_110 : decode cX12_advance 110 = .ok (.aload_n 0, 1) := by decide +kernel
theorem dX12_advance_111 : decode cX12_advance 111 = .ok (.aload_n 0, 1) := by decide +kernel
theorem dX12_advance_112 : decode cX12_advance 112 = .ok (.getfield 105, 3) := by decide +kernel
theorem dX12_advance_115 : decode cX12_advance 115 = .ok (.invokevirtual 108, 3) := by decide +kernel
theorem dX12_advance_118 : decode cX12_advance 118 = .ok (.i2l, 1) := by decide +kernel
theorem dX12_advance_119 : decode cX12_advance 119 = .ok (.ladd, 1) := by decide +kernel
theorem dX12_advance_120 : decode cX12_advance 120 = .ok (.ldc2_w 124, 3) := by decide +kernel
theorem dX12_advance_123 : decode cX12_advance 123 = .ok (.lsub, 1) := by decide +kernel
theorem dX12_advance_124 : decode cX12_advance 124 = .ok (.lstore_n 2, 1) := by decide +kernel
theorem dX12_advance_125 : decode cX12_advance 125 = .ok (.aload_n 0, 1) := by decide +kernel
theorem dX12_advance_126 : decode cX12_advance 126 = .ok (.dup, 1) := by decide +kernel
theorem dX12_advance_127 : decode cX12_advance 127 = .ok (.getfield 105, 3) := by decide +kernel
theorem dX12_advance_130 : decode cX12_advance 130 = .ok (.iconst 1, 1) := by decide +kernel
theorem dX12_advance_131 : decode cX12_advance 131 = .ok (.iadd, 1) := by decide +kernel
theorem dX12_advance_132 : decode cX12_advance 132 = .ok (.putfield 105, 3) := by decide +kernel
theorem dX12_advance_135 : decode cX12_advance 135 = .ok (.goto (-58), 3) := by decide +kernel
theorem dX12_advance_138 : decode cX12_advance 138 = .ok (.aload_n 0, 1) := by decide +kernel
theorem dX12_advance_139 : decode cX12_advance 139 = .ok (.aload_n 0, 1) := by decide +kernel
theorem dX12_advance_140 : decode cX12_advance 140 = .ok (.getfield 105, 3) := by decide +kernel
theorem dX12_advance_143 : decode cX12_advance 143 = .ok (.aload_n 0, 1) := by decide +kernel
theorem dX12_advance_144 : decode cX12_advance 144 = .ok (.getfield 112, 3) := by decide +kernel
theorem dX12_advance_147 : decode cX12_advance 147 = .ok (.isub, 1) := by decide +kernel
theorem dX12_advance_148 : decode cX12_advance 148 = .ok (.bipush 8, 2) := by decide +kernel
theorem dX12_advance_150 : decode cX12_advance 150 = .ok (.if_icmp .le 8, 3) := by decide +kernel
theorem dX12_advance_153 : decode cX12_advance 153 = .ok (.bipush 99, 2) := by decide +kernel
theorem dX12_advance_155 : decode cX12_advance 155 = .ok (.goto 7, 3) := by decide +kernel
theorem dX12_advance_158 : decode cX12_advance 158 = .ok (.lload_n 2, 1) := by decide +kernel
theorem dX12_advance_159 : decode cX12_advance 159 = .ok (.invokestatic 126, 3) := by decide +kernel
theorem dX12_advance_162 : decode cX12_advance 162 = .ok (.putfield 129, 3) := by decide +kernel
theorem dX12_advance_165 : decode cX12_advance 165 = .ok (.aload_n 0, 1) := by decide +kernel
theorem dX12_advance_166 : decode cX12_advance 166 = .ok (.aload_n 0, 1) := by decide +kernel
theorem dX12_advance_167 : decode cX12_advance 167 = .ok (.getfield 129, 3) := by decide +kernel
theorem dX12_advance_170 : decode cX12_advance 170 = .ok (.bipush 99, 2) := by decide +kernel
theorem dX12_advance_172 : decode cX12_advance 172 = .ok (.if_icmp .ne 7, 3) := by decide +kernel
theorem dX12_advance_175 : decode cX12_advance 175 = .ok (.iconst 4, 1) := by decide +kernel
theorem dX12_advance_176 : decode cX12_advance 176 = .ok (.goto 4, 3) := by decide +kernel
theorem dX12_advance_179 : decode cX12_advance 179 = .ok (.iconst 3, 1) := by decide +kernel
theorem dX12_advance_180 : decode cX12_advance 180 = .ok (.putfield 115, 3) := by decide +kernel
theorem dX12_advance_183 : decode cX12_advance 183 = .ok (.goto 128, 3) := by decide +kernel
theorem dX12_advance_186 : decode cX12_advance 186 = .ok (.iload_n 1, 1) := by decide +kernel
theorem dX12_advance_187 : decode cX12_advance 187 = .ok (.invokestatic 132, 3) := by decide +kernel
theorem dX12_advance_190 : decode cX12_advance 190 = .ok (.ifCond .eq 96, 3) := by decide +kernel
theorem dX12_advance_193 : decode cX12_advance 193 = .ok (.aload_n 0, 1) := by decide +kernel
theorem dX12_advance_194 : decode cX12_advance 194 = .ok (.iconst 0, 1) := by decide +kernel
theorem dX12_advance_195 : decode cX12_advance 195 = .ok (.putfield 135, 3) := by decide +kernel
theorem dX12_advance_198 : decode cX12_advance 198 = .ok (.aload_n 0, 1) := by decide +kernel
theorem dX12_advance_199 : decode cX12_advance 199 = .ok (.aload_n 0, 1) := by decide +kernel
theorem dX12_advance_200 : decode cX12_advance 200 = .ok (.getfield 105, 3) := by decide +kernel
theorem dX12_advance_203 : decode cX12_advance 203 = .ok (.invokevirtual 108, 3) := by decide +kernel
theorem dX12_advance_206 : decode cX12_advance 206 = .ok (.invokestatic 132, 3) := by decide +kernel
theorem dX12_advance_209 : decode cX12_advance 209 = .ok (.ifCond .eq 52, 3) := by decide +kernel
theorem dX12_advance_212 : decode cX12_advance 212 = .ok (.aload_n 0, 1) := by decide +kernel
theorem dX12_advance_213 : decode cX12_advance 213 = .ok (.getfield 105, 3) := by decide +kernel
theorem dX12_advance_216 : decode cX12_advance 216 = .ok (.aload_n 0, 1) := by decide +kernel
theorem dX12_advance_217 : decode cX12_advance 217 = .ok (.getfield 112, 3) := by decide +kernel
theorem dX12_advance_220 : decode cX12_advance 220 = .ok (.isub, 1) := by decide +kernel
theorem dX12_advance_221 : decode cX12_advance 221 = .ok (.iconst 2, 1) := by decide +kernel
theorem dX12_advance_222 : decode cX12_advance 222 = .ok (.if_icmp .ge 26, 3) := by decide +kernel
theorem dX12_advance_225 : decode cX12_advance 225 = .ok (.aload_n 0, 1) := by decide +kernel
theorem dX12_advance_226 : decode cX12_advance 226 = .ok (.bipush 10, 2) := by decide +kernel
theorem dX12_advance_228 : decode cX12_advance 228 = .ok (.aload_n 0, 1) := by decide +kernel
theorem dX12_advance_229 : decode cX12_advance 229 = .ok (.getfield 135, 3) := by decide +kernel
theorem dX12_advance_232 : decode cX12_advance 232 = .ok (.imul, 1) := by decide +kernel
theorem dX12_advance_233 : decode cX12_advance 233 = .ok (.aload_n 0, 1) := by decide +kernel
theorem dX12_advance_234 : decode cX12_advance 234 = .ok (.aload_n 0, 1) := by decide +kernel
theorem dX12_advance_235 : decode cX12_advance 235 = .ok (.getfield 105, 3) := by decide +kernel
theorem dX12_advance_238 : decode cX12_advance 238 = .ok (.invokevirtual 108, 3) := by decide +kernel
theorem dX12_advance_241 : decode cX12_advance 241 = .ok (.iadd, 1) := by decide +kernel
theorem dX12_advance_242 : decode cX12_advance 242 = .ok (.bipush 48, 2) := by decide +kernel
theorem dX12_advance_244 : decode cX12_advance 244 = .ok (.isub, 1) := by decide +kernel
theorem dX12_advance_245 : decode cX12_advance 245 = .ok (.putfield 135, 3) := by decide +kernel
theorem dX12_advance_248 : decode cX12_advance 248 = .ok (.aload_n 0, 1) := by decide +kernel
theorem dX12_advance_249 : decode cX12_advance 249 = .ok (.dup, 1) := by decide +kernel
theorem dX12_advance_250 : decode cX12_advance 250 = .ok (.getfield 105, 3) := by decide +kernel
theorem dX12_advance_253 : decode cX12_advance 253 = .ok (.iconst 1, 1) := by decide +kernel
theorem dX12_advance_254 : decode cX12_advance 254 = .ok (.iadd, 1) := by decide +kernel
theorem dX12_advance_255 : decode cX12_advance 255 = .ok (.putfield 105, 3) := by decide +kernel
theorem dX12_advance_258 : decode cX12_advance 258 = .ok (.goto (-60), 3) := by decide +kernel
theorem dX12_advance_261 : decode cX12_advance 261 = .ok (.aload_n 0, 1) := by decide +kernel
theorem dX12_advance_262 : decode cX12_advance 262 = .ok (.aload_n 0, 1) := by decide +kernel
theorem dX12_advance_263 : decode cX12_advance 263 = .ok (.getfield 105, 3) := by decide +kernel
theorem dX12_advance_266 : decode cX12_advance 266 = .ok (.aload_n 0, 1) := by decide +kernel
theorem dX12_advance_267 : decode cX12_advance 267 = .ok (.getfield 112, 3) := by decide +kernel
theorem dX12_advance_270 : decode cX12_advance 270 = .ok (.isub, 1) := by decide +kernel
theorem dX12_advance_271 : decode cX12_advance 271 = .ok (.iconst 2, 1) := by decide +kernel
theorem dX12_advance_272 : decode cX12_advance 272 = .ok (.if_icmp .le 7, 3) := by decide +kernel
theorem dX12_advance_275 : decode cX12_advance 275 = .ok (.iconst 4, 1) := by decide +kernel
theorem dX12_advance_276 : decode cX12_advance 276 = .ok (.goto 4, 3) := by decide +kernel
theorem dX12_advance_279 : decode cX12_advance 279 = .ok (.iconst 1, 1) := by decide +kernel
theorem dX12_advance_280 : decode cX12_advance 280 = .ok (.putfield 115, 3) := by decide +kernel
theorem dX12_advance_283 : decode cX12_advance 283 = .ok (.goto 28, 3) := by decide +kernel
theorem dX12_advance_286 : decode cX12_advance 286 = .ok (.aload_n 0, 1) := by decide +kernel
theorem dX12_advance_287 : decode cX12_advance 287 = .ok (.dup, 1) := by decide +kernel
theorem dX12_advance_288 : decode cX12_advance 288 = .ok (.getfield 105, 3) := by decide +kernel
theorem dX12_advance_291 : decode cX12_advance 291 = .ok (.iconst 1, 1) := by decide +kernel
theorem dX12_advance_292 : decode cX12_advance 292 = .ok (.iadd, 1) := by decide +kernel
theorem dX12_advance_293 : decode cX12_advance 293 = .ok (.putfield 105, 3) := by decide +kernel
theorem dX12_advance_296 : decode cX12_advance 296 = .ok (.aload_n 0, 1) := by decide +kernel
theorem dX12_advance_297 : decode cX12_advance 297 = .ok (.iload_n 1, 1) := by decide +kernel
theorem dX12_advance_298 : decode cX12_advance 298 = .ok (.bipush 59, 2) := by decide +kernel
theorem dX12_advance_300 : decode cX12_advance 300 = .ok (.if_icmp .ne 7, 3) := by decide +kernel
theorem dX12_advance_303 : decode cX12_advance 303 = .ok (.iconst 2, 1) := by decide +kernel
theorem dX12_advance_304 : decode cX12_advance 304 = .ok (.goto 4, 3) := by decide +kernel
theorem dX12_advance_307 : decode cX12_advance 307 = .ok (.iconst 4, 1) := by decide +kernel
theorem dX12_advance_308 : decode cX12_advance 308 = .ok (.putfield 115, 3) := by decide +kernel
theorem dX12_advance_311 : decode cX12_advance 311 = .ok (.return_, 1) := by decide +kernel
theorem dX12_ends_0 : decode cX12_ends 0 = .ok (.aload_n 0, 1) := by decide +kernel
theorem dX12_ends_1 : decode cX12_ends 1 = .ok (.getfield 138, 3) := by decide +kernel
theorem dX12_ends_4 : decode cX12_ends 4 = .ok (.ifCond .eq 4, 3) := by decide +kernel
theorem dX12_ends_7 : decode cX12_ends 7 = .ok (.return_, 1) := by decide +kernel
theorem dX12_ends_8 : decode cX12_ends 8 = .ok (.aload_n 0, 1) := by decide +kernel
theorem dX12_ends_9 : decode cX12_ends 9 = .ok (.iconst 1, 1) := by decide +kernel
theorem dX12_ends_10 : decode cX12_ends 10 = .ok (.putfield 138, 3) := by decide +kernel
theorem dX12_ends_13 : decode cX12_ends 13 = .ok (.aload_n 0, 1) := by decide +kernel
theorem dX12_ends_14 : decode cX12_ends 14 = .ok (.getfield 7, 3) := by decide +kernel
theorem dX12_ends_17 : decode cX12_ends 17 = .ok (.iconst 5, 1) := by decide +kernel
theorem dX12_ends_18 : decode cX12_ends 18 = .ok (.iconst 1, 1) := by decide +kernel
theorem dX12_ends_19 : decode cX12_ends 19 = .ok (.iastore, 1) := by decide +kernel
theorem dX12_ends_20 : decode cX12_ends 20 = .ok (.aload_n 0, 1) := by decide +kernel
theorem dX12_ends_21 : decode cX12_ends 21 = .ok (.getfield 7, 3) := by decide +kernel
theorem dX12_ends_24 : decode cX12_ends 24 = .ok (.bipush 6, 2) := by decide +kernel
theorem dX12_ends_26 : decode cX12_ends 26 = .ok (.aload_n 0, 1) := by decide +kernel
theorem dX12_ends_27 : decode cX12_ends 27 = .ok (.getfield 112, 3) := by decide +kernel
theorem dX12_ends_30 : decode cX12_ends 30 = .ok (.iastore, 1) := by decide +kernel
theorem dX12_ends_31 : decode cX12_ends 31 = .ok (.return_, 1) := by decide +kernel
theorem dX12_also_0 : decode cX12_also 0 = .ok (.aload_n 0, 1) := by decide +kernel
theorem dX12_also_1 : decode cX12_also 1 = .ok (.getfield 138, 3) := by decide +kernel
theorem dX12_also_4 : decode cX12_also 4 = .ok (.ifCond .ne 44, 3) := by decide +kernel
theorem dX12_also_7 : decode cX12_also 7 = .ok (.aload_n 0, 1) := by decide +kernel
theorem dX12_also_8 : decode cX12_also 8 = .ok (.getfield 7, 3) := by decide +kernel
theorem dX12_also_11 : decode cX12_also 11 = .ok (.iconst 5, 1) := by decide +kernel
theorem dX12_also_12 : decode cX12_also 12 = .ok (.iaload, 1) := by decide +kernel
theorem dX12_also_13 : decode cX12_also 13 = .ok (.ifCond .eq 36, 3) := by decide +kernel
theorem dX12_also_16 : decode cX12_also 16 = .ok (.aload_n 0, 1) := by decide +kernel
theorem dX12_also_17 : decode cX12_also 17 = .ok (.getfield 7, 3) := by decide +kernel
theorem dX12_also_20 : decode cX12_also 20 = .ok (.bipush 6, 2) := by decide +kernel
theorem dX12_also_22 : decode cX12_also 22 = .ok (.iaload, 1) := by decide +kernel
theorem dX12_also_23 : decode cX12_also 23 = .ok (.iload_n 2, 1) := by decide +kernel
theorem dX12_also_24 : decode cX12_also 24 = .ok (.if_icmp .lt 24, 3) := by decide +kernel
theorem dX12_also_27 : decode cX12_also 27 = .ok (.aload_n 0, 1) := by decide +kernel
theorem dX12_also_28 : decode cX12_also 28 = .ok (.getfield 7, 3) := by decide +kernel
theorem dX12_also_31 : decode cX12_also 31 = .ok (.bipush 6, 2) := by decide +kernel
theorem dX12_also_33 : decode cX12_also 33 = .ok (.iaload, 1) := by decide +kernel
theorem dX12_also_34 : decode cX12_also 34 = .ok (.iload_n 2, 1) := by decide +kernel
theorem dX12_also_35 : decode cX12_also 35 = .ok (.if_icmp .ne 14, 3) := by decide +kernel
theorem dX12_also_38 : decode cX12_also 38 = .ok (.aload_n 0, 1) := by decide +kernel
theorem dX12_also_39 : decode cX12_also 39 = .ok (.getfield 7, 3) := by decide +kernel
theorem dX12_also_42 : decode cX12_also 42 = .ok (.iconst 5, 1) := by decide +kernel
theorem dX12_also_43 : decode cX12_also 43 = .ok (.iaload, 1) := by decide +kernel
theorem dX12_also_44 : decode cX12_also 44 = .ok (.iload_n 1, 1) := by decide +kernel
theorem dX12_also_45 : decode cX12_also 45 = .ok (.if_icmp .gt 4, 3) := by decide +kernel
theorem dX12_also_48 : decode cX12_also 48 = .ok (.return_, 1) := by decide +kernel
theorem dX12_also_49 : decode cX12_also 49 = .ok (.aload_n 0, 1) := by decide +kernel
theorem dX12_also_50 : decode cX12_also 50 = .ok (.getfield 7, 3) := by decide +kernel
theorem dX12_also_53 : decode cX12_also 53 = .ok (.iconst 5, 1) := by decide +kernel
theorem dX12_also_54 : decode cX12_also 54 = .ok (.iload_n 1, 1) := by decide +kernel
theorem dX12_also_55 : decode cX12_also 55 = .ok (.iastore, 1) := by decide +kernel
theorem dX12_also_56 : decode cX12_also 56 = .ok (.aload_n 0, 1) := by decide +kernel
theorem dX12_also_57 : decode cX12_also 57 = .ok (.getfield 7, 3) := by decide +kernel
theorem dX12_also_60 : decode cX12_also 60 = .ok (.bipush 6, 2) := by decide +kernel
theorem dX12_also_62 : decode cX12_also 62 = .ok (.iload_n 2, 1) := by decide +kernel
theorem dX12_also_63 : decode cX12_also 63 = .ok (.iastore, 1) := by decide +kernel
theorem dX12_also_64 : decode cX12_also 64 = .ok (.return_, 1) := by decide +kernel
theorem dX12_numbered_0 : decode cX12_numbered 0 = .ok (.aload_n 0, 1) := by decide +kernel
theorem dX12_numbered_1 : decode cX12_numbered 1 = .ok (.getfield 138, 3) := by decide +kernel
theorem dX12_numbered_4 : decode cX12_numbered 4 = .ok (.ifCond .ne 11, 3) := by decide +kernel
theorem dX12_numbered_7 : decode cX12_numbered 7 = .ok (.aload_n 0, 1) := by decide +kernel
theorem dX12_numbered_8 : decode cX12_numbered 8 = .ok (.getfield 115, 3) := by decide +kernel
theorem dX12_numbered_11 : decode cX12_numbered 11 = .ok (.iconst 1, 1) := by decide +kernel
theorem dX12_numbered_12 : decode cX12_numbered 12 = .ok (.if_icmp .eq 9, 3) := by decide +kernel
theorem dX12_numbered_15 : decode cX12_numbered 15 = .ok (.aload_n 0, 1) := by decide +kernel
theorem dX12_numbered_16 : decode cX12_numbered 16 = .ok (.invokevirtual 142, 3) := by decide +kernel
theorem dX12_numbered_19 : decode cX12_numbered 19 = .ok (.iload_n 1, 1) := by decide +kernel
theorem dX12_numbered_20 : decode cX12_numbered 20 = .ok (.ireturn, 1) := by decide +kernel
theorem dX12_numbered_21 : decode cX12_numbered 21 = .ok (.aload_n 0, 1) := by decide +kernel
theorem dX12_numbered_22 : decode cX12_numbered 22 = .ok (.getfield 135, 3) := by decide +kernel
theorem dX12_numbered_25 : decode cX12_numbered 25 = .ok (.istore_n 3, 1) := by decide +kernel
theorem dX12_numbered_26 : decode cX12_numbered 26 = .ok (.iload_n 3, 1) := by decide +kernel
theorem dX12_numbered_27 : decode cX12_numbered 27 = .ok (.iload_n 1, 1) := by decide +kernel
theorem dX12_numbered_28 : decode cX12_numbered 28 = .ok (.iload_n 2, 1) := by decide +kernel
theorem dX12_numbered_29 : decode cX12_numbered 29 = .ok (.invokestatic 145, 3) := by decide +kernel
theorem dX12_numbered_32 : decode cX12_numbered 32 = .ok (.ifCond .ne 12, 3) := by decide +kernel
theorem dX12_numbered_35 : decode cX12_numbered 35 = .ok (.aload_n 0, 1) := by decide +kernel
theorem dX12_numbered_36 : decode cX12_numbered 36 = .ok (.iconst 2, 1) := by decide +kernel
theorem dX12_numbered_37 : decode cX12_numbered 37 = .ok (.aload_n 0, 1) := by decide +kernel
theorem dX12_numbered_38 : decode cX12_numbered 38 = .ok (.getfield 112, 3) := by decide +kernel
theorem dX12_numbered_41 : decode cX12_numbered 41 = .ok (.invokevirtual 149, 3) := by decide +kernel
theorem dX12_numbered_44 : decode cX12_numbered 44 = .ok (.aload_n 0, 1) := by decide +kernel
theorem dX12_numbered_45 : decode cX12_numbered 45 = .ok (.invokevirtual 153, 3) := by decide +kernel
theorem dX12_numbered_48 : decode cX12_numbered 48 = .ok (.iload_n 3, 1) := by decide +kernel
theorem dX12_numbered_49 : decode cX12_numbered 49 = .ok (.iload_n 1, 1) := by decide +kernel
theorem dX12_numbered_50 : decode cX12_numbered 50 = .ok (.iload_n 2, 1) := by decide +kernel
theorem dX12_numbered_51 : decode cX12_numbered 51 = .ok (.invokestatic 145, 3) := by decide +kernel
theorem dX12_numbered_54 : decode cX12_numbered 54 = .ok (.ifCond .eq 7, 3) := by decide +kernel
theorem dX12_numbered_57 : decode cX12_numbered 57 = .ok (.iload_n 3, 1) := by decide +kernel
theorem dX12_numbered_58 : decode cX12_numbered 58 = .ok (.goto 4, 3) := by decide +kernel
theorem dX12_numbered_61 : decode cX12_numbered 61 = .ok (.iload_n 1, 1) := by decide +kernel
theorem dX12_numbered_62 : decode cX12_numbered 62 = .ok (.ireturn, 1) := by decide +kernel
theorem dX12_takes_0 : decode cX12_takes 0 = .ok (.aload_n 0, 1) := by decide +kernel
theorem dX12_takes_1 : decode cX12_takes 1 = .ok (.getfield 138, 3) := by decide +kernel
theorem dX12_takes_4 : decode cX12_takes 4 = .ok (.ifCond .ne 23, 3) := by decide +kernel
theorem dX12_takes_7 : decode cX12_takes 7 = .ok (.aload_n 0, 1) := by decide +kernel
theorem dX12_takes_8 : decode cX12_takes 8 = .ok (.getfield 115, 3) := by decide +kernel
theorem dX12_takes_11 : decode cX12_takes 11 = .ok (.iconst 3, 1) := by decide +kernel
theorem dX12_takes_12 : decode cX12_takes 12 = .ok (.if_icmp .ne 15, 3) := by decide +kernel
theorem dX12_takes_15 : decode cX12_takes 15 = .ok (.aload_n 0, 1) := by decide +kernel
theorem dX12_takes_16 : decode cX12_takes 16 = .ok (.getfield 129, 3) := by decide +kernel
theorem dX12_takes_19 : decode cX12_takes 19 = .ok (.iload_n 1, 1) := by decide +kernel
theorem dX12_takes_20 : decode cX12_takes 20 = .ok (.iload_n 2, 1) := by decide +kernel
theorem dX12_takes_21 : decode cX12_takes 21 = .ok (.invokestatic 145, 3) := by decide +kernel
theorem dX12_takes_24 : decode cX12_takes 24 = .ok (.ifCond .ne 9, 3) := by decide +kernel
theorem dX12_takes_27 : decode cX12_takes 27 = .ok (.aload_n 0, 1) := by decide +kernel
theorem dX12_takes_28 : decode cX12_takes 28 = .ok (.invokevirtual 142, 3) := by decide +kernel
theorem dX12_takes_31 : decode cX12_takes 31 = .ok (.iconst 0, 1) := by decide +kernel
theorem dX12_takes_32 : decode cX12_takes 32 = .ok (.ireturn, 1) := by decide +kernel
theorem dX12_takes_33 : decode cX12_takes 33 = .ok (.aload_n 0, 1) := by decide +kernel
theorem dX12_takes_34 : decode cX12_takes 34 = .ok (.getfield 129, 3) := by decide +kernel
theorem dX12_takes_37 : decode cX12_takes 37 = .ok (.istore_n 3, 1) := by decide +kernel
theorem dX12_takes_38 : decode cX12_takes 38 = .ok (.aload_n 0, 1) := by decide +kernel
theorem dX12_takes_39 : decode cX12_takes 39 = .ok (.invokevirtual 153, 3) := by decide +kernel
theorem dX12_takes_42 : decode cX12_takes 42 = .ok (.iload_n 3, 1) := by decide +kernel
theorem dX12_takes_43 : decode cX12_takes 43 = .ok (.ireturn, 1) := by decide +kernel
theorem dX12_endsLine_0 : decode cX12_endsLine 0 = .ok (.aload_n 0, 1) := by decide +kernel
theorem dX12_endsLine_1 : decode cX12_endsLine 1 = .ok (.getfield 138, 3) := by decide +kernel
theorem dX12_endsLine_4 : decode cX12_endsLine 4 = .ok (.ifCond .ne 18, 3) := by decide +kernel
theorem dX12_endsLine_7 : decode cX12_endsLine 7 = .ok (.aload_n 0, 1) := by decide +kernel
theorem dX12_endsLine_8 : decode cX12_endsLine 8 = .ok (.getfield 115, 3) := by decide +kernel
theorem dX12_endsLine_11 : decode cX12_endsLine 11 = .ok (.iconst 2, 1) := by decide +kernel
theorem dX12_endsLine_12 : decode cX12_endsLine 12 = .ok (.if_icmp .ne 10, 3) := by decide +kernel
theorem dX12_endsLine_15 : decode cX12_endsLine 15 = .ok (.aload_n 0, 1) := by decide +kernel
theorem dX12_endsLine_16 : decode cX12_endsLine 16 = .ok (.invokevirtual 153, 3) := by decide +kernel
theorem dX12_endsLine_19 : decode cX12_endsLine 19 = .ok (.goto 7, 3) := by decide +kernel
theorem dX12_endsLine_22 : decode cX12_endsLine 22 = .ok (.aload_n 0, 1) := by decide +kernel
theorem dX12_endsLine_23 : decode cX12_endsLine 23 = .ok (.invokevirtual 142, 3) := by decide +kernel
theorem dX12_endsLine_26 : decode cX12_endsLine 26 = .ok (.return_, 1) := by decide +kernel
theorem dX12_beatTold_0 : decode cX12_beatTold 0 = .ok (.aload_n 0, 1) := by decide +kernel
theorem dX12_beatTold_1 : decode cX12_beatTold 1 = .ok (.bipush 10, 2) := by decide +kernel
theorem dX12_beatTold_3 : decode cX12_beatTold 3 = .ok (.bipush 13, 2) := by decide +kernel
theorem dX12_beatTold_5 : decode cX12_beatTold 5 = .ok (.invokevirtual 156, 3) := by decide +kernel
theorem dX12_beatTold_8 : decode cX12_beatTold 8 = .ok (.bipush 10, 2) := by decide +kernel
theorem dX12_beatTold_10 : decode cX12_beatTold 10 = .ok (.isub, 1) := by decide +kernel
theorem dX12_beatTold_11 : decode cX12_beatTold 11 = .ok (.ireturn, 1) := by decide +kernel
theorem dX12_isBeat_0 : decode cX12_isBeat 0 = .ok (.aload_n 0, 1) := by decide +kernel
theorem dX12_isBeat_1 : decode cX12_isBeat 1 = .ok (.getfield 138, 3) := by decide +kernel
theorem dX12_isBeat_4 : decode cX12_isBeat 4 = .ok (.ifCond .ne 29, 3) := by decide +kernel
theorem dX12_isBeat_7 : decode cX12_isBeat 7 = .ok (.aload_n 0, 1) := by decide +kernel
theorem dX12_isBeat_8 : decode cX12_isBeat 8 = .ok (.getfield 115, 3) := by decide +kernel
theorem dX12_isBeat_11 : decode cX12_isBeat 11 = .ok (.iconst 3, 1) := by decide +kernel
theorem dX12_isBeat_12 : decode cX12_isBeat 12 = .ok (.if_icmp .ne 21, 3) := by decide +kernel
theorem dX12_isBeat_15 : decode cX12_isBeat 15 = .ok (.aload_n 0, 1) := by decide +kernel
theorem dX12_isBeat_16 : decode cX12_isBeat 16 = .ok (.getfield 129, 3) := by decide +kernel
theorem dX12_isBeat_19 : decode cX12_isBeat 19 = .ok (.bipush 10, 2) := by decide +kernel
theorem dX12_isBeat_21 : decode cX12_isBeat 21 = .ok (.bipush 13, 2) := by decide +kernel
theorem dX12_isBeat_23 : decode cX12_isBeat 23 = .ok (.invokestatic 145, 3) := by decide +kernel
theorem dX12_isBeat_26 : decode cX12_isBeat 26 = .ok (.ifCond .eq 7, 3) := by decide +kernel
theorem dX12_isBeat_29 : decode cX12_isBeat 29 = .ok (.iconst 1, 1) := by decide +kernel
theorem dX12_isBeat_30 : decode cX12_isBeat 30 = .ok (.goto 4, 3) := by decide +kernel
theorem dX12_isBeat_33 : decode cX12_isBeat 33 = .ok (.iconst 0, 1) := by decide +kernel
theorem dX12_isBeat_34 : decode cX12_isBeat 34 = .ok (.ireturn, 1) := by decide +kernel
theorem dX12_isMove_0 : decode cX12_isMove 0 = .ok (.aload_n 0, 1) := by decide +kernel
theorem dX12_isMove_1 : decode cX12_isMove 1 = .ok (.getfield 138, 3) := by decide +kernel
theorem dX12_isMove_4 : decode cX12_isMove 4 = .ok (.ifCond .ne 29, 3) := by decide +kernel
theorem dX12_isMove_7 : decode cX12_isMove 7 = .ok (.aload_n 0, 1) := by decide +kernel
theorem dX12_isMove_8 : decode cX12_isMove 8 = .ok (.getfield 115, 3) := by decide +kernel
theorem dX12_isMove_11 : decode cX12_isMove 11 = .ok (.iconst 3, 1) := by decide +kernel
theorem dX12_isMove_12 : decode cX12_isMove 12 = .ok (.if_icmp .ne 21, 3) := by decide +kernel
theorem dX12_isMove_15 : decode cX12_isMove 15 = .ok (.aload_n 0, 1) := by decide +kernel
theorem dX12_isMove_16 : decode cX12_isMove 16 = .ok (.getfield 129, 3) := by decide +kernel
theorem dX12_isMove_19 : decode cX12_isMove 19 = .ok (.bipush 14, 2) := by decide +kernel
theorem dX12_isMove_21 : decode cX12_isMove 21 = .ok (.bipush 18, 2) := by decide +kernel
theorem dX12_isMove_23 : decode cX12_isMove 23 = .ok (.invokestatic 145, 3) := by decide +kernel
theorem dX12_isMove_26 : decode cX12_isMove 26 = .ok (.ifCond .eq 7, 3) := by decide +kernel
theorem dX12_isMove_29 : decode cX12_isMove 29 = .ok (.iconst 1, 1) := by decide +kernel
theorem dX12_isMove_30 : decode cX12_isMove 30 = .ok (.goto 4, 3) := by decide +kernel
theorem dX12_isMove_33 : decode cX12_isMove 33 = .ok (.iconst 0, 1) := by decide +kernel
theorem dX12_isMove_34 : decode cX12_isMove 34 = .ok (.ireturn, 1) := by decide +kernel
theorem dX12_armyTold_0 : decode cX12_armyTold 0 = .ok (.aload_n 0, 1) := by decide +kernel
theorem dX12_armyTold_1 : decode cX12_armyTold 1 = .ok (.iconst 0, 1) := by decide +kernel
theorem dX12_armyTold_2 : decode cX12_armyTold 2 = .ok (.iconst 1, 1) := by decide +kernel
theorem dX12_armyTold_3 : decode cX12_armyTold 3 = .ok (.invokevirtual 160, 3) := by decide +kernel
theorem dX12_armyTold_6 : decode cX12_armyTold 6 = .ok (.ireturn, 1) := by decide +kernel
theorem dX12_orderLine_0 : decode cX12_orderLine 0 = .ok (.aload_n 0, 1) := by decide +kernel
theorem dX12_orderLine_1 : decode cX12_orderLine 1 = .ok (.getfield 112, 3) := by decide +kernel
theorem dX12_orderLine_4 : decode cX12_orderLine 4 = .ok (.istore_n 1, 1) := by decide +kernel
theorem dX12_orderLine_5 : decode cX12_orderLine 5 = .ok (.aload_n 0, 1) := by decide +kernel
theorem dX12_orderLine_6 : decode cX12_orderLine 6 = .ok (.bipush 9, 2) := by decide +kernel
theorem dX12_orderLine_8 : decode cX12_orderLine 8 = .ok (.bipush 9, 2) := by decide +kernel
theorem dX12_orderLine_10 : decode cX12_orderLine 10 = .ok (.invokevirtual 156, 3) := by decide +kernel
theorem dX12_orderLine_13 : decode cX12_orderLine 13 = .ok (.pop, 1) := by decide +kernel
theorem dX12_orderLine_14 : decode cX12_orderLine 14 = .ok (.aload_n 0, 1) := by decide +kernel
theorem dX12_orderLine_15 : decode cX12_orderLine 15 = .ok (.getfield 138, 3) := by decide +kernel
theorem dX12_orderLine_18 : decode cX12_orderLine 18 = .ok (.ifCond .ne 27, 3) := by decide +kernel
theorem dX12_orderLine_21 : decode cX12_orderLine 21 = .ok (.aload_n 0, 1) := by decide +kernel
theorem dX12_orderLine_22 : decode cX12_orderLine 22 = .ok (.getfield 115, 3) := by decide +kernel
theorem dX12_orderLine_25 : decode cX12_orderLine 25 = .ok (.iconst 1, 1) := by decide +kernel
theorem dX12_orderLine_26 : decode cX12_orderLine 26 = .ok (.if_icmp .ne 19, 3) := by decide +kernel
theorem dX12_orderLine_29 : decode cX12_orderLine 29 = .ok (.aload_n 0, 1) := by decide +kernel
theorem dX12_orderLine_30 : decode cX12_orderLine 30 = .ok (.getfield 135, 3) := by decide +kernel
theorem dX12_orderLine_33 : decode cX12_orderLine 33 = .ok (.iconst 0, 1) := by decide +kernel
theorem dX12_orderLine_34 : decode cX12_orderLine 34 = .ok (.iconst 1, 1) := by decide +kernel
theorem dX12_orderLine_35 : decode cX12_orderLine 35 = .ok (.invokestatic 145, 3) := by decide +kernel
theorem dX12_orderLine_38 : decode cX12_orderLine 38 = .ok (.ifCond .eq 7, 3) := by decide +kernel
theorem dX12_orderLine_41 : decode cX12_orderLine 41 = .ok (.iconst 1, 1) := by decide +kernel
theorem dX12_orderLine_42 : decode cX12_orderLine 42 = .ok (.goto 4, 3) := by decide +kernel
theorem dX12_orderLine_45 : decode cX12_orderLine 45 = .ok (.iconst 0, 1) := by decide +kernel
theorem dX12_orderLine_46 : decode cX12_orderLine 46 = .ok (.istore_n 2, 1) := by decide +kernel
theorem dX12_orderLine_47 : decode cX12_orderLine 47 = .ok (.aload_n 0, 1) := by decide +kernel
theorem dX12_orderLine_48 : decode cX12_orderLine 48 = .ok (.invokevirtual 163, 3) := by decide +kernel
theorem dX12_orderLine_51 : decode cX12_orderLine 51 = .ok (.istore_n 3, 1) := by decide +kernel
theorem dX12_orderLine_52 : decode cX12_orderLine 52 = .ok (.iload_n 2, 1) := by decide +kernel
theorem dX12_orderLine_53 : decode cX12_orderLine 53 = .ok (.ifCond .eq 21, 3) := by decide +kernel
theorem dX12_orderLine_56 : decode cX12_orderLine 56 = .ok (.aload_n 0, 1) := by decide +kernel
theorem dX12_orderLine_57 : decode cX12_orderLine 57 = .ok (.getfield 17, 3) := by decide +kernel
theorem dX12_orderLine_60 : decode cX12_orderLine 60 = .ok (.bipush 15, 2) := by decide +kernel
theorem dX12_orderLine_62 : decode cX12_orderLine 62 = .ok (.iload_n 3, 1) := by decide +kernel
theorem dX12_orderLine_63 : decode cX12_orderLine 63 = .ok (.iadd, 1) := by decide +kernel
theorem dX12_orderLine_64 : decode cX12_orderLine 64 = .ok (.iaload, 1) := by decide +kernel
theorem dX12_orderLine_65 : decode cX12_orderLine 65 = .ok (.bipush 6, 2) := by decide +kernel
theorem dX12_orderLine_67 : decode cX12_orderLine 67 = .ok (.if_icmp .ge 7, 3) := by decide +kernel
theorem dX12_orderLine_70 : decode cX12_orderLine 70 = .ok (.iconst 1, 1) := by decide +kernel
theorem dX12_orderLine_71 : decode cX12_orderLine 71 = .ok (.goto 4, 3) := by decide +kernel
theorem dX12_orderLine_74 : decode cX12_orderLine 74 = .ok (.iconst 0, 1) := by decide +kernel
theorem dX12_orderLine_75 : decode cX12_orderLine 75 = .ok (.istore 4, 2) := by decide +kernel
theorem dX12_orderLine_77 : decode cX12_orderLine 77 = .ok (.aload_n 0, 1) := by decide +kernel
theorem dX12_orderLine_78 : decode cX12_orderLine 78 = .ok (.getfield 138, 3) := by decide +kernel
theorem dX12_orderLine_81 : decode cX12_orderLine 81 = .ok (.ifCond .ne 18, 3) := by decide +kernel
theorem dX12_orderLine_84 : decode cX12_orderLine 84 = .ok (.iload_n 2, 1) := by decide +kernel
theorem dX12_orderLine_85 : decode cX12_orderLine 85 = .ok (.ifCond .eq 14, 3) := by decide +kernel
theorem dX12_orderLine_88 : decode cX12_orderLine 88 = .ok (.iload 4, 2) := by decide +kernel
theorem dX12_orderLine_90 : decode cX12_orderLine 90 = .ok (.ifCond .ne 9, 3) := by decide +kernel
theorem dX12_orderLine_93 : decode cX12_orderLine 93 = .ok (.aload_n 0, 1) := by decide +kernel
theorem dX12_orderLine_94 : decode cX12_orderLine 94 = .ok (.iconst 3, 1) := by decide +kernel
theorem dX12_orderLine_95 : decode cX12_orderLine 95 = .ok (.iload_n 1, 1) := by decide +kernel
theorem dX12_orderLine_96 : decode cX12_orderLine 96 = .ok (.invokevirtual 149, 3) := by decide +kernel
theorem dX12_orderLine_99 : decode cX12_orderLine 99 = .ok (.bipush 17, 2) := by decide +kernel
theorem dX12_orderLine_101 : decode cX12_orderLine 101 = .ok (.bipush 36, 2) := by decide +kernel
theorem dX12_orderLine_103 : decode cX12_orderLine 103 = .ok (.iload_n 3, 1) := by decide +kernel
theorem dX12_orderLine_104 : decode cX12_orderLine 104 = .ok (.imul, 1) := by decide +kernel
theorem dX12_orderLine_105 : decode cX12_orderLine 105 = .ok (.iadd, 1) := by decide +kernel
theorem dX12_orderLine_106 : decode cX12_orderLine 106 = .ok (.bipush 6, 2) := by decide +kernel
theorem dX12_orderLine_108 : decode cX12_orderLine 108 = .ok (.iload 4, 2) := by decide +kernel
theorem dX12_orderLine_110 : decode cX12_orderLine 110 = .ok (.ifCond .eq 15, 3) := by decide +kernel
theorem dX12_orderLine_113 : decode cX12_orderLine 113 = .ok (.aload_n 0, 1) := by decide +kernel
theorem dX12_orderLine_114 : decode cX12_orderLine 114 = .ok (.getfield 17, 3) := by decide +kernel
theorem dX12_orderLine_117 : decode cX12_orderLine 117 = .ok (.bipush 15, 2) := by decide +kernel
theorem dX12_orderLine_119 : decode cX12_orderLine 119 = .ok (.iload_n 3, 1) := by decide +kernel
theorem dX12_orderLine_120 : decode cX12_orderLine 120 = .ok (.iadd, 1) := by decide +kernel
theorem dX12_orderLine_121 : decode cX12_orderLine 121 = .ok (.iaload, 1) := by decide +kernel
theorem dX12_orderLine_122 : decode cX12_orderLine 122 = .ok (.goto 4, 3) := by decide +kernel
theorem dX12_orderLine_125 : decode cX12_orderLine 125 = .ok (.iconst 0, 1) := by decide +kernel
theorem dX12_orderLine_126 : decode cX12_orderLine 126 = .ok (.imul, 1) := by decide +kernel
theorem dX12_orderLine_127 : decode cX12_orderLine 127 = .ok (.iadd, 1) := by decide +kernel
theorem dX12_orderLine_128 : decode cX12_orderLine 128 = .ok (.istore 5, 2) := by decide +kernel
theorem dX12_orderLine_130 : decode cX12_orderLine 130 = .ok (.aload_n 0, 1) := by decide +kernel
theorem dX12_orderLine_131 : decode cX12_orderLine 131 = .ok (.bipush 14, 2) := by decide +kernel
theorem dX12_orderLine_133 : decode cX12_orderLine 133 = .ok (.bipush 18, 2) := by decide +kernel
theorem dX12_orderLine_135 : decode cX12_orderLine 135 = .ok (.invokevirtual 156, 3) := by decide +kernel
theorem dX12_orderLine_138 : decode cX12_orderLine 138 = .ok (.bipush 14, 2) := by decide +kernel
theorem dX12_orderLine_140 : decode cX12_orderLine 140 = .ok (.isub, 1) := by decide +kernel
theorem dX12_orderLine_141 : decode cX12_orderLine 141 = .ok (.istore 6, 2) := by decide +kernel
theorem dX12_orderLine_143 : decode cX12_orderLine 143 = .ok (.aload_n 0, 1) := by decide +kernel
theorem dX12_orderLine_144 : decode cX12_orderLine 144 = .ok (.getfield 138, 3) := by decide +kernel
theorem dX12_orderLine_147 : decode cX12_orderLine 147 = .ok (.ifCond .ne 14, 3) := by decide +kernel
theorem dX12_orderLine_150 : decode cX12_orderLine 150 = .ok (.aload_n 0, 1) := by decide +kernel
theorem dX12_orderLine_151 : decode cX12_orderLine 151 = .ok (.invokevirtual 167, 3) := by decide +kernel
theorem dX12_orderLine_154 : decode cX12_orderLine 154 = .ok (.ifCond .ne 7, 3) := by decide +kernel
theorem dX12_orderLine_157 : decode cX12_orderLine 157 = .ok (.aload_n 0, 1) := by decide +kernel
theorem dX12_orderLine_158 : decode cX12_orderLine 158 = .ok (.invokevirtual 142, 3) := by decide +kernel
theorem dX12_orderLine_161 : decode cX12_orderLine 161 = .ok (.iconst 0, 1) := by decide +kernel
theorem dX12_orderLine_162 : decode cX12_orderLine 162 = .ok (.istore 7, 2) := by decide +kernel
theorem dX12_orderLine_164 : decode cX12_orderLine 164 = .ok (.aload_n 0, 1) := by decide +kernel
theorem dX12_orderLine_165 : decode cX12_orderLine 165 = .ok (.invokevirtual 167, 3) := by decide +kernel
theorem dX12_orderLine_168 : decode cX12_orderLine 168 = .ok (.ifCond .eq 55, 3) := by decide +kernel
theorem dX12_orderLine_171 : decode cX12_orderLine 171 = .ok (.iload 7, 2) := by decide +kernel
theorem dX12_orderLine_173 : decode cX12_orderLine 173 = .ok (.iconst 4, 1) := by decide +kernel
theorem dX12_orderLine_174 : decode cX12_orderLine 174 = .ok (.if_icmp .lt 12, 3) := by decide +kernel
theorem dX12_orderLine_177 : decode cX12_orderLine 177 = .ok (.aload_n 0, 1) := by decide +kernel
theorem dX12_orderLine_178 : decode cX12_orderLine 178 = .ok (.iconst 3, 1) := by decide +kernel
theorem dX12_orderLine_179 : decode cX12_orderLine 179 = .ok (.aload_n 0, 1) := by decide +kernel
theorem dX12_orderLine_180 : decode cX12_orderLine 180 = .ok (.getfield 112, 3) := by decide +kernel
theorem dX12_orderLine_183 : decode cX12_orderLine 183 = .ok (.invokevirtual 149, 3) := by decide +kernel
theorem dX12_orderLine_186 : decode cX12_orderLine 186 = .ok (.aload_n 0, 1) := by decide +kernel
theorem dX12_orderLine_187 : decode cX12_orderLine 187 = .ok (.invokevirtual 171, 3) := by decide +kernel
theorem dX12_orderLine_190 : decode cX12_orderLine 190 = .ok (.istore 8, 2) := by decide +kernel
theorem dX12_orderLine_192 : decode cX12_orderLine 192 = .ok (.iload 7, 2) := by decide +kernel
theorem dX12_orderLine_194 : decode cX12_orderLine 194 = .ok (.iconst 4, 1) := by decide +kernel
theorem dX12_orderLine_195 : decode cX12_orderLine 195 = .ok (.if_icmp .ge 22, 3) := by decide +kernel
theorem dX12_orderLine_198 : decode cX12_orderLine 198 = .ok (.iload 4, 2) := by decide +kernel
theorem dX12_orderLine_200 : decode cX12_orderLine 200 = .ok (.ifCond .eq 17, 3) := by decide +kernel
theorem dX12_orderLine_203 : decode cX12_orderLine 203 = .ok (.aload_n 0, 1) := by decide +kernel
theorem dX12_orderLine_204 : decode cX12_orderLine 204 = .ok (.getfield 17, 3) := by decide +kernel
theorem dX12_orderLine_207 : decode cX12_orderLine 207 = .ok (.iload 5, 2) := by decide +kernel
theorem dX12_orderLine_209 : decode cX12_orderLine 209 = .ok (.iconst 2, 1) := by decide +kernel
theorem dX12_orderLine_210 : decode cX12_orderLine 210 = .ok (.iadd, 1) := by decide +kernel
theorem dX12_orderLine_211 : decode cX12_orderLine 211 = .ok (.iload 7, 2) := by decide +kernel
theorem dX12_orderLine_213 : decode cX12_orderLine 213 = .ok (.iadd, 1) := by decide +kernel
theorem dX12_orderLine_214 : decode cX12_orderLine 214 = .ok (.iload 8, 2) := by decide +kernel
theorem dX12_orderLine_216 : decode cX12_orderLine 216 = .ok (.iastore, 1) := by decide +kernel
theorem dX12_orderLine_217 : decode cX12_orderLine 217 = .ok (.iinc 7 1, 3) := by decide +kernel
theorem dX12_orderLine_220 : decode cX12_orderLine 220 = .ok (.goto (-56), 3) := by decide +kernel
theorem dX12_orderLine_223 : decode cX12_orderLine 223 = .ok (.iload 4, 2) := by decide +kernel
theorem dX12_orderLine_225 : decode cX12_orderLine 225 = .ok (.ifCond .ne 4, 3) := by decide +kernel
theorem dX12_orderLine_228 : decode cX12_orderLine 228 = .ok (.return_, 1) := by decide +kernel
theorem dX12_orderLine_229 : decode cX12_orderLine 229 = .ok (.aload_n 0, 1) := by decide +kernel
theorem dX12_orderLine_230 : decode cX12_orderLine 230 = .ok (.getfield 17, 3) := by decide +kernel
theorem dX12_orderLine_233 : decode cX12_orderLine 233 = .ok (.iload 5, 2) := by decide +kernel
theorem dX12_orderLine_235 : decode cX12_orderLine 235 = .ok (.iload 6, 2) := by decide +kernel
theorem dX12_orderLine_237 : decode cX12_orderLine 237 = .ok (.iastore, 1) := by decide +kernel
theorem dX12_orderLine_238 : decode cX12_orderLine 238 = .ok (.aload_n 0, 1) := by decide +kernel
theorem dX12_orderLine_239 : decode cX12_orderLine 239 = .ok (.getfield 17, 3) := by decide +kernel
theorem dX12_orderLine_242 : decode cX12_orderLine 242 = .ok (.iload 5, 2) := by decide +kernel
theorem dX12_orderLine_244 : decode cX12_orderLine 244 = .ok (.iconst 1, 1) := by decide +kernel
theorem dX12_orderLine_245 : decode cX12_orderLine 245 = .ok (.iadd, 1) := by decide +kernel
theorem dX12_orderLine_246 : decode cX12_orderLine 246 = .ok (.iload 7, 2) := by decide +kernel
theorem dX12_orderLine_248 : decode cX12_orderLine 248 = .ok (.iconst 4, 1) := by decide +kernel
theorem dX12_orderLine_249 : decode cX12_orderLine 249 = .ok (.if_icmp .ge 8, 3) := by decide +kernel
theorem dX12_orderLine_252 : decode cX12_orderLine 252 = .ok (.iload 7, 2) := by decide +kernel
theorem dX12_orderLine_254 : decode cX12_orderLine 254 = .ok (.goto 4, 3) := by decide +kernel
theorem dX12_orderLine_257 : decode cX12_orderLine 257 = .ok (.iconst 4, 1) := by decide +kernel
theorem dX12_orderLine_258 : decode cX12_orderLine 258 = .ok (.iastore, 1) := by decide +kernel
theorem dX12_orderLine_259 : decode cX12_orderLine 259 = .ok (.aload_n 0, 1) := by decide +kernel
theorem dX12_orderLine_260 : decode cX12_orderLine 260 = .ok (.getfield 17, 3) := by decide +kernel
theorem dX12_orderLine_263 : decode cX12_orderLine 263 = .ok (.bipush 15, 2) := by decide +kernel
theorem dX12_orderLine_265 : decode cX12_orderLine 265 = .ok (.iload_n 3, 1) := by decide +kernel
theorem dX12_orderLine_266 : decode cX12_orderLine 266 = .ok (.iadd, 1) := by decide +kernel
theorem dX12_orderLine_267 : decode cX12_orderLine 267 = .ok (.dup2, 1) := by decide +kernel
theorem dX12_orderLine_268 : decode cX12_orderLine 268 = .ok (.iaload, 1) := by decide +kernel
theorem dX12_orderLine_269 : decode cX12_orderLine 269 = .ok (.iconst 1, 1) := by decide +kernel
theorem dX12_orderLine_270 : decode cX12_orderLine 270 = .ok (.iadd, 1) := by decide +kernel
theorem dX12_orderLine_271 : decode cX12_orderLine 271 = .ok (.iastore, 1) := by decide +kernel
theorem dX12_orderLine_272 : decode cX12_orderLine 272 = .ok (.return_, 1) := by decide +kernel
theorem dX12_warLine_0 : decode cX12_warLine 0 = .ok (.aload_n 0, 1) := by decide +kernel
theorem dX12_warLine_1 : decode cX12_warLine 1 = .ok (.getfield 138, 3) := by decide +kernel
theorem dX12_warLine_4 : decode cX12_warLine 4 = .ok (.ifCond .ne 29, 3) := by decide +kernel
theorem dX12_warLine_7 : decode cX12_warLine 7 = .ok (.aload_n 0, 1) := by decide +kernel
theorem dX12_warLine_8 : decode cX12_warLine 8 = .ok (.getfield 115, 3) := by decide +kernel
theorem dX12_warLine_11 : decode cX12_warLine 11 = .ok (.iconst 3, 1) := by decide +kernel
theorem dX12_warLine_12 : decode cX12_warLine 12 = .ok (.if_icmp .ne 21, 3) := by decide +kernel
theorem dX12_warLine_15 : decode cX12_warLine 15 = .ok (.aload_n 0, 1) := by decide +kernel
theorem dX12_warLine_16 : decode cX12_warLine 16 = .ok (.getfield 129, 3) := by decide +kernel
theorem dX12_warLine_19 : decode cX12_warLine 19 = .ok (.bipush 9, 2) := by decide +kernel
theorem dX12_warLine_21 : decode cX12_warLine 21 = .ok (.if_icmp .ne 12, 3) := by decide +kernel
theorem dX12_warLine_24 : decode cX12_warLine 24 = .ok (.aload_n 0, 1) := by decide +kernel
theorem dX12_warLine_25 : decode cX12_warLine 25 = .ok (.invokevirtual 174, 3) := by decide +kernel
theorem dX12_warLine_28 : decode cX12_warLine 28 = .ok (.aload_n 0, 1) := by decide +kernel
theorem dX12_warLine_29 : decode cX12_warLine 29 = .ok (.invokevirtual 177, 3) := by decide +kernel
theorem dX12_warLine_32 : decode cX12_warLine 32 = .ok (.return_, 1) := by decide +kernel
theorem dX12_warLine_33 : decode cX12_warLine 33 = .ok (.aload_n 0, 1) := by decide +kernel
theorem dX12_warLine_34 : decode cX12_warLine 34 = .ok (.iconst 1, 1) := by decide +kernel
theorem dX12_warLine_35 : decode cX12_warLine 35 = .ok (.bipush 8, 2) := by decide +kernel
theorem dX12_warLine_37 : decode cX12_warLine 37 = .ok (.invokevirtual 156, 3) := by decide +kernel
theorem dX12_warLine_40 : decode cX12_warLine 40 = .ok (.istore_n 1, 1) := by decide +kernel
theorem dX12_warLine_41 : decode cX12_warLine 41 = .ok (.iload_n 1, 1) := by decide +kernel
theorem dX12_warLine_42 : decode cX12_warLine 42 = .ok (.tableswitch 215 1 8 #[46, 61, 77, 93, 122, 145, 168, 191], 46) := by decide +kernel
theorem dX12_warLine_88 : decode cX12_warLine 88 = .ok (.aload_n 0, 1) := by decide +kernel
theorem dX12_warLine_89 : decode cX12_warLine 89 = .ok (.getfield 17, 3) := by decide +kernel
theorem dX12_warLine_92 : decode cX12_warLine 92 = .ok (.iconst 0, 1) := by decide +kernel
theorem dX12_warLine_93 : decode cX12_warLine 93 = .ok (.aload_n 0, 1) := by decide +kernel
theorem dX12_warLine_94 : decode cX12_warLine 94 = .ok (.iconst 1, 1) := by decide +kernel
theorem dX12_warLine_95 : decode cX12_warLine 95 = .ok (.iconst 4, 1) := by decide +kernel
theorem dX12_warLine_96 : decode cX12_warLine 96 = .ok (.invokevirtual 160, 3) := by decide +kernel
theorem dX12_warLine_99 : decode cX12_warLine 99 = .ok (.iastore, 1) := by decide +kernel
theorem dX12_warLine_100 : decode cX12_warLine 100 = .ok (.goto 157, 3) := by decide +kernel
theorem dX12_warLine_103 : decode cX12_warLine 103 = .ok (.aload_n 0, 1) := by decide +kernel
theorem dX12_warLine_104 : decode cX12_warLine 104 = .ok (.getfield 17, 3) := by decide +kernel
theorem dX12_warLine_107 : decode cX12_warLine 107 = .ok (.iconst 1, 1) := by decide +kernel
theorem dX12_warLine_108 : decode cX12_warLine 108 = .ok (.aload_n 0, 1) := by decide +kernel
theorem dX12_warLine_109 : decode cX12_warLine 109 = .ok (.iconst 0, 1) := by decide +kernel
theorem dX12_warLine_110 : decode cX12_warLine 110 = .ok (.bipush 9, 2) := by decide +kernel
theorem dX12_warLine_112 : decode cX12_warLine 112 = .ok (.invokevirtual 160, 3) := by decide +kernel
theorem dX12_warLine_115 : decode cX12_warLine 115 = .ok (.iastore, 1) := by decide +kernel
theorem dX12_warLine_116 : decode cX12_warLine 116 = .ok (.goto 141, 3) := by decide +kernel
theorem dX12_warLine_119 : decode cX12_warLine 119 = .ok (.aload_n 0, 1) := by decide +kernel
theorem dX12_warLine_120 : decode cX12_warLine 120 = .ok (.getfield 17, 3) := by decide +kernel
theorem dX12_warLine_123 : decode cX12_warLine 123 = .ok (.iconst 2, 1) := by decide +kernel
theorem dX12_warLine_124 : decode cX12_warLine 124 = .ok (.aload_n 0, 1) := by decide +kernel
theorem dX12_warLine_125 : decode cX12_warLine 125 = .ok (.iconst 0, 1) := by decide +kernel
theorem dX12_warLine_126 : decode cX12_warLine 126 = .ok (.bipush 9, 2) := by decide +kernel
theorem dX12_warLine_128 : decode cX12_warLine 128 = .ok (.invokevirtual 160, 3) := by decide +kernel
theorem dX12_warLine_131 : decode cX12_warLine 131 = .ok (.iastore, 1) := by decide +kernel
theorem dX12_warLine_132 : decode cX12_warLine 132 = .ok (.goto 125, 3) := by decide +kernel
theorem dX12_warLine_135 : decode cX12_warLine 135 = .ok (.aload_n 0, 1) := by decide +kernel
theorem dX12_warLine_136 : decode cX12_warLine 136 = .ok (.invokevirtual 171, 3) := by decide +kernel
theorem dX12_warLine_139 : decode cX12_warLine 139 = .ok (.istore_n 2, 1) := by decide +kernel
theorem dX12_warLine_140 : decode cX12_warLine 140 = .ok (.aload_n 0, 1) := by decide +kernel
theorem dX12_warLine_141 : decode cX12_warLine 141 = .ok (.invokevirtual 171, 3) := by decide +kernel
theorem dX12_warLine_144 : decode cX12_warLine 144 = .ok (.istore_n 3, 1) := by decide +kernel
theorem dX12_warLine_145 : decode cX12_warLine 145 = .ok (.aload_n 0, 1) := by decide +kernel
theorem dX12_warLine_146 : decode cX12_warLine 146 = .ok (.getfield 138, 3) := by decide +kernel
theorem dX12_warLine_149 : decode cX12_warLine 149 = .ok (.ifCond .ne 108, 3) := by decide +kernel
theorem dX12_warLine_152 : decode cX12_warLine 152 = .ok (.aload_n 0, 1) := by decide +kernel
theorem dX12_warLine_153 : decode cX12_warLine 153 = .ok (.getfield 17, 3) := by decide +kernel
theorem dX12_warLine_156 : decode cX12_warLine 156 = .ok (.iconst 3, 1) := by decide +kernel
theorem dX12_warLine_157 : decode cX12_warLine 157 = .ok (.iload_n 2, 1) := by decide +kernel
theorem dX12_warLine_158 : decode cX12_warLine 158 = .ok (.iadd, 1) := by decide +kernel
theorem dX12_warLine_159 : decode cX12_warLine 159 = .ok (.iload_n 3, 1) := by decide +kernel
theorem dX12_warLine_160 : decode cX12_warLine 160 = .ok (.iastore, 1) := by decide +kernel
theorem dX12_warLine_161 : decode cX12_warLine 161 = .ok (.goto 96, 3) := by decide +kernel
theorem dX12_warLine_164 : decode cX12_warLine 164 = .ok (.aload_n 0, 1) := by decide +kernel
theorem dX12_warLine_165 : decode cX12_warLine 165 = .ok (.invokevirtual 163, 3) := by decide +kernel
theorem dX12_warLine_168 : decode cX12_warLine 168 = .ok (.istore_n 2, 1) := by decide +kernel
theorem dX12_warLine_169 : decode cX12_warLine 169 = .ok (.aload_n 0, 1) := by decide +kernel
theorem dX12_warLine_170 : decode cX12_warLine 170 = .ok (.getfield 17, 3) := by decide +kernel
theorem dX12_warLine_173 : decode cX12_warLine 173 = .ok (.bipush 7, 2) := by decide +kernel
theorem dX12_warLine_175 : decode cX12_warLine 175 = .ok (.iload_n 2, 1) := by decide +kernel
theorem dX12_warLine_176 : decode cX12_warLine 176 = .ok (.iadd, 1) := by decide +kernel
theorem dX12_warLine_177 : decode cX12_warLine 177 = .ok (.aload_n 0, 1) := by decide +kernel
theorem dX12_warLine_178 : decode cX12_warLine 178 = .ok (.iconst 0, 1) := by decide +kernel
theorem dX12_warLine_179 : decode cX12_warLine 179 = .ok (.iconst 3, 1) := by decide +kernel
theorem dX12_warLine_180 : decode cX12_warLine 180 = .ok (.invokevirtual 160, 3) := by decide +kernel
theorem dX12_warLine_183 : decode cX12_warLine 183 = .ok (.iastore, 1) := by decide +kernel
theorem dX12_warLine_184 : decode cX12_warLine 184 = .ok (.goto 73, 3) := by decide +kernel
theorem dX12_warLine_187 : decode cX12_warLine 187 = .ok (.aload_n 0, 1) := by decide +kernel
theorem dX12_warLine_188 : decode cX12_warLine 188 = .ok (.invokevirtual 163, 3) := by decide +kernel
theorem dX12_warLine_191 : decode cX12_warLine 191 = .ok (.istore_n 2, 1) := by decide +kernel
theorem dX12_warLine_192 : decode cX12_warLine 192 = .ok (.aload_n 0, 1) := by decide +kernel
theorem dX12_warLine_193 : decode cX12_warLine 193 = .ok (.getfield 17, 3) := by decide +kernel
theorem dX12_warLine_196 : decode cX12_warLine 196 = .ok (.bipush 9, 2) := by decide +kernel
theorem dX12_warLine_198 : decode cX12_warLine 198 = .ok (.iload_n 2, 1) := by decide +kernel
theorem dX12_warLine_199 : decode cX12_warLine 199 = .ok (.iadd, 1) := by decide +kernel
theorem dX12_warLine_200 : decode cX12_warLine 200 = .ok (.aload_n 0, 1) := by decide +kernel
theorem dX12_warLine_201 : decode cX12_warLine 201 = .ok (.iconst 1, 1) := by decide +kernel
theorem dX12_warLine_202 : decode cX12_warLine 202 = .ok (.iconst 4, 1) := by decide +kernel
theorem dX12_warLine_203 : decode cX12_warLine 203 = .ok (.invokevirtual 160, 3) := by decide +kernel
theorem dX12_warLine_206 : decode cX12_warLine 206 = .ok (.iastore, 1) := by decide +kernel
theorem dX12_warLine_207 : decode cX12_warLine 207 = .ok (.goto 50, 3) := by decide +kernel
theorem dX12_warLine_210 : decode cX12_warLine 210 = .ok (.aload_n 0, 1) := by decide +kernel
theorem dX12_warLine_211 : decode cX12_warLine 211 = .ok (.invokevirtual 163, 3) := by decide +kernel
theorem dX12_warLine_214 : decode cX12_warLine 214 = .ok (.istore_n 2, 1) := by decide +kernel
theorem dX12_warLine_215 : decode cX12_warLine 215 = .ok (.aload_n 0, 1) := by decide +kernel
theorem dX12_warLine_216 : decode cX12_warLine 216 = .ok (.getfield 17, 3) := by decide +kernel
theorem dX12_warLine_219 : decode cX12_warLine 219 = .ok (.bipush 11, 2) := by decide +kernel
theorem dX12_warLine_221 : decode cX12_warLine 221 = .ok (.iload_n 2, 1) := by decide +kernel
theorem dX12_warLine_222 : decode cX12_warLine 222 = .ok (.iadd, 1) := by decide +kernel
theorem dX12_warLine_223 : decode cX12_warLine 223 = .ok (.aload_n 0, 1) := by decide +kernel
theorem dX12_warLine_224 : decode cX12_warLine 224 = .ok (.iconst 0, 1) := by decide +kernel
theorem dX12_warLine_225 : decode cX12_warLine 225 = .ok (.iconst 3, 1) := by decide +kernel
theorem dX12_warLine_226 : decode cX12_warLine 226 = .ok (.invokevirtual 160, 3) := by decide +kernel
theorem dX12_warLine_229 : decode cX12_warLine 229 = .ok (.iastore, 1) := by decide +kernel
theorem dX12_warLine_230 : decode cX12_warLine 230 = .ok (.goto 27, 3) := by decide +kernel
theorem dX12_warLine_233 : decode cX12_warLine 233 = .ok (.aload_n 0, 1) := by decide +kernel
theorem dX12_warLine_234 : decode cX12_warLine 234 = .ok (.invokevirtual 163, 3) := by decide +kernel
theorem dX12_warLine_237 : decode cX12_warLine 237 = .ok (.istore_n 2, 1) := by decide +kernel
theorem dX12_warLine_238 : decode cX12_warLine 238 = .ok (.aload_n 0, 1) := by decide +kernel
theorem dX12_warLine_239 : decode cX12_warLine 239 = .ok (.getfield 17, 3) := by decide +kernel
theorem dX12_warLine_242 : decode cX12_warLine 242 = .ok (.bipush 13, 2) := by decide +kernel
theorem dX12_warLine_244 : decode cX12_warLine 244 = .ok (.iload_n 2, 1) := by decide +kernel
theorem dX12_warLine_245 : decode cX12_warLine 245 = .ok (.iadd, 1) := by decide +kernel
theorem dX12_warLine_246 : decode cX12_warLine 246 = .ok (.aload_n 0, 1) := by decide +kernel
theorem dX12_warLine_247 : decode cX12_warLine 247 = .ok (.iconst 0, 1) := by decide +kernel
theorem dX12_warLine_248 : decode cX12_warLine 248 = .ok (.bipush 20, 2) := by decide +kernel
theorem dX12_warLine_250 : decode cX12_warLine 250 = .ok (.invokevirtual 160, 3) := by decide +kernel
theorem dX12_warLine_253 : decode cX12_warLine 253 = .ok (.iastore, 1) := by decide +kernel
theorem dX12_warLine_254 : decode cX12_warLine 254 = .ok (.goto 3, 3) := by decide +kernel
theorem dX12_warLine_257 : decode cX12_warLine 257 = .ok (.aload_n 0, 1) := by decide +kernel
theorem dX12_warLine_258 : decode cX12_warLine 258 = .ok (.invokevirtual 177, 3) := by decide +kernel
theorem dX12_warLine_261 : decode cX12_warLine 261 = .ok (.return_, 1) := by decide +kernel
theorem dX12_scoreLine_0 : decode cX12_scoreLine 0 = .ok (.aload_n 0, 1) := by decide +kernel
theorem dX12_scoreLine_1 : decode cX12_scoreLine 1 = .ok (.bipush 19, 2) := by decide +kernel
theorem dX12_scoreLine_3 : decode cX12_scoreLine 3 = .ok (.bipush 19, 2) := by decide +kernel
theorem dX12_scoreLine_5 : decode cX12_scoreLine 5 = .ok (.invokevirtual 156, 3) := by decide +kernel
theorem dX12_scoreLine_8 : decode cX12_scoreLine 8 = .ok (.pop, 1) := by decide +kernel
theorem dX12_scoreLine_9 : decode cX12_scoreLine 9 = .ok (.aload_n 0, 1) := by decide +kernel
theorem dX12_scoreLine_10 : decode cX12_scoreLine 10 = .ok (.iconst 0, 1) := by decide +kernel
theorem dX12_scoreLine_11 : decode cX12_scoreLine 11 = .ok (.iconst 1, 1) := by decide +kernel
theorem dX12_scoreLine_12 : decode cX12_scoreLine 12 = .ok (.invokevirtual 160, 3) := by decide +kernel
theorem dX12_scoreLine_15 : decode cX12_scoreLine 15 = .ok (.istore_n 1, 1) := by decide +kernel
theorem dX12_scoreLine_16 : decode cX12_scoreLine 16 = .ok (.aload_n 0, 1) := by decide +kernel
theorem dX12_scoreLine_17 : decode cX12_scoreLine 17 = .ok (.getfield 138, 3) := by decide +kernel
theorem dX12_scoreLine_20 : decode cX12_scoreLine 20 = .ok (.ifCond .ne 14, 3) := by decide +kernel
theorem dX12_scoreLine_23 : decode cX12_scoreLine 23 = .ok (.aload_n 0, 1) := by decide +kernel
theorem dX12_scoreLine_24 : decode cX12_scoreLine 24 = .ok (.invokevirtual 167, 3) := by decide +kernel
theorem dX12_scoreLine_27 : decode cX12_scoreLine 27 = .ok (.ifCond .ne 7, 3) := by decide +kernel
theorem dX12_scoreLine_30 : decode cX12_scoreLine 30 = .ok (.aload_n 0, 1) := by decide +kernel
theorem dX12_scoreLine_31 : decode cX12_scoreLine 31 = .ok (.invokevirtual 142, 3) := by decide +kernel
theorem dX12_scoreLine_34 : decode cX12_scoreLine 34 = .ok (.aload_n 0, 1) := by decide +kernel
theorem dX12_scoreLine_35 : decode cX12_scoreLine 35 = .ok (.invokevirtual 167, 3) := by decide +kernel
theorem dX12_scoreLine_38 : decode cX12_scoreLine 38 = .ok (.ifCond .eq 77, 3) := by decide +kernel
theorem dX12_scoreLine_41 : decode cX12_scoreLine 41 = .ok (.aload_n 0, 1) := by decide +kernel
theorem dX12_scoreLine_42 : decode cX12_scoreLine 42 = .ok (.getfield 17, 3) := by decide +kernel
theorem dX12_scoreLine_45 : decode cX12_scoreLine 45 = .ok (.iload_n 1, 1) := by decide +kernel
theorem dX12_scoreLine_46 : decode cX12_scoreLine 46 = .ok (.iaload, 1) := by decide +kernel
theorem dX12_scoreLine_47 : decode cX12_scoreLine 47 = .ok (.bipush 12, 2) := by decide +kernel
theorem dX12_scoreLine_49 : decode cX12_scoreLine 49 = .ok (.if_icmp .ge 7, 3) := by decide +kernel
theorem dX12_scoreLine_52 : decode cX12_scoreLine 52 = .ok (.iconst 1, 1) := by decide +kernel
theorem dX12_scoreLine_53 : decode cX12_scoreLine 53 = .ok (.goto 4, 3) := by decide +kernel
theorem dX12_scoreLine_56 : decode cX12_scoreLine 56 = .ok (.iconst 0, 1) := by decide +kernel
theorem dX12_scoreLine_57 : decode cX12_scoreLine 57 = .ok (.istore_n 2, 1) := by decide +kernel
theorem dX12_scoreLine_58 : decode cX12_scoreLine 58 = .ok (.iload_n 2, 1) := by decide +kernel
theorem dX12_scoreLine_59 : decode cX12_scoreLine 59 = .ok (.ifCond .ne 12, 3) := by decide +kernel
theorem dX12_scoreLine_62 : decode cX12_scoreLine 62 = .ok (.aload_n 0, 1) := by decide +kernel
theorem dX12_scoreLine_63 : decode cX12_scoreLine 63 = .ok (.iconst 3, 1) := by decide +kernel
theorem dX12_scoreLine_64 : decode cX12_scoreLine 64 = .ok (.aload_n 0, 1) := by decide +kernel
theorem dX12_scoreLine_65 : decode cX12_scoreLine 65 = .ok (.getfield 112, 3) := by decide +kernel
theorem dX12_scoreLine_68 : decode cX12_scoreLine 68 = .ok (.invokevirtual 149, 3) := by decide +kernel
theorem dX12_scoreLine_71 : decode cX12_scoreLine 71 = .ok (.aload_n 0, 1) := by decide +kernel
theorem dX12_scoreLine_72 : decode cX12_scoreLine 72 = .ok (.invokevirtual 171, 3) := by decide +kernel
theorem dX12_scoreLine_75 : decode cX12_scoreLine 75 = .ok (.istore_n 3, 1) := by decide +kernel
theorem dX12_scoreLine_76 : decode cX12_scoreLine 76 = .ok (.iload_n 2, 1) := by decide +kernel
theorem dX12_scoreLine_77 : decode cX12_scoreLine 77 = .ok (.ifCond .ne 6, 3) := by decide +kernel
theorem dX12_scoreLine_80 : decode cX12_scoreLine 80 = .ok (.goto (-46), 3) := by decide +kernel
theorem dX12_scoreLine_83 : decode cX12_scoreLine 83 = .ok (.aload_n 0, 1) := by decide +kernel
theorem dX12_scoreLine_84 : decode cX12_scoreLine 84 = .ok (.getfield 17, 3) := by decide +kernel
theorem dX12_scoreLine_87 : decode cX12_scoreLine 87 = .ok (.iconst 2, 1) := by decide +kernel
theorem dX12_scoreLine_88 : decode cX12_scoreLine 88 = .ok (.bipush 12, 2) := by decide +kernel
theorem dX12_scoreLine_90 : decode cX12_scoreLine 90 = .ok (.iload_n 1, 1) := by decide +kernel
theorem dX12_scoreLine_91 : decode cX12_scoreLine 91 = .ok (.imul, 1) := by decide +kernel
theorem dX12_scoreLine_92 : decode cX12_scoreLine 92 = .ok (.iadd, 1) := by decide +kernel
theorem dX12_scoreLine_93 : decode cX12_scoreLine 93 = .ok (.aload_n 0, 1) := by decide +kernel
theorem dX12_scoreLine_94 : decode cX12_scoreLine 94 = .ok (.getfield 17, 3) := by decide +kernel
theorem dX12_scoreLine_97 : decode cX12_scoreLine 97 = .ok (.iload_n 1, 1) := by decide +kernel
theorem dX12_scoreLine_98 : decode cX12_scoreLine 98 = .ok (.iaload, 1) := by decide +kernel
theorem dX12_scoreLine_99 : decode cX12_scoreLine 99 = .ok (.iadd, 1) := by decide +kernel
theorem dX12_scoreLine_100 : decode cX12_scoreLine 100 = .ok (.iload_n 3, 1) := by decide +kernel
theorem dX12_scoreLine_101 : decode cX12_scoreLine 101 = .ok (.iastore, 1) := by decide +kernel
theorem dX12_scoreLine_102 : decode cX12_scoreLine 102 = .ok (.aload_n 0, 1) := by decide +kernel
theorem dX12_scoreLine_103 : decode cX12_scoreLine 103 = .ok (.getfield 17, 3) := by decide +kernel
theorem dX12_scoreLine_106 : decode cX12_scoreLine 106 = .ok (.iload_n 1, 1) := by decide +kernel
theorem dX12_scoreLine_107 : decode cX12_scoreLine 107 = .ok (.dup2, 1) := by decide +kernel
theorem dX12_scoreLine_108 : decode cX12_scoreLine 108 = .ok (.iaload, 1) := by decide +kernel
theorem dX12_scoreLine_109 : decode cX12_scoreLine 109 = .ok (.iconst 1, 1) := by decide +kernel
theorem dX12_scoreLine_110 : decode cX12_scoreLine 110 = .ok (.iadd, 1) := by decide +kernel
theorem dX12_scoreLine_111 : decode cX12_scoreLine 111 = .ok (.iastore, 1) := by decide +kernel
theorem dX12_scoreLine_112 : decode cX12_scoreLine 112 = .ok (.goto (-78), 3) := by decide +kernel
theorem dX12_scoreLine_115 : decode cX12_scoreLine 115 = .ok (.aload_n 0, 1) := by decide +kernel
theorem dX12_scoreLine_116 : decode cX12_scoreLine 116 = .ok (.invokevirtual 177, 3) := by decide +kernel
theorem dX12_scoreLine_119 : decode cX12_scoreLine 119 = .ok (.return_, 1) := by decide +kernel
theorem dX12_hearingLine_0 : decode cX12_hearingLine 0 = .ok (.aload_n 0, 1) := by decide +kernel
theorem dX12_hearingLine_1 : decode cX12_hearingLine 1 = .ok (.bipush 20, 2) := by decide +kernel
theorem dX12_hearingLine_3 : decode cX12_hearingLine 3 = .ok (.bipush 20, 2) := by decide +kernel
theorem dX12_hearingLine_5 : decode cX12_hearingLine 5 = .ok (.invokevirtual 156, 3) := by decide +kernel
theorem dX12_hearingLine_8 : decode cX12_hearingLine 8 = .ok (.pop, 1) := by decide +kernel
theorem dX12_hearingLine_9 : decode cX12_hearingLine 9 = .ok (.aload_n 0, 1) := by decide +kernel
theorem dX12_hearingLine_10 : decode cX12_hearingLine 10 = .ok (.invokevirtual 163, 3) := by decide +kernel
theorem dX12_hearingLine_13 : decode cX12_hearingLine 13 = .ok (.istore_n 1, 1) := by decide +kernel
theorem dX12_hearingLine_14 : decode cX12_hearingLine 14 = .ok (.iconst 0, 1) := by decide +kernel
theorem dX12_hearingLine_15 : decode cX12_hearingLine 15 = .ok (.istore_n 2, 1) := by decide +kernel
theorem dX12_hearingLine_16 : decode cX12_hearingLine 16 = .ok (.aload_n 0, 1) := by decide +kernel
theorem dX12_hearingLine_17 : decode cX12_hearingLine 17 = .ok (.invokevirtual 180, 3) := by decide +kernel
theorem dX12_hearingLine_20 : decode cX12_hearingLine 20 = .ok (.ifCond .eq 56, 3) := by decide +kernel
theorem dX12_hearingLine_23 : decode cX12_hearingLine 23 = .ok (.iload_n 2, 1) := by decide +kernel
theorem dX12_hearingLine_24 : decode cX12_hearingLine 24 = .ok (.bipush 6, 2) := by decide +kernel
theorem dX12_hearingLine_26 : decode cX12_hearingLine 26 = .ok (.if_icmp .lt 12, 3) := by decide +kernel
theorem dX12_hearingLine_29 : decode cX12_hearingLine 29 = .ok (.aload_n 0, 1) := by decide +kernel
theorem dX12_hearingLine_30 : decode cX12_hearingLine 30 = .ok (.iconst 3, 1) := by decide +kernel
theorem dX12_hearingLine_31 : decode cX12_hearingLine 31 = .ok (.aload_n 0, 1) := by decide +kernel
theorem dX12_hearingLine_32 : decode cX12_hearingLine 32 = .ok (.getfield 112, 3) := by decide +kernel
theorem dX12_hearingLine_35 : decode cX12_hearingLine 35 = .ok (.invokevirtual 149, 3) := by decide +kernel
theorem dX12_hearingLine_38 : decode cX12_hearingLine 38 = .ok (.aload_n 0, 1) := by decide +kernel
theorem dX12_hearingLine_39 : decode cX12_hearingLine 39 = .ok (.bipush 14, 2) := by decide +kernel
theorem dX12_hearingLine_41 : decode cX12_hearingLine 41 = .ok (.bipush 18, 2) := by decide +kernel
theorem dX12_hearingLine_43 : decode cX12_hearingLine 43 = .ok (.invokevirtual 156, 3) := by decide +kernel
theorem dX12_hearingLine_46 : decode cX12_hearingLine 46 = .ok (.bipush 14, 2) := by decide +kernel
theorem dX12_hearingLine_48 : decode cX12_hearingLine 48 = .ok (.isub, 1) := by decide +kernel
theorem dX12_hearingLine_49 : decode cX12_hearingLine 49 = .ok (.istore_n 3, 1) := by decide +kernel
theorem dX12_hearingLine_50 : decode cX12_hearingLine 50 = .ok (.iload_n 2, 1) := by decide +kernel
theorem dX12_hearingLine_51 : decode cX12_hearingLine 51 = .ok (.bipush 6, 2) := by decide +kernel
theorem dX12_hearingLine_53 : decode cX12_hearingLine 53 = .ok (.if_icmp .ge 17, 3) := by decide +kernel
theorem dX12_hearingLine_56 : decode cX12_hearingLine 56 = .ok (.aload_n 0, 1) := by decide +kernel
theorem dX12_hearingLine_57 : decode cX12_hearingLine 57 = .ok (.getfield 17, 3) := by decide +kernel
theorem dX12_hearingLine_60 : decode cX12_hearingLine 60 = .ok (.iconst 2, 1) := by decide +kernel
theorem dX12_hearingLine_61 : decode cX12_hearingLine 61 = .ok (.bipush 6, 2) := by decide +kernel
theorem dX12_hearingLine_63 : decode cX12_hearingLine 63 = .ok (.iload_n 1, 1) := by decide +kernel
theorem dX12_hearingLine_64 : decode cX12_hearingLine 64 = .ok (.imul, 1) := by decide +kernel
theorem dX12_hearingLine_65 : decode cX12_hearingLine 65 = .ok (.iadd, 1) := by decide +kernel
theorem dX12_hearingLine_66 : decode cX12_hearingLine 66 = .ok (.iload_n 2, 1) := by decide +kernel
theorem dX12_hearingLine_67 : decode cX12_hearingLine 67 = .ok (.iadd, 1) := by decide +kernel
theorem dX12_hearingLine_68 : decode cX12_hearingLine 68 = .ok (.iload_n 3, 1) := by decide +kernel
theorem dX12_hearingLine_69 : decode cX12_hearingLine 69 = .ok (.iastore, 1) := by decide +kernel
theorem dX12_hearingLine_70 : decode cX12_hearingLine 70 = .ok (.iinc 2 1, 3) := by decide +kernel
theorem dX12_hearingLine_73 : decode cX12_hearingLine 73 = .ok (.goto (-57), 3) := by decide +kernel
theorem dX12_hearingLine_76 : decode cX12_hearingLine 76 = .ok (.aload_n 0, 1) := by decide +kernel
theorem dX12_hearingLine_77 : decode cX12_hearingLine 77 = .ok (.getfield 17, 3) := by decide +kernel
theorem dX12_hearingLine_80 : decode cX12_hearingLine 80 = .ok (.iload_n 1, 1) := by decide +kernel
theorem dX12_hearingLine_81 : decode cX12_hearingLine 81 = .ok (.iload_n 2, 1) := by decide +kernel
theorem dX12_hearingLine_82 : decode cX12_hearingLine 82 = .ok (.bipush 6, 2) := by decide +kernel
theorem dX12_hearingLine_84 : decode cX12_hearingLine 84 = .ok (.if_icmp .ge 7, 3) := by decide +kernel
theorem dX12_hearingLine_87 : decode cX12_hearingLine 87 = .ok (.iload_n 2, 1) := by decide +kernel
theorem dX12_hearingLine_88 : decode cX12_hearingLine 88 = .ok (.goto 5, 3) := by decide +kernel
theorem dX12_hearingLine_91 : decode cX12_hearingLine 91 = .ok (.bipush 6, 2) := by decide +kernel
theorem dX12_hearingLine_93 : decode cX12_hearingLine 93 = .ok (.iastore, 1) := by decide +kernel
theorem dX12_hearingLine_94 : decode cX12_hearingLine 94 = .ok (.aload_n 0, 1) := by decide +kernel
theorem dX12_hearingLine_95 : decode cX12_hearingLine 95 = .ok (.invokevirtual 177, 3) := by decide +kernel
theorem dX12_hearingLine_98 : decode cX12_hearingLine 98 = .ok (.return_, 1) := by decide +kernel
theorem dX12_villageLine_0 : decode cX12_villageLine 0 = .ok (.aload_n 0, 1) := by decide +kernel
theorem dX12_villageLine_1 : decode cX12_villageLine 1 = .ok (.getfield 112, 3) := by decide +kernel
theorem dX12_villageLine_4 : decode cX12_villageLine 4 = .ok (.istore_n 1, 1) := by decide +kernel
theorem dX12_villageLine_5 : decode cX12_villageLine 5 = .ok (.aload_n 0, 1) := by decide +kernel
theorem dX12_villageLine_6 : decode cX12_villageLine 6 = .ok (.bipush 21, 2) := by decide +kernel
theorem dX12_villageLine_8 : decode cX12_villageLine 8 = .ok (.bipush 24, 2) := by decide +kernel
theorem dX12_villageLine_10 : decode cX12_villageLine 10 = .ok (.invokevirtual 156, 3) := by decide +kernel
theorem dX12_villageLine_13 : decode cX12_villageLine 13 = .ok (.bipush 21, 2) := by decide +kernel
theorem dX12_villageLine_15 : decode cX12_villageLine 15 = .ok (.isub, 1) := by decide +kernel
theorem dX12_villageLine_16 : decode cX12_villageLine 16 = .ok (.istore_n 2, 1) := by decide +kernel
theorem dX12_villageLine_17 : decode cX12_villageLine 17 = .ok (.aload_n 0, 1) := by decide +kernel
theorem dX12_villageLine_18 : decode cX12_villageLine 18 = .ok (.getfield 17, 3) := by decide +kernel
theorem dX12_villageLine_21 : decode cX12_villageLine 21 = .ok (.iconst 0, 1) := by decide +kernel
theorem dX12_villageLine_22 : decode cX12_villageLine 22 = .ok (.iaload, 1) := by decide +kernel
theorem dX12_villageLine_23 : decode cX12_villageLine 23 = .ok (.bipush 8, 2) := by decide +kernel
theorem dX12_villageLine_25 : decode cX12_villageLine 25 = .ok (.if_icmp .ge 7, 3) := by decide +kernel
theorem dX12_villageLine_28 : decode cX12_villageLine 28 = .ok (.iconst 1, 1) := by decide +kernel
theorem dX12_villageLine_29 : decode cX12_villageLine 29 = .ok (.goto 4, 3) := by decide +kernel
theorem dX12_villageLine_32 : decode cX12_villageLine 32 = .ok (.iconst 0, 1) := by decide +kernel
theorem dX12_villageLine_33 : decode cX12_villageLine 33 = .ok (.istore_n 3, 1) := by decide +kernel
theorem dX12_villageLine_34 : decode cX12_villageLine 34 = .ok (.aload_n 0, 1) := by decide +kernel
theorem dX12_villageLine_35 : decode cX12_villageLine 35 = .ok (.getfield 138, 3) := by decide +kernel
theorem dX12_villageLine_38 : decode cX12_villageLine 38 = .ok (.ifCond .ne 13, 3) := by decide +kernel
theorem dX12_villageLine_41 : decode cX12_villageLine 41 = .ok (.iload_n 3, 1) := by decide +kernel
theorem dX12_villageLine_42 : decode cX12_villageLine 42 = .ok (.ifCond .ne 9, 3) := by decide +kernel
theorem dX12_villageLine_45 : decode cX12_villageLine 45 = .ok (.aload_n 0, 1) := by decide +kernel
theorem dX12_villageLine_46 : decode cX12_villageLine 46 = .ok (.iconst 3, 1) := by decide +kernel
theorem dX12_villageLine_47 : decode cX12_villageLine 47 = .ok (.iload_n 1, 1) := by decide +kernel
theorem dX12_villageLine_48 : decode cX12_villageLine 48 = .ok (.invokevirtual 149, 3) := by decide +kernel
theorem dX12_villageLine_51 : decode cX12_villageLine 51 = .ok (.aload_n 0, 1) := by decide +kernel
theorem dX12_villageLine_52 : decode cX12_villageLine 52 = .ok (.getfield 138, 3) := by decide +kernel
theorem dX12_villageLine_55 : decode cX12_villageLine 55 = .ok (.ifCond .ne 38, 3) := by decide +kernel
theorem dX12_villageLine_58 : decode cX12_villageLine 58 = .ok (.aload_n 0, 1) := by decide +kernel
theorem dX12_villageLine_59 : decode cX12_villageLine 59 = .ok (.getfield 115, 3) := by decide +kernel
theorem dX12_villageLine_62 : decode cX12_villageLine 62 = .ok (.iconst 1, 1) := by decide +kernel
theorem dX12_villageLine_63 : decode cX12_villageLine 63 = .ok (.if_icmp .ne 30, 3) := by decide +kernel
theorem dX12_villageLine_66 : decode cX12_villageLine 66 = .ok (.aload_n 0, 1) := by decide +kernel
theorem dX12_villageLine_67 : decode cX12_villageLine 67 = .ok (.getfield 135, 3) := by decide +kernel
theorem dX12_villageLine_70 : decode cX12_villageLine 70 = .ok (.aload_n 0, 1) := by decide +kernel
theorem dX12_villageLine_71 : decode cX12_villageLine 71 = .ok (.getfield 17, 3) := by decide +kernel
theorem dX12_villageLine_74 : decode cX12_villageLine 74 = .ok (.iconst 0, 1) := by decide +kernel
theorem dX12_villageLine_75 : decode cX12_villageLine 75 = .ok (.iaload, 1) := by decide +kernel
theorem dX12_villageLine_76 : decode cX12_villageLine 76 = .ok (.bipush 7, 2) := by decide +kernel
theorem dX12_villageLine_78 : decode cX12_villageLine 78 = .ok (.invokestatic 145, 3) := by decide +kernel
theorem dX12_villageLine_81 : decode cX12_villageLine 81 = .ok (.ifCond .eq 12, 3) := by decide +kernel
theorem dX12_villageLine_84 : decode cX12_villageLine 84 = .ok (.aload_n 0, 1) := by decide +kernel
theorem dX12_villageLine_85 : decode cX12_villageLine 85 = .ok (.iconst 2, 1) := by decide +kernel
theorem dX12_villageLine_86 : decode cX12_villageLine 86 = .ok (.aload_n 0, 1) := by decide +kernel
theorem dX12_villageLine_87 : decode cX12_villageLine 87 = .ok (.getfield 112, 3) := by decide +kernel
theorem dX12_villageLine_90 : decode cX12_villageLine 90 = .ok (.invokevirtual 149, 3) := by decide +kernel
theorem dX12_villageLine_93 : decode cX12_villageLine 93 = .ok (.aload_n 0, 1) := by decide +kernel
theorem dX12_villageLine_94 : decode cX12_villageLine 94 = .ok (.iconst 0, 1) := by decide +kernel
theorem dX12_villageLine_95 : decode cX12_villageLine 95 = .ok (.bipush 8, 2) := by decide +kernel
theorem dX12_villageLine_97 : decode cX12_villageLine 97 = .ok (.invokevirtual 160, 3) := by decide +kernel
theorem dX12_villageLine_100 : decode cX12_villageLine 100 = .ok (.istore 4, 2) := by decide +kernel
theorem dX12_villageLine_102 : decode cX12_villageLine 102 = .ok (.iconst (-1), 1) := by decide +kernel
theorem dX12_villageLine_103 : decode cX12_villageLine 103 = .ok (.istore 5, 2) := by decide +kernel
theorem dX12_villageLine_105 : decode cX12_villageLine 105 = .ok (.iconst (-1), 1) := by decide +kernel
theorem dX12_villageLine_106 : decode cX12_villageLine 106 = .ok (.istore 6, 2) := by decide +kernel
theorem dX12_villageLine_108 : decode cX12_villageLine 108 = .ok (.iload_n 2, 1) := by decide +kernel
theorem dX12_villageLine_109 : decode cX12_villageLine 109 = .ok (.ifCond .ne 12, 3) := by decide +kernel
theorem dX12_villageLine_112 : decode cX12_villageLine 112 = .ok (.aload_n 0, 1) := by decide +kernel
theorem dX12_villageLine_113 : decode cX12_villageLine 113 = .ok (.iconst 1, 1) := by decide +kernel
theorem dX12_villageLine_114 : decode cX12_villageLine 114 = .ok (.bipush 9, 2) := by decide +kernel
theorem dX12_villageLine_116 : decode cX12_villageLine 116 = .ok (.invokevirtual 160, 3) := by decide +kernel
theorem dX12_villageLine_119 : decode cX12_villageLine 119 = .ok (.istore 5, 2) := by decide +kernel
theorem dX12_villageLine_121 : decode cX12_villageLine 121 = .ok (.iload_n 2, 1) := by decide +kernel
theorem dX12_villageLine_122 : decode cX12_villageLine 122 = .ok (.iconst 1, 1) := by decide +kernel
theorem dX12_villageLine_123 : decode cX12_villageLine 123 = .ok (.if_icmp .eq 8, 3) := by decide +kernel
theorem dX12_villageLine_126 : decode cX12_villageLine 126 = .ok (.iload_n 2, 1) := by decide +kernel
theorem dX12_villageLine_127 : decode cX12_villageLine 127 = .ok (.iconst 2, 1) := by decide +kernel
theorem dX12_villageLine_128 : decode cX12_villageLine 128 = .ok (.if_icmp .ne 9, 3) := by decide +kernel
theorem dX12_villageLine_131 : decode cX12_villageLine 131 = .ok (.aload_n 0, 1) := by decide +kernel
theorem dX12_villageLine_132 : decode cX12_villageLine 132 = .ok (.invokevirtual 171, 3) := by decide +kernel
theorem dX12_villageLine_135 : decode cX12_villageLine 135 = .ok (.istore 5, 2) := by decide +kernel
theorem dX12_villageLine_137 : decode cX12_villageLine 137 = .ok (.iload_n 2, 1) := by decide +kernel
theorem dX12_villageLine_138 : decode cX12_villageLine 138 = .ok (.iconst 1, 1) := by decide +kernel
theorem dX12_villageLine_139 : decode cX12_villageLine 139 = .ok (.if_icmp .ne 37, 3) := by decide +kernel
theorem dX12_villageLine_142 : decode cX12_villageLine 142 = .ok (.aload_n 0, 1) := by decide +kernel
theorem dX12_villageLine_143 : decode cX12_villageLine 143 = .ok (.invokevirtual 167, 3) := by decide +kernel
theorem dX12_villageLine_146 : decode cX12_villageLine 146 = .ok (.ifCond .eq 24, 3) := by decide +kernel
theorem dX12_villageLine_149 : decode cX12_villageLine 149 = .ok (.aload_n 0, 1) := by decide +kernel
theorem dX12_villageLine_150 : decode cX12_villageLine 150 = .ok (.getfield 129, 3) := by decide +kernel
theorem dX12_villageLine_153 : decode cX12_villageLine 153 = .ok (.bipush 10, 2) := by decide +kernel
theorem dX12_villageLine_155 : decode cX12_villageLine 155 = .ok (.isub, 1) := by decide +kernel
theorem dX12_villageLine_156 : decode cX12_villageLine 156 = .ok (.iload 5, 2) := by decide +kernel
theorem dX12_villageLine_158 : decode cX12_villageLine 158 = .ok (.if_icmp .ne 12, 3) := by decide +kernel
theorem dX12_villageLine_161 : decode cX12_villageLine 161 = .ok (.aload_n 0, 1) := by decide +kernel
theorem dX12_villageLine_162 : decode cX12_villageLine 162 = .ok (.iconst 4, 1) := by decide +kernel
theorem dX12_villageLine_163 : decode cX12_villageLine 163 = .ok (.aload_n 0, 1) := by decide +kernel
theorem dX12_villageLine_164 : decode cX12_villageLine 164 = .ok (.getfield 112, 3) := by decide +kernel
theorem dX12_villageLine_167 : decode cX12_villageLine 167 = .ok (.invokevirtual 149, 3) := by decide +kernel
theorem dX12_villageLine_170 : decode cX12_villageLine 170 = .ok (.aload_n 0, 1) := by decide +kernel
theorem dX12_villageLine_171 : decode cX12_villageLine 171 = .ok (.invokevirtual 171, 3) := by decide +kernel
theorem dX12_villageLine_174 : decode cX12_villageLine 174 = .ok (.istore 6, 2) := by decide +kernel
theorem dX12_villageLine_176 : decode cX12_villageLine 176 = .ok (.iload_n 3, 1) := by decide +kernel
theorem dX12_villageLine_177 : decode cX12_villageLine 177 = .ok (.ifCond .eq 66, 3) := by decide +kernel
theorem dX12_villageLine_180 : decode cX12_villageLine 180 = .ok (.iconst 1, 1) := by decide +kernel
theorem dX12_villageLine_181 : decode cX12_villageLine 181 = .ok (.iconst 4, 1) := by decide +kernel
theorem dX12_villageLine_182 : decode cX12_villageLine 182 = .ok (.aload_n 0, 1) := by decide +kernel
theorem dX12_villageLine_183 : decode cX12_villageLine 183 = .ok (.getfield 17, 3) := by decide +kernel
theorem dX12_villageLine_186 : decode cX12_villageLine 186 = .ok (.iconst 0, 1) := by decide +kernel
theorem dX12_villageLine_187 : decode cX12_villageLine 187 = .ok (.iaload, 1) := by decide +kernel
theorem dX12_villageLine_188 : decode cX12_villageLine 188 = .ok (.imul, 1) := by decide +kernel
theorem dX12_villageLine_189 : decode cX12_villageLine 189 = .ok (.iadd, 1) := by decide +kernel
theorem dX12_villageLine_190 : decode cX12_villageLine 190 = .ok (.istore 7, 2) := by decide +kernel
theorem dX12_villageLine_192 : decode cX12_villageLine 192 = .ok (.aload_n 0, 1) := by decide +kernel
theorem dX12_villageLine_193 : decode cX12_villageLine 193 = .ok (.getfield 17, 3) := by decide +kernel
theorem dX12_villageLine_196 : decode cX12_villageLine 196 = .ok (.iload 7, 2) := by decide +kernel
theorem dX12_villageLine_198 : decode cX12_villageLine 198 = .ok (.iload 4, 2) := by decide +kernel
theorem dX12_villageLine_200 : decode cX12_villageLine 200 = .ok (.iastore, 1) := by decide +kernel
theorem dX12_villageLine_201 : decode cX12_villageLine 201 = .ok (.aload_n 0, 1) := by decide +kernel
theorem dX12_villageLine_202 : decode cX12_villageLine 202 = .ok (.getfield 17, 3) := by decide +kernel
theorem dX12_villageLine_205 : decode cX12_villageLine 205 = .ok (.iload 7, 2) := by decide +kernel
theorem dX12_villageLine_207 : decode cX12_villageLine 207 = .ok (.iconst 1, 1) := by decide +kernel
theorem dX12_villageLine_208 : decode cX12_villageLine 208 = .ok (.iadd, 1) := by decide +kernel
theorem dX12_villageLine_209 : decode cX12_villageLine 209 = .ok (.iload_n 2, 1) := by decide +kernel
theorem dX12_villageLine_210 : decode cX12_villageLine 210 = .ok (.iastore, 1) := by decide +kernel
theorem dX12_villageLine_211 : decode cX12_villageLine 211 = .ok (.aload_n 0, 1) := by decide +kernel
theorem dX12_villageLine_212 : decode cX12_villageLine 212 = .ok (.getfield 17, 3) := by decide +kernel
theorem dX12_villageLine_215 : decode cX12_villageLine 215 = .ok (.iload 7, 2) := by decide +kernel
theorem dX12_villageLine_217 : decode cX12_villageLine 217 = .ok (.iconst 2, 1) := by decide +kernel
theorem dX12_villageLine_218 : decode cX12_villageLine 218 = .ok (.iadd, 1) := by decide +kernel
theorem dX12_villageLine_219 : decode cX12_villageLine 219 = .ok (.iload 5, 2) := by decide +kernel
theorem dX12_villageLine_221 : decode cX12_villageLine 221 = .ok (.iastore, 1) := by decide +kernel
theorem dX12_villageLine_222 : decode cX12_villageLine 222 = .ok (.aload_n 0, 1) := by decide +kernel
theorem dX12_villageLine_223 : decode cX12_villageLine 223 = .ok (.getfield 17, 3) := by decide +kernel
theorem dX12_villageLine_226 : decode cX12_villageLine 226 = .ok (.iload 7, 2) := by decide +kernel
theorem dX12_villageLine_228 : decode cX12_villageLine 228 = .ok (.iconst 3, 1) := by decide +kernel
theorem dX12_villageLine_229 : decode cX12_villageLine 229 = .ok (.iadd, 1) := by decide +kernel
theorem dX12_villageLine_230 : decode cX12_villageLine 230 = .ok (.iload 6, 2) := by decide +kernel
theorem dX12_villageLine_232 : decode cX12_villageLine 232 = .ok (.iastore, 1) := by decide +kernel
theorem dX12_villageLine_233 : decode cX12_villageLine 233 = .ok (.aload_n 0, 1) := by decide +kernel
theorem dX12_villageLine_234 : decode cX12_villageLine 234 = .ok (.getfield 17, 3) := by decide +kernel
theorem dX12_villageLine_237 : decode cX12_villageLine 237 = .ok (.iconst 0, 1) := by decide +kernel
theorem dX12_villageLine_238 : decode cX12_villageLine 238 = .ok (.dup2, 1) := by decide +kernel
theorem dX12_villageLine_239 : decode cX12_villageLine 239 = .ok (.iaload, 1) := by decide +kernel
theorem dX12_villageLine_240 : decode cX12_villageLine 240 = .ok (.iconst 1, 1) := by decide +kernel
theorem dX12_villageLine_241 : decode cX12_villageLine 241 = .ok (.iadd, 1) := by decide +kernel
theorem dX12_villageLine_242 : decode cX12_villageLine 242 = .ok (.iastore, 1) := by decide +kernel
theorem dX12_villageLine_243 : decode cX12_villageLine 243 = .ok (.aload_n 0, 1) := by decide +kernel
theorem dX12_villageLine_244 : decode cX12_villageLine 244 = .ok (.invokevirtual 177, 3) := by decide +kernel
theorem dX12_villageLine_247 : decode cX12_villageLine 247 = .ok (.return_, 1) := by decide +kernel
theorem dX12_placeOf_0 : decode cX12_placeOf 0 = .ok (.iload_n 0, 1) := by decide +kernel
theorem dX12_placeOf_1 : decode cX12_placeOf 1 = .ok (.ifCond .ne 14, 3) := by decide +kernel
theorem dX12_placeOf_4 : decode cX12_placeOf 4 = .ok (.sipush 610, 3) := by decide +kernel
theorem dX12_placeOf_7 : decode cX12_placeOf 7 = .ok (.bipush 89, 2) := by decide +kernel
theorem dX12_placeOf_9 : decode cX12_placeOf 9 = .ok (.iload_n 1, 1) := by decide +kernel
theorem dX12_placeOf_10 : decode cX12_placeOf 10 = .ok (.imul, 1) := by decide +kernel
theorem dX12_placeOf_11 : decode cX12_placeOf 11 = .ok (.iadd, 1) := by decide +kernel
theorem dX12_placeOf_12 : decode cX12_placeOf 12 = .ok (.goto 43, 3) := by decide +kernel
theorem dX12_placeOf_15 : decode cX12_placeOf 15 = .ok (.iload_n 0, 1) := by decide +kernel
theorem dX12_placeOf_16 : decode cX12_placeOf 16 = .ok (.iconst 1, 1) := by decide +kernel
theorem dX12_placeOf_17 : decode cX12_placeOf 17 = .ok (.if_icmp .ne 14, 3) := by decide +kernel
theorem dX12_placeOf_20 : decode cX12_placeOf 20 = .ok (.sipush 788, 3) := by decide +kernel
theorem dX12_placeOf_23 : decode cX12_placeOf 23 = .ok (.bipush 26, 2) := by decide +kernel
theorem dX12_placeOf_25 : decode cX12_placeOf 25 = .ok (.iload_n 1, 1) := by decide +kernel
theorem dX12_placeOf_26 : decode cX12_placeOf 26 = .ok (.imul, 1) := by decide +kernel
theorem dX12_placeOf_27 : decode cX12_placeOf 27 = .ok (.iadd, 1) := by decide +kernel
theorem dX12_placeOf_28 : decode cX12_placeOf 28 = .ok (.goto 27, 3) := by decide +kernel
theorem dX12_placeOf_31 : decode cX12_placeOf 31 = .ok (.iload_n 0, 1) := by decide +kernel
theorem dX12_placeOf_32 : decode cX12_placeOf 32 = .ok (.iconst 2, 1) := by decide +kernel
theorem dX12_placeOf_33 : decode cX12_placeOf 33 = .ok (.if_icmp .ne 14, 3) := by decide +kernel
theorem dX12_placeOf_36 : decode cX12_placeOf 36 = .ok (.sipush 840, 3) := by decide +kernel
theorem dX12_placeOf_39 : decode cX12_placeOf 39 = .ok (.bipush 14, 2) := by decide +kernel
theorem dX12_placeOf_41 : decode cX12_placeOf 41 = .ok (.iload_n 1, 1) := by decide +kernel
theorem dX12_placeOf_42 : decode cX12_placeOf 42 = .ok (.imul, 1) := by decide +kernel
theorem dX12_placeOf_43 : decode cX12_placeOf 43 = .ok (.iadd, 1) := by decide +kernel
theorem dX12_placeOf_44 : decode cX12_placeOf 44 = .ok (.goto 11, 3) := by decide +kernel
theorem dX12_placeOf_47 : decode cX12_placeOf 47 = .ok (.sipush 868, 3) := by decide +kernel
theorem dX12_placeOf_50 : decode cX12_placeOf 50 = .ok (.bipush 33, 2) := by decide +kernel
theorem dX12_placeOf_52 : decode cX12_placeOf 52 = .ok (.iload_n 1, 1) := by decide +kernel
theorem dX12_placeOf_53 : decode cX12_placeOf 53 = .ok (.imul, 1) := by decide +kernel
theorem dX12_placeOf_54 : decode cX12_placeOf 54 = .ok (.iadd, 1) := by decide +kernel
theorem dX12_placeOf_55 : decode cX12_placeOf 55 = .ok (.ireturn, 1) := by decide +kernel
theorem dX12_sizeOf_0 : decode cX12_sizeOf 0 = .ok (.iload_n 0, 1) := by decide +kernel
theorem dX12_sizeOf_1 : decode cX12_sizeOf 1 = .ok (.ifCond .ne 8, 3) := by decide +kernel
theorem dX12_sizeOf_4 : decode cX12_sizeOf 4 = .ok (.bipush 89, 2) := by decide +kernel
theorem dX12_sizeOf_6 : decode cX12_sizeOf 6 = .ok (.goto 25, 3) := by decide +kernel
theorem dX12_sizeOf_9 : decode cX12_sizeOf 9 = .ok (.iload_n 0, 1) := by decide +kernel
theorem dX12_sizeOf_10 : decode cX12_sizeOf 10 = .ok (.iconst 1, 1) := by decide +kernel
theorem dX12_sizeOf_11 : decode cX12_sizeOf 11 = .ok (.if_icmp .ne 8, 3) := by decide +kernel
theorem dX12_sizeOf_14 : decode cX12_sizeOf 14 = .ok (.bipush 26, 2) := by decide +kernel
theorem dX12_sizeOf_16 : decode cX12_sizeOf 16 = .ok (.goto 15, 3) := by decide +kernel
theorem dX12_sizeOf_19 : decode cX12_sizeOf 19 = .ok (.iload_n 0, 1) := by decide +kernel
theorem dX12_sizeOf_20 : decode cX12_sizeOf 20 = .ok (.iconst 2, 1) := by decide +kernel
theorem dX12_sizeOf_21 : decode cX12_sizeOf 21 = .ok (.if_icmp .ne 8, 3) := by decide +kernel
theorem dX12_sizeOf_24 : decode cX12_sizeOf 24 = .ok (.bipush 14, 2) := by decide +kernel
theorem dX12_sizeOf_26 : decode cX12_sizeOf 26 = .ok (.goto 5, 3) := by decide +kernel
theorem dX12_sizeOf_29 : decode cX12_sizeOf 29 = .ok (.bipush 33, 2) := by decide +kernel
theorem dX12_sizeOf_31 : decode cX12_sizeOf 31 = .ok (.ireturn, 1) := by decide +kernel
theorem dX12_isOf_0 : decode cX12_isOf 0 = .ok (.iload_n 2, 1) := by decide +kernel
theorem dX12_isOf_1 : decode cX12_isOf 1 = .ok (.iconst 0, 1) := by decide +kernel
theorem dX12_isOf_2 : decode cX12_isOf 2 = .ok (.aload_n 0, 1) := by decide +kernel
theorem dX12_isOf_3 : decode cX12_isOf 3 = .ok (.getfield 7, 3) := by decide +kernel
theorem dX12_isOf_6 : decode cX12_isOf 6 = .ok (.iload_n 1, 1) := by decide +kernel
theorem dX12_isOf_7 : decode cX12_isOf 7 = .ok (.iaload, 1) := by decide +kernel
theorem dX12_isOf_8 : decode cX12_isOf 8 = .ok (.iconst 1, 1) := by decide +kernel
theorem dX12_isOf_9 : decode cX12_isOf 9 = .ok (.isub, 1) := by decide +kernel
theorem dX12_isOf_10 : decode cX12_isOf 10 = .ok (.invokestatic 145, 3) := by decide +kernel
theorem dX12_isOf_13 : decode cX12_isOf 13 = .ok (.ireturn, 1) := by decide +kernel
theorem dX12_clears_0 : decode cX12_clears 0 = .ok (.iconst 0, 1) := by decide +kernel
theorem dX12_clears_1 : decode cX12_clears 1 = .ok (.istore_n 2, 1) := by decide +kernel
theorem dX12_clears_2 : decode cX12_clears 2 = .ok (.iload_n 2, 1) := by decide +kernel
theorem dX12_clears_3 : decode cX12_clears 3 = .ok (.bipush 89, 2) := by decide +kernel
theorem dX12_clears_5 : decode cX12_clears 5 = .ok (.if_icmp .ge 16, 3) := by decide +kernel
theorem dX12_clears_8 : decode cX12_clears 8 = .ok (.aload_n 0, 1) := by decide +kernel
theorem dX12_clears_9 : decode cX12_clears 9 = .ok (.getfield 17, 3) := by decide +kernel
theorem dX12_clears_12 : decode cX12_clears 12 = .ok (.iload_n 2, 1) := by decide +kernel
theorem dX12_clears_13 : decode cX12_clears 13 = .ok (.iconst 0, 1) := by decide +kernel
theorem dX12_clears_14 : decode cX12_clears 14 = .ok (.iastore, 1) := by decide +kernel
theorem dX12_clears_15 : decode cX12_clears 15 = .ok (.iinc 2 1, 3) := by decide +kernel
theorem dX12_clears_18 : decode cX12_clears 18 = .ok (.goto (-16), 3) := by decide +kernel
theorem dX12_clears_21 : decode cX12_clears 21 = .ok (.iload_n 1, 1) := by decide +kernel
theorem dX12_clears_22 : decode cX12_clears 22 = .ok (.ifCond .ne 57, 3) := by decide +kernel
theorem dX12_clears_25 : decode cX12_clears 25 = .ok (.aload_n 0, 1) := by decide +kernel
theorem dX12_clears_26 : decode cX12_clears 26 = .ok (.getfield 17, 3) := by decide +kernel
theorem dX12_clears_29 : decode cX12_clears 29 = .ok (.iconst 0, 1) := by decide +kernel
theorem dX12_clears_30 : decode cX12_clears 30 = .ok (.iconst 1, 1) := by decide +kernel
theorem dX12_clears_31 : decode cX12_clears 31 = .ok (.iastore, 1) := by decide +kernel
theorem dX12_clears_32 : decode cX12_clears 32 = .ok (.iconst 0, 1) := by decide +kernel
theorem dX12_clears_33 : decode cX12_clears 33 = .ok (.istore_n 2, 1) := by decide +kernel
theorem dX12_clears_34 : decode cX12_clears 34 = .ok (.iload_n 2, 1) := by decide +kernel
theorem dX12_clears_35 : decode cX12_clears 35 = .ok (.iconst 4, 1) := by decide +kernel
theorem dX12_clears_36 : decode cX12_clears 36 = .ok (.if_icmp .ge 18, 3) := by decide +kernel
theorem dX12_clears_39 : decode cX12_clears 39 = .ok (.aload_n 0, 1) := by decide +kernel
theorem dX12_clears_40 : decode cX12_clears 40 = .ok (.getfield 17, 3) := by decide +kernel
theorem dX12_clears_43 : decode cX12_clears 43 = .ok (.iconst 3, 1) := by decide +kernel
theorem dX12_clears_44 : decode cX12_clears 44 = .ok (.iload_n 2, 1) := by decide +kernel
theorem dX12_clears_45 : decode cX12_clears 45 = .ok (.iadd, 1) := by decide +kernel
theorem dX12_clears_46 : decode cX12_clears 46 = .ok (.iload_n 2, 1) := by decide +kernel
theorem dX12_clears_47 : decode cX12_clears 47 = .ok (.iastore, 1) := by decide +kernel
theorem dX12_clears_48 : decode cX12_clears 48 = .ok (.iinc 2 1, 3) := by decide +kernel
theorem dX12_clears_51 : decode cX12_clears 51 = .ok (.goto (-17), 3) := by decide +kernel
theorem dX12_clears_54 : decode cX12_clears 54 = .ok (.aload_n 0, 1) := by decide +kernel
theorem dX12_clears_55 : decode cX12_clears 55 = .ok (.getfield 17, 3) := by decide +kernel
theorem dX12_clears_58 : decode cX12_clears 58 = .ok (.bipush 9, 2) := by decide +kernel
theorem dX12_clears_60 : decode cX12_clears 60 = .ok (.iconst 1, 1) := by decide +kernel
theorem dX12_clears_61 : decode cX12_clears 61 = .ok (.iastore, 1) := by decide +kernel
theorem dX12_clears_62 : decode cX12_clears 62 = .ok (.aload_n 0, 1) := by decide +kernel
theorem dX12_clears_63 : decode cX12_clears 63 = .ok (.getfield 17, 3) := by decide +kernel
theorem dX12_clears_66 : decode cX12_clears 66 = .ok (.bipush 10, 2) := by decide +kernel
theorem dX12_clears_68 : decode cX12_clears 68 = .ok (.iconst 1, 1) := by decide +kernel
theorem dX12_clears_69 : decode cX12_clears 69 = .ok (.iastore, 1) := by decide +kernel
theorem dX12_clears_70 : decode cX12_clears 70 = .ok (.aload_n 0, 1) := by decide +kernel
theorem dX12_clears_71 : decode cX12_clears 71 = .ok (.getfield 17, 3) := by decide +kernel
theorem dX12_clears_74 : decode cX12_clears 74 = .ok (.bipush 14, 2) := by decide +kernel
theorem dX12_clears_76 : decode cX12_clears 76 = .ok (.bipush 10, 2) := by decide +kernel
theorem dX12_clears_78 : decode cX12_clears 78 = .ok (.iastore, 1) := by decide +kernel
theorem dX12_clears_79 : decode cX12_clears 79 = .ok (.iload_n 1, 1) := by decide +kernel
theorem dX12_clears_80 : decode cX12_clears 80 = .ok (.iconst 2, 1) := by decide +kernel
theorem dX12_clears_81 : decode cX12_clears 81 = .ok (.if_icmp .ne 17, 3) := by decide +kernel
theorem dX12_clears_84 : decode cX12_clears 84 = .ok (.aload_n 0, 1) := by decide +kernel
theorem dX12_clears_85 : decode cX12_clears 85 = .ok (.getfield 17, 3) := by decide +kernel
theorem dX12_clears_88 : decode cX12_clears 88 = .ok (.iconst 0, 1) := by decide +kernel
theorem dX12_clears_89 : decode cX12_clears 89 = .ok (.iconst (-1), 1) := by decide +kernel
theorem dX12_clears_90 : decode cX12_clears 90 = .ok (.iastore, 1) := by decide +kernel
theorem dX12_clears_91 : decode cX12_clears 91 = .ok (.aload_n 0, 1) := by decide +kernel
theorem dX12_clears_92 : decode cX12_clears 92 = .ok (.getfield 17, 3) := by decide +kernel
theorem dX12_clears_95 : decode cX12_clears 95 = .ok (.iconst 1, 1) := by decide +kernel
theorem dX12_clears_96 : decode cX12_clears 96 = .ok (.iconst (-1), 1) := by decide +kernel
theorem dX12_clears_97 : decode cX12_clears 97 = .ok (.iastore, 1) := by decide +kernel
theorem dX12_clears_98 : decode cX12_clears 98 = .ok (.return_, 1) := by decide +kernel
theorem dX12_text_0 : decode cX12_text 0 = .ok (.aload_n 0, 1) := by decide +kernel
theorem dX12_text_1 : decode cX12_text 1 = .ok (.aload_n 0, 1) := by decide +kernel
theorem dX12_text_2 : decode cX12_text 2 = .ok (.getfield 7, 3) := by decide +kernel
theorem dX12_text_5 : decode cX12_text 5 = .ok (.iconst 4, 1) := by decide +kernel
theorem dX12_text_6 : decode cX12_text 6 = .ok (.iaload, 1) := by decide +kernel
theorem dX12_text_7 : decode cX12_text 7 = .ok (.putfield 87, 3) := by decide +kernel
theorem dX12_text_10 : decode cX12_text 10 = .ok (.aload_n 0, 1) := by decide +kernel
theorem dX12_text_11 : decode cX12_text 11 = .ok (.getfield 7, 3) := by decide +kernel
theorem dX12_text_14 : decode cX12_text 14 = .ok (.iconst 4, 1) := by decide +kernel
theorem dX12_text_15 : decode cX12_text 15 = .ok (.iconst 0, 1) := by decide +kernel
theorem dX12_text_16 : decode cX12_text 16 = .ok (.iastore, 1) := by decide +kernel
theorem dX12_text_17 : decode cX12_text 17 = .ok (.aload_n 0, 1) := by decide +kernel
theorem dX12_text_18 : decode cX12_text 18 = .ok (.getfield 7, 3) := by decide +kernel
theorem dX12_text_21 : decode cX12_text 21 = .ok (.iconst 5, 1) := by decide +kernel
theorem dX12_text_22 : decode cX12_text 22 = .ok (.iconst 0, 1) := by decide +kernel
theorem dX12_text_23 : decode cX12_text 23 = .ok (.iastore, 1) := by decide +kernel
theorem dX12_text_24 : decode cX12_text 24 = .ok (.aload_n 0, 1) := by decide +kernel
theorem dX12_text_25 : decode cX12_text 25 = .ok (.getfield 7, 3) := by decide +kernel
theorem dX12_text_28 : decode cX12_text 28 = .ok (.bipush 6, 2) := by decide +kernel
theorem dX12_text_30 : decode cX12_text 30 = .ok (.iconst (-1), 1) := by decide +kernel
theorem dX12_text_31 : decode cX12_text 31 = .ok (.iastore, 1) := by decide +kernel
theorem dX12_text_32 : decode cX12_text 32 = .ok (.iload_n 1, 1) := by decide +kernel
theorem dX12_text_33 : decode cX12_text 33 = .ok (.iconst 0, 1) := by decide +kernel
theorem dX12_text_34 : decode cX12_text 34 = .ok (.iconst 3, 1) := by decide +kernel
theorem dX12_text_35 : decode cX12_text 35 = .ok (.invokestatic 145, 3) := by decide +kernel
theorem dX12_text_38 : decode cX12_text 38 = .ok (.ifCond .eq 30, 3) := by decide +kernel
theorem dX12_text_41 : decode cX12_text 41 = .ok (.iload_n 2, 1) := by decide +kernel
theorem dX12_text_42 : decode cX12_text 42 = .ok (.iconst (-1), 1) := by decide +kernel
theorem dX12_text_43 : decode cX12_text 43 = .ok (.if_icmp .ne 16, 3) := by decide +kernel
theorem dX12_text_46 : decode cX12_text 46 = .ok (.aload_n 0, 1) := by decide +kernel
theorem dX12_text_47 : decode cX12_text 47 = .ok (.getfield 7, 3) := by decide +kernel
theorem dX12_text_50 : decode cX12_text 50 = .ok (.iload_n 1, 1) := by decide +kernel
theorem dX12_text_51 : decode cX12_text 51 = .ok (.iaload, 1) := by decide +kernel
theorem dX12_text_52 : decode cX12_text 52 = .ok (.iconst 2, 1) := by decide +kernel
theorem dX12_text_53 : decode cX12_text 53 = .ok (.if_icmp .lt 18, 3) := by decide +kernel
theorem dX12_text_56 : decode cX12_text 56 = .ok (.goto 12, 3) := by decide +kernel
theorem dX12_text_59 : decode cX12_text 59 = .ok (.aload_n 0, 1) := by decide +kernel
theorem dX12_text_60 : decode cX12_text 60 = .ok (.iload_n 1, 1) := by decide +kernel
theorem dX12_text_61 : decode cX12_text 61 = .ok (.iload_n 2, 1) := by decide +kernel
theorem dX12_text_62 : decode cX12_text 62 = .ok (.invokevirtual 183, 3) := by decide +kernel
theorem dX12_text_65 : decode cX12_text 65 = .ok (.ifCond .ne 6, 3) := by decide +kernel
theorem dX12_text_68 : decode cX12_text 68 = .ok (.bipush (-2), 2) := by decide +kernel
theorem dX12_text_70 : decode cX12_text 70 = .ok (.ireturn, 1) := by decide +kernel
theorem dX12_text_71 : decode cX12_text 71 = .ok (.aload_n 0, 1) := by decide +kernel
theorem dX12_text_72 : decode cX12_text 72 = .ok (.iconst 0, 1) := by decide +kernel
theorem dX12_text_73 : decode cX12_text 73 = .ok (.putfield 105, 3) := by decide +kernel
theorem dX12_text_76 : decode cX12_text 76 = .ok (.aload_n 0, 1) := by decide +kernel
theorem dX12_text_77 : decode cX12_text 77 = .ok (.iconst 0, 1) := by decide +kernel
theorem dX12_text_78 : decode cX12_text 78 = .ok (.putfield 138, 3) := by decide +kernel
theorem dX12_text_81 : decode cX12_text 81 = .ok (.aload_n 0, 1) := by decide +kernel
theorem dX12_text_82 : decode cX12_text 82 = .ok (.iload_n 1, 1) := by decide +kernel
theorem dX12_text_83 : decode cX12_text 83 = .ok (.invokevirtual 187, 3) := by decide +kernel
theorem dX12_text_86 : decode cX12_text 86 = .ok (.aload_n 0, 1) := by decide +kernel
theorem dX12_text_87 : decode cX12_text 87 = .ok (.invokevirtual 153, 3) := by decide +kernel
theorem dX12_text_90 : decode cX12_text 90 = .ok (.aload_n 0, 1) := by decide +kernel
theorem dX12_text_91 : decode cX12_text 91 = .ok (.getfield 138, 3) := by decide +kernel
theorem dX12_text_94 : decode cX12_text 94 = .ok (.ifCond .ne 66, 3) := by decide +kernel
theorem dX12_text_97 : decode cX12_text 97 = .ok (.aload_n 0, 1) := by decide +kernel
theorem dX12_text_98 : decode cX12_text 98 = .ok (.getfield 115, 3) := by decide +kernel
theorem dX12_text_101 : decode cX12_text 101 = .ok (.ifCond .eq 59, 3) := by decide +kernel
theorem dX12_text_104 : decode cX12_text 104 = .ok (.iload_n 1, 1) := by decide +kernel
theorem dX12_text_105 : decode cX12_text 105 = .ok (.tableswitch 48 0 2 #[27, 34, 41], 27) := by decide +kernel
theorem dX12_text_132 : decode cX12_text 132 = .ok (.aload_n 0, 1) := by decide +kernel
theorem dX12_text_133 : decode cX12_text 133 = .ok (.invokevirtual 191, 3) := by decide +kernel
theorem dX12_text_136 : decode cX12_text 136 = .ok (.goto (-46), 3) := by decide +kernel
theorem dX12_text_139 : decode cX12_text 139 = .ok (.aload_n 0, 1) := by decide +kernel
theorem dX12_text_140 : decode cX12_text 140 = .ok (.invokevirtual 194, 3) := by decide +kernel
theorem dX12_text_143 : decode cX12_text 143 = .ok (.goto (-53), 3) := by decide +kernel
theorem dX12_text_146 : decode cX12_text 146 = .ok (.aload_n 0, 1) := by decide +kernel
theorem dX12_text_147 : decode cX12_text 147 = .ok (.invokevirtual 197, 3) := by decide +kernel
theorem dX12_text_150 : decode cX12_text 150 = .ok (.goto (-60), 3) := by decide +kernel
theorem dX12_text_153 : decode cX12_text 153 = .ok (.aload_n 0, 1) := by decide +kernel
theorem dX12_text_154 : decode cX12_text 154 = .ok (.invokevirtual 200, 3) := by decide +kernel
theorem dX12_text_157 : decode cX12_text 157 = .ok (.goto (-67), 3) := by decide +kernel
theorem dX12_text_160 : decode cX12_text 160 = .ok (.aload_n 0, 1) := by decide +kernel
theorem dX12_text_161 : decode cX12_text 161 = .ok (.getfield 7, 3) := by decide +kernel
theorem dX12_text_164 : decode cX12_text 164 = .ok (.iconst 5, 1) := by decide +kernel
theorem dX12_text_165 : decode cX12_text 165 = .ok (.iaload, 1) := by decide +kernel
theorem dX12_text_166 : decode cX12_text 166 = .ok (.ifCond .eq 5, 3) := by decide +kernel
theorem dX12_text_169 : decode cX12_text 169 = .ok (.iconst (-1), 1) := by decide +kernel
theorem dX12_text_170 : decode cX12_text 170 = .ok (.ireturn, 1) := by decide +kernel
theorem dX12_text_171 : decode cX12_text 171 = .ok (.iload_n 2, 1) := by decide +kernel
theorem dX12_text_172 : decode cX12_text 172 = .ok (.iconst (-1), 1) := by decide +kernel
theorem dX12_text_173 : decode cX12_text 173 = .ok (.if_icmp .ne 12, 3) := by decide +kernel
theorem dX12_text_176 : decode cX12_text 176 = .ok (.aload_n 0, 1) := by decide +kernel
theorem dX12_text_177 : decode cX12_text 177 = .ok (.getfield 7, 3) := by decide +kernel
theorem dX12_text_180 : decode cX12_text 180 = .ok (.iload_n 1, 1) := by decide +kernel
theorem dX12_text_181 : decode cX12_text 181 = .ok (.iaload, 1) := by decide +kernel
theorem dX12_text_182 : decode cX12_text 182 = .ok (.goto 4, 3) := by decide +kernel
theorem dX12_text_185 : decode cX12_text 185 = .ok (.iload_n 2, 1) := by decide +kernel
theorem dX12_text_186 : decode cX12_text 186 = .ok (.istore_n 3, 1) := by decide +kernel
theorem dX12_text_187 : decode cX12_text 187 = .ok (.iload_n 2, 1) := by decide +kernel
theorem dX12_text_188 : decode cX12_text 188 = .ok (.iconst (-1), 1) := by decide +kernel
theorem dX12_text_189 : decode cX12_text 189 = .ok (.if_icmp .ne 13, 3) := by decide +kernel
theorem dX12_text_192 : decode cX12_text 192 = .ok (.aload_n 0, 1) := by decide +kernel
theorem dX12_text_193 : decode cX12_text 193 = .ok (.getfield 7, 3) := by decide +kernel
theorem dX12_text_196 : decode cX12_text 196 = .ok (.iload_n 1, 1) := by decide +kernel
theorem dX12_text_197 : decode cX12_text 197 = .ok (.dup2, 1) := by decide +kernel
theorem dX12_text_198 : decode cX12_text 198 = .ok (.iaload, 1) := by decide +kernel
theorem dX12_text_199 : decode cX12_text 199 = .ok (.iconst 1, 1) := by decide +kernel
theorem dX12_text_200 : decode cX12_text 200 = .ok (.iadd, 1) := by decide +kernel
theorem dX12_text_201 : decode cX12_text 201 = .ok (.iastore, 1) := by decide +kernel
theorem dX12_text_202 : decode cX12_text 202 = .ok (.iconst 0, 1) := by decide +kernel
theorem dX12_text_203 : decode cX12_text 203 = .ok (.istore 4, 2) := by decide +kernel
theorem dX12_text_205 : decode cX12_text 205 = .ok (.iload 4, 2) := by decide +kernel
theorem dX12_text_207 : decode cX12_text 207 = .ok (.iload_n 1, 1) := by decide +kernel
theorem dX12_text_208 : decode cX12_text 208 = .ok (.invokestatic 203, 3) := by decide +kernel
theorem dX12_text_211 : decode cX12_text 211 = .ok (.if_icmp .ge 29, 3) := by decide +kernel
theorem dX12_text_214 : decode cX12_text 214 = .ok (.aload_n 0, 1) := by decide +kernel
theorem dX12_text_215 : decode cX12_text 215 = .ok (.getfield 7, 3) := by decide +kernel
theorem dX12_text_218 : decode cX12_text 218 = .ok (.iload_n 1, 1) := by decide +kernel
theorem dX12_text_219 : decode cX12_text 219 = .ok (.iload_n 3, 1) := by decide +kernel
theorem dX12_text_220 : decode cX12_text 220 = .ok (.invokestatic 206, 3) := by decide +kernel
theorem dX12_text_223 : decode cX12_text 223 = .ok (.iload 4, 2) := by decide +kernel
theorem dX12_text_225 : decode cX12_text 225 = .ok (.iadd, 1) := by decide +kernel
theorem dX12_text_226 : decode cX12_text 226 = .ok (.aload_n 0, 1) := by decide +kernel
theorem dX12_text_227 : decode cX12_text 227 = .ok (.getfield 17, 3) := by decide +kernel
theorem dX12_text_230 : decode cX12_text 230 = .ok (.iload 4, 2) := by decide +kernel
theorem dX12_text_232 : decode cX12_text 232 = .ok (.iaload, 1) := by decide +kernel
theorem dX12_text_233 : decode cX12_text 233 = .ok (.iastore, 1) := by decide +kernel
theorem dX12_text_234 : decode cX12_text 234 = .ok (.iinc 4 1, 3) := by decide +kernel
theorem dX12_text_237 : decode cX12_text 237 = .ok (.goto (-32), 3) := by decide +kernel
theorem dX12_text_240 : decode cX12_text 240 = .ok (.iload_n 3, 1) := by decide +kernel
theorem dX12_text_241 : decode cX12_text 241 = .ok (.ireturn, 1) := by decide +kernel
theorem dX12_fault_0 : decode cX12_fault 0 = .ok (.iload_n 1, 1) := by decide +kernel
theorem dX12_fault_1 : decode cX12_fault 1 = .ok (.ifCond .ne 12, 3) := by decide +kernel
theorem dX12_fault_4 : decode cX12_fault 4 = .ok (.aload_n 0, 1) := by decide +kernel
theorem dX12_fault_5 : decode cX12_fault 5 = .ok (.getfield 7, 3) := by decide +kernel
theorem dX12_fault_8 : decode cX12_fault 8 = .ok (.iconst 5, 1) := by decide +kernel
theorem dX12_fault_9 : decode cX12_fault 9 = .ok (.iaload, 1) := by decide +kernel
theorem dX12_fault_10 : decode cX12_fault 10 = .ok (.goto 19, 3) := by decide +kernel
theorem dX12_fault_13 : decode cX12_fault 13 = .ok (.iload_n 1, 1) := by decide +kernel
theorem dX12_fault_14 : decode cX12_fault 14 = .ok (.iconst 1, 1) := by decide +kernel
theorem dX12_fault_15 : decode cX12_fault 15 = .ok (.if_icmp .ne 13, 3) := by decide +kernel
theorem dX12_fault_18 : decode cX12_fault 18 = .ok (.aload_n 0, 1) := by decide +kernel
theorem dX12_fault_19 : decode cX12_fault 19 = .ok (.getfield 7, 3) := by decide +kernel
theorem dX12_fault_22 : decode cX12_fault 22 = .ok (.bipush 6, 2) := by decide +kernel
theorem dX12_fault_24 : decode cX12_fault 24 = .ok (.iaload, 1) := by decide +kernel
theorem dX12_fault_25 : decode cX12_fault 25 = .ok (.goto 4, 3) := by decide +kernel
theorem dX12_fault_28 : decode cX12_fault 28 = .ok (.iconst (-1), 1) := by decide +kernel
theorem dX12_fault_29 : decode cX12_fault 29 = .ok (.ireturn, 1) := by decide +kernel
theorem dX12_isWar_0 : decode cX12_isWar 0 = .ok (.aload_n 0, 1) := by decide +kernel
theorem dX12_isWar_1 : decode cX12_isWar 1 = .ok (.iconst 0, 1) := by decide +kernel
theorem dX12_isWar_2 : decode cX12_isWar 2 = .ok (.iload_n 1, 1) := by decide +kernel
theorem dX12_isWar_3 : decode cX12_isWar 3 = .ok (.invokevirtual 183, 3) := by decide +kernel
theorem dX12_isWar_6 : decode cX12_isWar 6 = .ok (.ifCond .ne 5, 3) := by decide +kernel
theorem dX12_isWar_9 : decode cX12_isWar 9 = .ok (.iconst 0, 1) := by decide +kernel
theorem dX12_isWar_10 : decode cX12_isWar 10 = .ok (.ireturn, 1) := by decide +kernel
theorem dX12_isWar_11 : decode cX12_isWar 11 = .ok (.aload_n 0, 1) := by decide +kernel
theorem dX12_isWar_12 : decode cX12_isWar 12 = .ok (.iconst 0, 1) := by decide +kernel
theorem dX12_isWar_13 : decode cX12_isWar 13 = .ok (.iload_n 1, 1) := by decide +kernel
theorem dX12_isWar_14 : decode cX12_isWar 14 = .ok (.invokestatic 206, 3) := by decide +kernel
theorem dX12_isWar_17 : decode cX12_isWar 17 = .ok (.putfield 209, 3) := by decide +kernel
theorem dX12_isWar_20 : decode cX12_isWar 20 = .ok (.iconst 1, 1) := by decide +kernel
theorem dX12_isWar_21 : decode cX12_isWar 21 = .ok (.ireturn, 1) := by decide +kernel
theorem dX12_isArmy_0 : decode cX12_isArmy 0 = .ok (.iload_n 0, 1) := by decide +kernel
theorem dX12_isArmy_1 : decode cX12_isArmy 1 = .ok (.iconst 0, 1) := by decide +kernel
theorem dX12_isArmy_2 : decode cX12_isArmy 2 = .ok (.iconst 1, 1) := by decide +kernel
theorem dX12_isArmy_3 : decode cX12_isArmy 3 = .ok (.invokestatic 145, 3) := by decide +kernel
theorem dX12_isArmy_6 : decode cX12_isArmy 6 = .ok (.ireturn, 1) := by decide +kernel
theorem dX12_of_0 : decode cX12_of 0 = .ok (.aload_n 0, 1) := by decide +kernel
theorem dX12_of_1 : decode cX12_of 1 = .ok (.getfield 7, 3) := by decide +kernel
theorem dX12_of_4 : decode cX12_of 4 = .ok (.aload_n 0, 1) := by decide +kernel
theorem dX12_of_5 : decode cX12_of 5 = .ok (.getfield 209, 3) := by decide +kernel
theorem dX12_of_8 : decode cX12_of 8 = .ok (.iload_n 1, 1) := by decide +kernel
theorem dX12_of_9 : decode cX12_of 9 = .ok (.iadd, 1) := by decide +kernel
theorem dX12_of_10 : decode cX12_of 10 = .ok (.iaload, 1) := by decide +kernel
theorem dX12_of_11 : decode cX12_of 11 = .ok (.ireturn, 1) := by decide +kernel
theorem dX12_orders_0 : decode cX12_orders 0 = .ok (.aload_n 0, 1) := by decide +kernel
theorem dX12_orders_1 : decode cX12_orders 1 = .ok (.bipush 15, 2) := by decide +kernel
theorem dX12_orders_3 : decode cX12_orders 3 = .ok (.iload_n 1, 1) := by decide +kernel
theorem dX12_orders_4 : decode cX12_orders 4 = .ok (.iadd, 1) := by decide +kernel
theorem dX12_orders_5 : decode cX12_orders 5 = .ok (.invokevirtual 212, 3) := by decide +kernel
theorem dX12_orders_8 : decode cX12_orders 8 = .ok (.ireturn, 1) := by decide +kernel
theorem dX12_orderAt_0 : decode cX12_orderAt 0 = .ok (.aload_n 0, 1) := by decide +kernel
theorem dX12_orderAt_1 : decode cX12_orderAt 1 = .ok (.getfield 209, 3) := by decide +kernel
theorem dX12_orderAt_4 : decode cX12_orderAt 4 = .ok (.bipush 17, 2) := by decide +kernel
theorem dX12_orderAt_6 : decode cX12_orderAt 6 = .ok (.iadd, 1) := by decide +kernel
theorem dX12_orderAt_7 : decode cX12_orderAt 7 = .ok (.bipush 36, 2) := by decide +kernel
theorem dX12_orderAt_9 : decode cX12_orderAt 9 = .ok (.iload_n 1, 1) := by decide +kernel
theorem dX12_orderAt_10 : decode cX12_orderAt 10 = .ok (.imul, 1) := by decide +kernel
theorem dX12_orderAt_11 : decode cX12_orderAt 11 = .ok (.iadd, 1) := by decide +kernel
theorem dX12_orderAt_12 : decode cX12_orderAt 12 = .ok (.bipush 6, 2) := by decide +kernel
theorem dX12_orderAt_14 : decode cX12_orderAt 14 = .ok (.iload_n 2, 1) := by decide +kernel
theorem dX12_orderAt_15 : decode cX12_orderAt 15 = .ok (.imul, 1) := by decide +kernel
theorem dX12_orderAt_16 : decode cX12_orderAt 16 = .ok (.iadd, 1) := by decide +kernel
theorem dX12_orderAt_17 : decode cX12_orderAt 17 = .ok (.ireturn, 1) := by decide +kernel
theorem dX12_lengthOf_0 : decode cX12_lengthOf 0 = .ok (.aload_n 0, 1) := by decide +kernel
theorem dX12_lengthOf_1 : decode cX12_lengthOf 1 = .ok (.getfield 7, 3) := by decide +kernel
theorem dX12_lengthOf_4 : decode cX12_lengthOf 4 = .ok (.aload_n 0, 1) := by decide +kernel
theorem dX12_lengthOf_5 : decode cX12_lengthOf 5 = .ok (.iload_n 1, 1) := by decide +kernel
theorem dX12_lengthOf_6 : decode cX12_lengthOf 6 = .ok (.iload_n 2, 1) := by decide +kernel
theorem dX12_lengthOf_7 : decode cX12_lengthOf 7 = .ok (.invokevirtual 215, 3) := by decide +kernel
theorem dX12_lengthOf_10 : decode cX12_lengthOf 10 = .ok (.iconst 1, 1) := by decide +kernel
theorem dX12_lengthOf_11 : decode cX12_lengthOf 11 = .ok (.iadd, 1) := by decide +kernel
theorem dX12_lengthOf_12 : decode cX12_lengthOf 12 = .ok (.iaload, 1) := by decide +kernel
theorem dX12_lengthOf_13 : decode cX12_lengthOf 13 = .ok (.ireturn, 1) := by decide +kernel
theorem dX12_beatOf_0 : decode cX12_beatOf 0 = .ok (.aload_n 0, 1) := by decide +kernel
theorem dX12_beatOf_1 : decode cX12_beatOf 1 = .ok (.getfield 7, 3) := by decide +kernel
theorem dX12_beatOf_4 : decode cX12_beatOf 4 = .ok (.aload_n 0, 1) := by decide +kernel
theorem dX12_beatOf_5 : decode cX12_beatOf 5 = .ok (.iload_n 1, 1) := by decide +kernel
theorem dX12_beatOf_6 : decode cX12_beatOf 6 = .ok (.iload_n 2, 1) := by decide +kernel
theorem dX12_beatOf_7 : decode cX12_beatOf 7 = .ok (.invokevirtual 215, 3) := by decide +kernel
theorem dX12_beatOf_10 : decode cX12_beatOf 10 = .ok (.iconst 2, 1) := by decide +kernel
theorem dX12_beatOf_11 : decode cX12_beatOf 11 = .ok (.iadd, 1) := by decide +kernel
theorem dX12_beatOf_12 : decode cX12_beatOf 12 = .ok (.iload_n 3, 1) := by decide +kernel
theorem dX12_beatOf_13 : decode cX12_beatOf 13 = .ok (.iadd, 1) := by decide +kernel
theorem dX12_beatOf_14 : decode cX12_beatOf 14 = .ok (.iaload, 1) := by decide +kernel
theorem dX12_beatOf_15 : decode cX12_beatOf 15 = .ok (.ireturn, 1) := by decide +kernel
theorem dX12_isOrder_0 : decode cX12_isOrder 0 = .ok (.iload_n 1, 1) := by decide +kernel
theorem dX12_isOrder_1 : decode cX12_isOrder 1 = .ok (.invokestatic 218, 3) := by decide +kernel
theorem dX12_isOrder_4 : decode cX12_isOrder 4 = .ok (.ifCond .eq 22, 3) := by decide +kernel
theorem dX12_isOrder_7 : decode cX12_isOrder 7 = .ok (.iload_n 2, 1) := by decide +kernel
theorem dX12_isOrder_8 : decode cX12_isOrder 8 = .ok (.iconst 0, 1) := by decide +kernel
theorem dX12_isOrder_9 : decode cX12_isOrder 9 = .ok (.aload_n 0, 1) := by decide +kernel
theorem dX12_isOrder_10 : decode cX12_isOrder 10 = .ok (.iload_n 1, 1) := by decide +kernel
theorem dX12_isOrder_11 : decode cX12_isOrder 11 = .ok (.invokevirtual 221, 3) := by decide +kernel
theorem dX12_isOrder_14 : decode cX12_isOrder 14 = .ok (.iconst 1, 1) := by decide +kernel
theorem dX12_isOrder_15 : decode cX12_isOrder 15 = .ok (.isub, 1) := by decide +kernel
theorem dX12_isOrder_16 : decode cX12_isOrder 16 = .ok (.invokestatic 145, 3) := by decide +kernel
theorem dX12_isOrder_19 : decode cX12_isOrder 19 = .ok (.ifCond .eq 7, 3) := by decide +kernel
theorem dX12_isOrder_22 : decode cX12_isOrder 22 = .ok (.iconst 1, 1) := by decide +kernel
theorem dX12_isOrder_23 : decode cX12_isOrder 23 = .ok (.goto 4, 3) := by decide +kernel
theorem dX12_isOrder_26 : decode cX12_isOrder 26 = .ok (.iconst 0, 1) := by decide +kernel
theorem dX12_isOrder_27 : decode cX12_isOrder 27 = .ok (.ireturn, 1) := by decide +kernel
theorem dX12_war_0 : decode cX12_war 0 = .ok (.aload_n 0, 1) := by decide +kernel
theorem dX12_war_1 : decode cX12_war 1 = .ok (.iload_n 1, 1) := by decide +kernel
theorem dX12_war_2 : decode cX12_war 2 = .ok (.invokevirtual 224, 3) := by decide +kernel
theorem dX12_war_5 : decode cX12_war 5 = .ok (.ifCond .ne 5, 3) := by decide +kernel
theorem dX12_war_8 : decode cX12_war 8 = .ok (.iconst (-1), 1) := by decide +kernel
theorem dX12_war_9 : decode cX12_war 9 = .ok (.ireturn, 1) := by decide +kernel
theorem dX12_war_10 : decode cX12_war 10 = .ok (.iload_n 2, 1) := by decide +kernel
theorem dX12_war_11 : decode cX12_war 11 = .ok (.iconst 0, 1) := by decide +kernel
theorem dX12_war_12 : decode cX12_war 12 = .ok (.iconst 2, 1) := by decide +kernel
theorem dX12_war_13 : decode cX12_war 13 = .ok (.invokestatic 145, 3) := by decide +kernel
theorem dX12_war_16 : decode cX12_war 16 = .ok (.ifCond .eq 9, 3) := by decide +kernel
theorem dX12_war_19 : decode cX12_war 19 = .ok (.aload_n 0, 1) := by decide +kernel
theorem dX12_war_20 : decode cX12_war 20 = .ok (.iload_n 2, 1) := by decide +kernel
theorem dX12_war_21 : decode cX12_war 21 = .ok (.invokevirtual 212, 3) := by decide +kernel
theorem dX12_war_24 : decode cX12_war 24 = .ok (.ireturn, 1) := by decide +kernel
theorem dX12_war_25 : decode cX12_war 25 = .ok (.iload_n 2, 1) := by decide +kernel
theorem dX12_war_26 : decode cX12_war 26 = .ok (.bipush 10, 2) := by decide +kernel
theorem dX12_war_28 : decode cX12_war 28 = .ok (.bipush 13, 2) := by decide +kernel
theorem dX12_war_30 : decode cX12_war 30 = .ok (.invokestatic 145, 3) := by decide +kernel
theorem dX12_war_33 : decode cX12_war 33 = .ok (.ifCond .eq 14, 3) := by decide +kernel
theorem dX12_war_36 : decode cX12_war 36 = .ok (.aload_n 0, 1) := by decide +kernel
theorem dX12_war_37 : decode cX12_war 37 = .ok (.iconst 3, 1) := by decide +kernel
theorem dX12_war_38 : decode cX12_war 38 = .ok (.iload_n 2, 1) := by decide +kernel
theorem dX12_war_39 : decode cX12_war 39 = .ok (.iadd, 1) := by decide +kernel
theorem dX12_war_40 : decode cX12_war 40 = .ok (.bipush 10, 2) := by decide +kernel
theorem dX12_war_42 : decode cX12_war 42 = .ok (.isub, 1) := by decide +kernel
theorem dX12_war_43 : decode cX12_war 43 = .ok (.invokevirtual 212, 3) := by decide +kernel
theorem dX12_war_46 : decode cX12_war 46 = .ok (.ireturn, 1) := by decide +kernel
theorem dX12_war_47 : decode cX12_war 47 = .ok (.iload_n 2, 1) := by decide +kernel
theorem dX12_war_48 : decode cX12_war 48 = .ok (.bipush 10, 2) := by decide +kernel
theorem dX12_war_50 : decode cX12_war 50 = .ok (.irem, 1) := by decide +kernel
theorem dX12_war_51 : decode cX12_war 51 = .ok (.istore_n 3, 1) := by decide +kernel
theorem dX12_war_52 : decode cX12_war 52 = .ok (.iload_n 2, 1) := by decide +kernel
theorem dX12_war_53 : decode cX12_war 53 = .ok (.bipush 20, 2) := by decide +kernel
theorem dX12_war_55 : decode cX12_war 55 = .ok (.bipush 69, 2) := by decide +kernel
theorem dX12_war_57 : decode cX12_war 57 = .ok (.invokestatic 145, 3) := by decide +kernel
theorem dX12_war_60 : decode cX12_war 60 = .ok (.ifCond .eq 30, 3) := by decide +kernel
theorem dX12_war_63 : decode cX12_war 63 = .ok (.iload_n 3, 1) := by decide +kernel
theorem dX12_war_64 : decode cX12_war 64 = .ok (.invokestatic 218, 3) := by decide +kernel
theorem dX12_war_67 : decode cX12_war 67 = .ok (.ifCond .eq 23, 3) := by decide +kernel
theorem dX12_war_70 : decode cX12_war 70 = .ok (.aload_n 0, 1) := by decide +kernel
theorem dX12_war_71 : decode cX12_war 71 = .ok (.bipush 7, 2) := by decide +kernel
theorem dX12_war_73 : decode cX12_war 73 = .ok (.iconst 2, 1) := by decide +kernel
theorem dX12_war_74 : decode cX12_war 74 = .ok (.iload_n 2, 1) := by decide +kernel
theorem dX12_war_75 : decode cX12_war 75 = .ok (.bipush 10, 2) := by decide +kernel
theorem dX12_war_77 : decode cX12_war 77 = .ok (.idiv, 1) := by decide +kernel
theorem dX12_war_78 : decode cX12_war 78 = .ok (.iconst 2, 1) := by decide +kernel
theorem dX12_war_79 : decode cX12_war 79 = .ok (.isub, 1) := by decide +kernel
theorem dX12_war_80 : decode cX12_war 80 = .ok (.imul, 1) := by decide +kernel
theorem dX12_war_81 : decode cX12_war 81 = .ok (.iadd, 1) := by decide +kernel
theorem dX12_war_82 : decode cX12_war 82 = .ok (.iload_n 3, 1) := by decide +kernel
theorem dX12_war_83 : decode cX12_war 83 = .ok (.iadd, 1) := by decide +kernel
theorem dX12_war_84 : decode cX12_war 84 = .ok (.invokevirtual 212, 3) := by decide +kernel
theorem dX12_war_87 : decode cX12_war 87 = .ok (.goto 4, 3) := by decide +kernel
theorem dX12_war_90 : decode cX12_war 90 = .ok (.iconst (-1), 1) := by decide +kernel
theorem dX12_war_91 : decode cX12_war 91 = .ok (.ireturn, 1) := by decide +kernel
theorem dX12_order_0 : decode cX12_order 0 = .ok (.aload_n 0, 1) := by decide +kernel
theorem dX12_order_1 : decode cX12_order 1 = .ok (.iload_n 1, 1) := by decide +kernel
theorem dX12_order_2 : decode cX12_order 2 = .ok (.invokevirtual 224, 3) := by decide +kernel
theorem dX12_order_5 : decode cX12_order 5 = .ok (.ifCond .eq 12, 3) := by decide +kernel
theorem dX12_order_8 : decode cX12_order 8 = .ok (.aload_n 0, 1) := by decide +kernel
theorem dX12_order_9 : decode cX12_order 9 = .ok (.iload_n 2, 1) := by decide +kernel
theorem dX12_order_10 : decode cX12_order 10 = .ok (.iload_n 3, 1) := by decide +kernel
theorem dX12_order_11 : decode cX12_order 11 = .ok (.invokevirtual 227, 3) := by decide +kernel
theorem dX12_order_14 : decode cX12_order 14 = .ok (.ifCond .ne 5, 3) := by decide +kernel
theorem dX12_order_17 : decode cX12_order 17 = .ok (.iconst (-1), 1) := by decide +kernel
theorem dX12_order_18 : decode cX12_order 18 = .ok (.ireturn, 1) := by decide +kernel
theorem dX12_order_19 : decode cX12_order 19 = .ok (.iload 4, 2) := by decide +kernel
theorem dX12_order_21 : decode cX12_order 21 = .ok (.iconst 0, 1) := by decide +kernel
theorem dX12_order_22 : decode cX12_order 22 = .ok (.iconst 1, 1) := by decide +kernel
theorem dX12_order_23 : decode cX12_order 23 = .ok (.invokestatic 145, 3) := by decide +kernel
theorem dX12_order_26 : decode cX12_order 26 = .ok (.ifCond .eq 18, 3) := by decide +kernel
theorem dX12_order_29 : decode cX12_order 29 = .ok (.aload_n 0, 1) := by decide +kernel
theorem dX12_order_30 : decode cX12_order 30 = .ok (.getfield 7, 3) := by decide +kernel
theorem dX12_order_33 : decode cX12_order 33 = .ok (.aload_n 0, 1) := by decide +kernel
theorem dX12_order_34 : decode cX12_order 34 = .ok (.iload_n 2, 1) := by decide +kernel
theorem dX12_order_35 : decode cX12_order 35 = .ok (.iload_n 3, 1) := by decide +kernel
theorem dX12_order_36 : decode cX12_order 36 = .ok (.invokevirtual 215, 3) := by decide +kernel
theorem dX12_order_39 : decode cX12_order 39 = .ok (.iload 4, 2) := by decide +kernel
theorem dX12_order_41 : decode cX12_order 41 = .ok (.iadd, 1) := by decide +kernel
theorem dX12_order_42 : decode cX12_order 42 = .ok (.iaload, 1) := by decide +kernel
theorem dX12_order_43 : decode cX12_order 43 = .ok (.ireturn, 1) := by decide +kernel
theorem dX12_order_44 : decode cX12_order 44 = .ok (.iload 4, 2) := by decide +kernel
theorem dX12_order_46 : decode cX12_order 46 = .ok (.bipush 10, 2) := by decide +kernel
theorem dX12_order_48 : decode cX12_order 48 = .ok (.bipush 9, 2) := by decide +kernel
theorem dX12_order_50 : decode cX12_order 50 = .ok (.aload_n 0, 1) := by decide +kernel
theorem dX12_order_51 : decode cX12_order 51 = .ok (.iload_n 2, 1) := by decide +kernel
theorem dX12_order_52 : decode cX12_order 52 = .ok (.iload_n 3, 1) := by decide +kernel
theorem dX12_order_53 : decode cX12_order 53 = .ok (.invokevirtual 230, 3) := by decide +kernel
theorem dX12_order_56 : decode cX12_order 56 = .ok (.iadd, 1) := by decide +kernel
theorem dX12_order_57 : decode cX12_order 57 = .ok (.invokestatic 145, 3) := by decide +kernel
theorem dX12_order_60 : decode cX12_order 60 = .ok (.ifCond .eq 17, 3) := by decide +kernel
theorem dX12_order_63 : decode cX12_order 63 = .ok (.aload_n 0, 1) := by decide +kernel
theorem dX12_order_64 : decode cX12_order 64 = .ok (.iload_n 2, 1) := by decide +kernel
theorem dX12_order_65 : decode cX12_order 65 = .ok (.iload_n 3, 1) := by decide +kernel
theorem dX12_order_66 : decode cX12_order 66 = .ok (.iload 4, 2) := by decide +kernel
theorem dX12_order_68 : decode cX12_order 68 = .ok (.bipush 10, 2) := by decide +kernel
theorem dX12_order_70 : decode cX12_order 70 = .ok (.isub, 1) := by decide +kernel
theorem dX12_order_71 : decode cX12_order 71 = .ok (.invokevirtual 233, 3) := by decide +kernel
theorem dX12_order_74 : decode cX12_order 74 = .ok (.goto 4, 3) := by decide +kernel
theorem dX12_order_77 : decode cX12_order 77 = .ok (.iconst (-1), 1) := by decide +kernel
theorem dX12_order_78 : decode cX12_order 78 = .ok (.ireturn, 1) := by decide +kernel
theorem dX12_isScore_0 : decode cX12_isScore 0 = .ok (.aload_n 0, 1) := by decide +kernel
theorem dX12_isScore_1 : decode cX12_isScore 1 = .ok (.iconst 1, 1) := by decide +kernel
theorem dX12_isScore_2 : decode cX12_isScore 2 = .ok (.iload_n 1, 1) := by decide +kernel
theorem dX12_isScore_3 : decode cX12_isScore 3 = .ok (.invokevirtual 183, 3) := by decide +kernel
theorem dX12_isScore_6 : decode cX12_isScore 6 = .ok (.ifCond .ne 5, 3) := by decide +kernel
theorem dX12_isScore_9 : decode cX12_isScore 9 = .ok (.iconst 0, 1) := by decide +kernel
theorem dX12_isScore_10 : decode cX12_isScore 10 = .ok (.ireturn, 1) := by decide +kernel
theorem dX12_isScore_11 : decode cX12_isScore 11 = .ok (.aload_n 0, 1) := by decide +kernel
theorem dX12_isScore_12 : decode cX12_isScore 12 = .ok (.iconst 1, 1) := by decide +kernel
theorem dX12_isScore_13 : decode cX12_isScore 13 = .ok (.iload_n 1, 1) := by decide +kernel
theorem dX12_isScore_14 : decode cX12_isScore 14 = .ok (.invokestatic 206, 3) := by decide +kernel
theorem dX12_isScore_17 : decode cX12_isScore 17 = .ok (.putfield 237, 3) := by decide +kernel
theorem dX12_isScore_20 : decode cX12_isScore 20 = .ok (.iconst 1, 1) := by decide +kernel
theorem dX12_isScore_21 : decode cX12_isScore 21 = .ok (.ireturn, 1) := by decide +kernel
theorem dX12_given_0 : decode cX12_given 0 = .ok (.aload_n 0, 1) := by decide +kernel
theorem dX12_given_1 : decode cX12_given 1 = .ok (.iload_n 1, 1) := by decide +kernel
theorem dX12_given_2 : decode cX12_given 2 = .ok (.invokevirtual 240, 3) := by decide +kernel
theorem dX12_given_5 : decode cX12_given 5 = .ok (.ifCond .eq 10, 3) := by decide +kernel
theorem dX12_given_8 : decode cX12_given 8 = .ok (.iload_n 2, 1) := by decide +kernel
theorem dX12_given_9 : decode cX12_given 9 = .ok (.invokestatic 218, 3) := by decide +kernel
theorem dX12_given_12 : decode cX12_given 12 = .ok (.ifCond .ne 5, 3) := by decide +kernel
theorem dX12_given_15 : decode cX12_given 15 = .ok (.iconst (-1), 1) := by decide +kernel
theorem dX12_given_16 : decode cX12_given 16 = .ok (.ireturn, 1) := by decide +kernel
theorem dX12_given_17 : decode cX12_given 17 = .ok (.iload_n 3, 1) := by decide +kernel
theorem dX12_given_18 : decode cX12_given 18 = .ok (.iconst (-1), 1) := by decide +kernel
theorem dX12_given_19 : decode cX12_given 19 = .ok (.if_icmp .ne 17, 3) := by decide +kernel
theorem dX12_given_22 : decode cX12_given 22 = .ok (.aload_n 0, 1) := by decide +kernel
theorem dX12_given_23 : decode cX12_given 23 = .ok (.getfield 7, 3) := by decide +kernel
theorem dX12_given_26 : decode cX12_given 26 = .ok (.aload_n 0, 1) := by decide +kernel
theorem dX12_given_27 : decode cX12_given 27 = .ok (.getfield 237, 3) := by decide +kernel
theorem dX12_given_30 : decode cX12_given 30 = .ok (.iload_n 2, 1) := by decide +kernel
theorem dX12_given_31 : decode cX12_given 31 = .ok (.iadd, 1) := by decide +kernel
theorem dX12_given_32 : decode cX12_given 32 = .ok (.iaload, 1) := by decide +kernel
theorem dX12_given_33 : decode cX12_given 33 = .ok (.goto 46, 3) := by decide +kernel
theorem dX12_given_36 : decode cX12_given 36 = .ok (.iload_n 3, 1) := by decide +kernel
theorem dX12_given_37 : decode cX12_given 37 = .ok (.iconst 0, 1) := by decide +kernel
theorem dX12_given_38 : decode cX12_given 38 = .ok (.aload_n 0, 1) := by decide +kernel
theorem dX12_given_39 : decode cX12_given 39 = .ok (.getfield 7, 3) := by decide +kernel
theorem dX12_given_42 : decode cX12_given 42 = .ok (.aload_n 0, 1) := by decide +kernel
theorem dX12_given_43 : decode cX12_given 43 = .ok (.getfield 237, 3) := by decide +kernel
theorem dX12_given_46 : decode cX12_given 46 = .ok (.iload_n 2, 1) := by decide +kernel
theorem dX12_given_47 : decode cX12_given 47 = .ok (.iadd, 1) := by decide +kernel
theorem dX12_given_48 : decode cX12_given 48 = .ok (.iaload, 1) := by decide +kernel
theorem dX12_given_49 : decode cX12_given 49 = .ok (.iconst 1, 1) := by decide +kernel
theorem dX12_given_50 : decode cX12_given 50 = .ok (.isub, 1) := by decide +kernel
theorem dX12_given_51 : decode cX12_given 51 = .ok (.invokestatic 145, 3) := by decide +kernel
theorem dX12_given_54 : decode cX12_given 54 = .ok (.ifCond .eq 24, 3) := by decide +kernel
theorem dX12_given_57 : decode cX12_given 57 = .ok (.aload_n 0, 1) := by decide +kernel
theorem dX12_given_58 : decode cX12_given 58 = .ok (.getfield 7, 3) := by decide +kernel
theorem dX12_given_61 : decode cX12_given 61 = .ok (.aload_n 0, 1) := by decide +kernel
theorem dX12_given_62 : decode cX12_given 62 = .ok (.getfield 237, 3) := by decide +kernel
theorem dX12_given_65 : decode cX12_given 65 = .ok (.iconst 2, 1) := by decide +kernel
theorem dX12_given_66 : decode cX12_given 66 = .ok (.iadd, 1) := by decide +kernel
theorem dX12_given_67 : decode cX12_given 67 = .ok (.bipush 12, 2) := by decide +kernel
theorem dX12_given_69 : decode cX12_given 69 = .ok (.iload_n 2, 1) := by decide +kernel
theorem dX12_given_70 : decode cX12_given 70 = .ok (.imul, 1) := by decide +kernel
theorem dX12_given_71 : decode cX12_given 71 = .ok (.iadd, 1) := by decide +kernel
theorem dX12_given_72 : decode cX12_given 72 = .ok (.iload_n 3, 1) := by decide +kernel
theorem dX12_given_73 : decode cX12_given 73 = .ok (.iadd, 1) := by decide +kernel
theorem dX12_given_74 : decode cX12_given 74 = .ok (.iaload, 1) := by decide +kernel
theorem dX12_given_75 : decode cX12_given 75 = .ok (.goto 4, 3) := by decide +kernel
theorem dX12_given_78 : decode cX12_given 78 = .ok (.iconst (-1), 1) := by decide +kernel
theorem dX12_given_79 : decode cX12_given 79 = .ok (.ireturn, 1) := by decide +kernel
theorem dX12_laysRow_0 : decode cX12_laysRow 0 = .ok (.aload_n 0, 1) := by decide +kernel
theorem dX12_laysRow_1 : decode cX12_laysRow 1 = .ok (.iconst 0, 1) := by decide +kernel
theorem dX12_laysRow_2 : decode cX12_laysRow 2 = .ok (.putfield 243, 3) := by decide +kernel
theorem dX12_laysRow_5 : decode cX12_laysRow 5 = .ok (.iconst 0, 1) := by decide +kernel
theorem dX12_laysRow_6 : decode cX12_laysRow 6 = .ok (.istore_n 1, 1) := by decide +kernel
theorem dX12_laysRow_7 : decode cX12_laysRow 7 = .ok (.iconst 0, 1) := by decide +kernel
theorem dX12_laysRow_8 : decode cX12_laysRow 8 = .ok (.istore_n 2, 1) := by decide +kernel
theorem dX12_laysRow_9 : decode cX12_laysRow 9 = .ok (.iload_n 1, 1) := by decide +kernel
theorem dX12_laysRow_10 : decode cX12_laysRow 10 = .ok (.aload_n 0, 1) := by decide +kernel
theorem dX12_laysRow_11 : decode cX12_laysRow 11 = .ok (.getfield 23, 3) := by decide +kernel
theorem dX12_laysRow_14 : decode cX12_laysRow 14 = .ok (.iconst 0, 1) := by decide +kernel
theorem dX12_laysRow_15 : decode cX12_laysRow 15 = .ok (.iaload, 1) := by decide +kernel
theorem dX12_laysRow_16 : decode cX12_laysRow 16 = .ok (.if_icmp .lt 13, 3) := by decide +kernel
theorem dX12_laysRow_19 : decode cX12_laysRow 19 = .ok (.iload_n 2, 1) := by decide +kernel
theorem dX12_laysRow_20 : decode cX12_laysRow 20 = .ok (.aload_n 0, 1) := by decide +kernel
theorem dX12_laysRow_21 : decode cX12_laysRow 21 = .ok (.getfield 23, 3) := by decide +kernel
theorem dX12_laysRow_24 : decode cX12_laysRow 24 = .ok (.iconst 1, 1) := by decide +kernel
theorem dX12_laysRow_25 : decode cX12_laysRow 25 = .ok (.iaload, 1) := by decide +kernel
theorem dX12_laysRow_26 : decode cX12_laysRow 26 = .ok (.if_icmp .ge 139, 3) := by decide +kernel
theorem dX12_laysRow_29 : decode cX12_laysRow 29 = .ok (.iconst 0, 1) := by decide +kernel
theorem dX12_laysRow_30 : decode cX12_laysRow 30 = .ok (.istore_n 3, 1) := by decide +kernel
theorem dX12_laysRow_31 : decode cX12_laysRow 31 = .ok (.iload_n 3, 1) := by decide +kernel
theorem dX12_laysRow_32 : decode cX12_laysRow 32 = .ok (.aload_n 0, 1) := by decide +kernel
theorem dX12_laysRow_33 : decode cX12_laysRow 33 = .ok (.iconst 0, 1) := by decide +kernel
theorem dX12_laysRow_34 : decode cX12_laysRow 34 = .ok (.invokevirtual 212, 3) := by decide +kernel
theorem dX12_laysRow_37 : decode cX12_laysRow 37 = .ok (.if_icmp .ge 57, 3) := by decide +kernel
theorem dX12_laysRow_40 : decode cX12_laysRow 40 = .ok (.iload_n 1, 1) := by decide +kernel
theorem dX12_laysRow_41 : decode cX12_laysRow 41 = .ok (.aload_n 0, 1) := by decide +kernel
theorem dX12_laysRow_42 : decode cX12_laysRow 42 = .ok (.getfield 23, 3) := by decide +kernel
theorem dX12_laysRow_45 : decode cX12_laysRow 45 = .ok (.iconst 0, 1) := by decide +kernel
theorem dX12_laysRow_46 : decode cX12_laysRow 46 = .ok (.iaload, 1) := by decide +kernel
theorem dX12_laysRow_47 : decode cX12_laysRow 47 = .ok (.if_icmp .ge 47, 3) := by decide +kernel
theorem dX12_laysRow_50 : decode cX12_laysRow 50 = .ok (.aload_n 0, 1) := by decide +kernel
theorem dX12_laysRow_51 : decode cX12_laysRow 51 = .ok (.getfield 26, 3) := by decide +kernel
theorem dX12_laysRow_54 : decode cX12_laysRow 54 = .ok (.aload_n 0, 1) := by decide +kernel
theorem dX12_laysRow_55 : decode cX12_laysRow 55 = .ok (.getfield 243, 3) := by decide +kernel
theorem dX12_laysRow_58 : decode cX12_laysRow 58 = .ok (.aload_n 0, 1) := by decide +kernel
theorem dX12_laysRow_59 : decode cX12_laysRow 59 = .ok (.getfield 20, 3) := by decide +kernel
theorem dX12_laysRow_62 : decode cX12_laysRow 62 = .ok (.iload_n 1, 1) := by decide +kernel
theorem dX12_laysRow_63 : decode cX12_laysRow 63 = .ok (.iaload, 1) := by decide +kernel
theorem dX12_laysRow_64 : decode cX12_laysRow 64 = .ok (.iastore, 1) := by decide +kernel
theorem dX12_laysRow_65 : decode cX12_laysRow 65 = .ok (.aload_n 0, 1) := by decide +kernel
theorem dX12_laysRow_66 : decode cX12_laysRow 66 = .ok (.getfield 29, 3) := by decide +kernel
theorem dX12_laysRow_69 : decode cX12_laysRow 69 = .ok (.aload_n 0, 1) := by decide +kernel
theorem dX12_laysRow_70 : decode cX12_laysRow 70 = .ok (.getfield 243, 3) := by decide +kernel
theorem dX12_laysRow_73 : decode cX12_laysRow 73 = .ok (.iconst 0, 1) := by decide +kernel
theorem dX12_laysRow_74 : decode cX12_laysRow 74 = .ok (.iastore, 1) := by decide +kernel
theorem dX12_laysRow_75 : decode cX12_laysRow 75 = .ok (.aload_n 0, 1) := by decide +kernel
theorem dX12_laysRow_76 : decode cX12_laysRow 76 = .ok (.dup, 1) := by decide +kernel
theorem dX12_laysRow_77 : decode cX12_laysRow 77 = .ok (.getfield 243, 3) := by decide +kernel
theorem dX12_laysRow_80 : decode cX12_laysRow 80 = .ok (.iconst 1, 1) := by decide +kernel
theorem dX12_laysRow_81 : decode cX12_laysRow 81 = .ok (.iadd, 1) := by decide +kernel
theorem dX12_laysRow_82 : decode cX12_laysRow 82 = .ok (.putfield 243, 3) := by decide +kernel
theorem dX12_laysRow_85 : decode cX12_laysRow 85 = .ok (.iinc 1 1, 3) := by decide +kernel
theorem dX12_laysRow_88 : decode cX12_laysRow 88 = .ok (.iinc 3 1, 3) := by decide +kernel
theorem dX12_laysRow_91 : decode cX12_laysRow 91 = .ok (.goto (-60), 3) := by decide +kernel
theorem dX12_laysRow_94 : decode cX12_laysRow 94 = .ok (.iconst 0, 1) := by decide +kernel
theorem dX12_laysRow_95 : decode cX12_laysRow 95 = .ok (.istore_n 3, 1) := by decide +kernel
theorem dX12_laysRow_96 : decode cX12_laysRow 96 = .ok (.iload_n 3, 1) := by decide +kernel
theorem dX12_laysRow_97 : decode cX12_laysRow 97 = .ok (.aload_n 0, 1) := by decide +kernel
theorem dX12_laysRow_98 : decode cX12_laysRow 98 = .ok (.iconst 0, 1) := by decide +kernel
theorem dX12_laysRow_99 : decode cX12_laysRow 99 = .ok (.invokevirtual 212, 3) := by decide +kernel
theorem dX12_laysRow_102 : decode cX12_laysRow 102 = .ok (.if_icmp .ge 60, 3) := by decide +kernel
theorem dX12_laysRow_105 : decode cX12_laysRow 105 = .ok (.iload_n 2, 1) := by decide +kernel
theorem dX12_laysRow_106 : decode cX12_laysRow 106 = .ok (.aload_n 0, 1) := by decide +kernel
theorem dX12_laysRow_107 : decode cX12_laysRow 107 = .ok (.getfield 23, 3) := by decide +kernel
theorem dX12_laysRow_110 : decode cX12_laysRow 110 = .ok (.iconst 1, 1) := by decide +kernel
theorem dX12_laysRow_111 : decode cX12_laysRow 111 = .ok (.iaload, 1) := by decide +kernel
theorem dX12_laysRow_112 : decode cX12_laysRow 112 = .ok (.if_icmp .ge 50, 3) := by decide +kernel
theorem dX12_laysRow_115 : decode cX12_laysRow 115 = .ok (.aload_n 0, 1) := by decide +kernel
theorem dX12_laysRow_116 : decode cX12_laysRow 116 = .ok (.getfield 26, 3) := by decide +kernel
theorem dX12_laysRow_119 : decode cX12_laysRow 119 = .ok (.aload_n 0, 1) := by decide +kernel
theorem dX12_laysRow_120 : decode cX12_laysRow 120 = .ok (.getfield 243, 3) := by decide +kernel
theorem dX12_laysRow_123 : decode cX12_laysRow 123 = .ok (.aload_n 0, 1) := by decide +kernel
theorem dX12_laysRow_124 : decode cX12_laysRow 124 = .ok (.getfield 20, 3) := by decide +kernel
theorem dX12_laysRow_127 : decode cX12_laysRow 127 = .ok (.bipush 12, 2) := by decide +kernel
theorem dX12_laysRow_129 : decode cX12_laysRow 129 = .ok (.iload_n 2, 1) := by decide +kernel
theorem dX12_laysRow_130 : decode cX12_laysRow 130 = .ok (.iadd, 1) := by decide +kernel
theorem dX12_laysRow_131 : decode cX12_laysRow 131 = .ok (.iaload, 1) := by decide +kernel
theorem dX12_laysRow_132 : decode cX12_laysRow 132 = .ok (.iastore, 1) := by decide +kernel
theorem dX12_laysRow_133 : decode cX12_laysRow 133 = .ok (.aload_n 0, 1) := by decide +kernel
theorem dX12_laysRow_134 : decode cX12_laysRow 134 = .ok (.getfield 29, 3) := by decide +kernel
theorem dX12_laysRow_137 : decode cX12_laysRow 137 = .ok (.aload_n 0, 1) := by decide +kernel
theorem dX12_laysRow_138 : decode cX12_laysRow 138 = .ok (.getfield 243, 3) := by decide +kernel
theorem dX12_laysRow_141 : decode cX12_laysRow 141 = .ok (.iconst 1, 1) := by decide +kernel
theorem dX12_laysRow_142 : decode cX12_laysRow 142 = .ok (.iastore, 1) := by decide +kernel
theorem dX12_laysRow_143 : decode cX12_laysRow 143 = .ok (.aload_n 0, 1) := by decide +kernel
theorem dX12_laysRow_144 : decode cX12_laysRow 144 = .ok (.dup, 1) := by decide +kernel
theorem dX12_laysRow_145 : decode cX12_laysRow 145 = .ok (.getfield 243, 3) := by decide +kernel
theorem dX12_laysRow_148 : decode cX12_laysRow 148 = .ok (.iconst 1, 1) := by decide +kernel
theorem dX12_laysRow_149 : decode cX12_laysRow 149 = .ok (.iadd, 1) := by decide +kernel
theorem dX12_laysRow_150 : decode cX12_laysRow 150 = .ok (.putfield 243, 3) := by decide +kernel
theorem dX12_laysRow_153 : decode cX12_laysRow 153 = .ok (.iinc 2 1, 3) := by decide +kernel
theorem dX12_laysRow_156 : decode cX12_laysRow 156 = .ok (.iinc 3 1, 3) := by decide +kernel
theorem dX12_laysRow_159 : decode cX12_laysRow 159 = .ok (.goto (-63), 3) := by decide +kernel
theorem dX12_laysRow_162 : decode cX12_laysRow 162 = .ok (.goto (-153), 3) := by decide +kernel
theorem dX12_laysRow_165 : decode cX12_laysRow 165 = .ok (.return_, 1) := by decide +kernel
theorem dX12_plays_0 : decode cX12_plays 0 = .ok (.iconst 0, 1) := by decide +kernel
theorem dX12_plays_1 : decode cX12_plays 1 = .ok (.istore_n 2, 1) := by decide +kernel
theorem dX12_plays_2 : decode cX12_plays 2 = .ok (.iload_n 2, 1) := by decide +kernel
theorem dX12_plays_3 : decode cX12_plays 3 = .ok (.aload_n 0, 1) := by decide +kernel
theorem dX12_plays_4 : decode cX12_plays 4 = .ok (.getfield 243, 3) := by decide +kernel
theorem dX12_plays_7 : decode cX12_plays 7 = .ok (.if_icmp .ge 77, 3) := by decide +kernel
theorem dX12_plays_10 : decode cX12_plays 10 = .ok (.iload_n 1, 1) := by decide +kernel
theorem dX12_plays_11 : decode cX12_plays 11 = .ok (.iload_n 2, 1) := by decide +kernel
theorem dX12_plays_12 : decode cX12_plays 12 = .ok (.ishr, 1) := by decide +kernel
theorem dX12_plays_13 : decode cX12_plays 13 = .ok (.iconst 1, 1) := by decide +kernel
theorem dX12_plays_14 : decode cX12_plays 14 = .ok (.iand, 1) := by decide +kernel
theorem dX12_plays_15 : decode cX12_plays 15 = .ok (.iconst 1, 1) := by decide +kernel
theorem dX12_plays_16 : decode cX12_plays 16 = .ok (.if_icmp .eq 23, 3) := by decide +kernel
theorem dX12_plays_19 : decode cX12_plays 19 = .ok (.aload_n 0, 1) := by decide +kernel
theorem dX12_plays_20 : decode cX12_plays 20 = .ok (.iconst 1, 1) := by decide +kernel
theorem dX12_plays_21 : decode cX12_plays 21 = .ok (.invokevirtual 212, 3) := by decide +kernel
theorem dX12_plays_24 : decode cX12_plays 24 = .ok (.ifCond .eq 19, 3) := by decide +kernel
theorem dX12_plays_27 : decode cX12_plays 27 = .ok (.iload_n 2, 1) := by decide +kernel
theorem dX12_plays_28 : decode cX12_plays 28 = .ok (.iconst 1, 1) := by decide +kernel
theorem dX12_plays_29 : decode cX12_plays 29 = .ok (.iadd, 1) := by decide +kernel
theorem dX12_plays_30 : decode cX12_plays 30 = .ok (.aload_n 0, 1) := by decide +kernel
theorem dX12_plays_31 : decode cX12_plays 31 = .ok (.iconst 1, 1) := by decide +kernel
theorem dX12_plays_32 : decode cX12_plays 32 = .ok (.invokevirtual 212, 3) := by decide +kernel
theorem dX12_plays_35 : decode cX12_plays 35 = .ok (.irem, 1) := by decide +kernel
theorem dX12_plays_36 : decode cX12_plays 36 = .ok (.ifCond .ne 7, 3) := by decide +kernel
theorem dX12_plays_39 : decode cX12_plays 39 = .ok (.iconst 1, 1) := by decide +kernel
theorem dX12_plays_40 : decode cX12_plays 40 = .ok (.goto 4, 3) := by decide +kernel
theorem dX12_plays_43 : decode cX12_plays 43 = .ok (.iconst 0, 1) := by decide +kernel
theorem dX12_plays_44 : decode cX12_plays 44 = .ok (.istore_n 3, 1) := by decide +kernel
theorem dX12_plays_45 : decode cX12_plays 45 = .ok (.aload_n 0, 1) := by decide +kernel
theorem dX12_plays_46 : decode cX12_plays 46 = .ok (.getfield 32, 3) := by decide +kernel
theorem dX12_plays_49 : decode cX12_plays 49 = .ok (.iload_n 2, 1) := by decide +kernel
theorem dX12_plays_50 : decode cX12_plays 50 = .ok (.aload_n 0, 1) := by decide +kernel
theorem dX12_plays_51 : decode cX12_plays 51 = .ok (.iconst 3, 1) := by decide +kernel
theorem dX12_plays_52 : decode cX12_plays 52 = .ok (.iload_n 3, 1) := by decide +kernel
theorem dX12_plays_53 : decode cX12_plays 53 = .ok (.ifCond .eq 7, 3) := by decide +kernel
theorem dX12_plays_56 : decode cX12_plays 56 = .ok (.iconst 0, 1) := by decide +kernel
theorem dX12_plays_57 : decode cX12_plays 57 = .ok (.goto 9, 3) := by decide +kernel
theorem dX12_plays_60 : decode cX12_plays 60 = .ok (.aload_n 0, 1) := by decide +kernel
theorem dX12_plays_61 : decode cX12_plays 61 = .ok (.getfield 26, 3) := by decide +kernel
theorem dX12_plays_64 : decode cX12_plays 64 = .ok (.iload_n 2, 1) := by decide +kernel
theorem dX12_plays_65 : decode cX12_plays 65 = .ok (.iaload, 1) := by decide +kernel
theorem dX12_plays_66 : decode cX12_plays 66 = .ok (.iadd, 1) := by decide +kernel
theorem dX12_plays_67 : decode cX12_plays 67 = .ok (.invokevirtual 212, 3) := by decide +kernel
theorem dX12_plays_70 : decode cX12_plays 70 = .ok (.iastore, 1) := by decide +kernel
theorem dX12_plays_71 : decode cX12_plays 71 = .ok (.aload_n 0, 1) := by decide +kernel
theorem dX12_plays_72 : decode cX12_plays 72 = .ok (.getfield 35, 3) := by decide +kernel
theorem dX12_plays_75 : decode cX12_plays 75 = .ok (.iload_n 2, 1) := by decide +kernel
theorem dX12_plays_76 : decode cX12_plays 76 = .ok (.iconst 0, 1) := by decide +kernel
theorem dX12_plays_77 : decode cX12_plays 77 = .ok (.bastore, 1) := by decide +kernel
theorem dX12_plays_78 : decode cX12_plays 78 = .ok (.iinc 2 1, 3) := by decide +kernel
theorem dX12_plays_81 : decode cX12_plays 81 = .ok (.goto (-79), 3) := by decide +kernel
theorem dX12_plays_84 : decode cX12_plays 84 = .ok (.aload_n 0, 1) := by decide +kernel
theorem dX12_plays_85 : decode cX12_plays 85 = .ok (.iconst 2, 1) := by decide +kernel
theorem dX12_plays_86 : decode cX12_plays 86 = .ok (.invokevirtual 212, 3) := by decide +kernel
theorem dX12_plays_89 : decode cX12_plays 89 = .ok (.istore_n 2, 1) := by decide +kernel
theorem dX12_plays_90 : decode cX12_plays 90 = .ok (.iconst 0, 1) := by decide +kernel
theorem dX12_plays_91 : decode cX12_plays 91 = .ok (.istore_n 3, 1) := by decide +kernel
theorem dX12_plays_92 : decode cX12_plays 92 = .ok (.iload_n 3, 1) := by decide +kernel
theorem dX12_plays_93 : decode cX12_plays 93 = .ok (.iload_n 2, 1) := by decide +kernel
theorem dX12_plays_94 : decode cX12_plays 94 = .ok (.iadd, 1) := by decide +kernel
theorem dX12_plays_95 : decode cX12_plays 95 = .ok (.aload_n 0, 1) := by decide +kernel
theorem dX12_plays_96 : decode cX12_plays 96 = .ok (.getfield 243, 3) := by decide +kernel
theorem dX12_plays_99 : decode cX12_plays 99 = .ok (.if_icmp .ge 47, 3) := by decide +kernel
theorem dX12_plays_102 : decode cX12_plays 102 = .ok (.iload_n 2, 1) := by decide +kernel
theorem dX12_plays_103 : decode cX12_plays 103 = .ok (.ifCond .le 43, 3) := by decide +kernel
theorem dX12_plays_106 : decode cX12_plays 106 = .ok (.aload_n 0, 1) := by decide +kernel
theorem dX12_plays_107 : decode cX12_plays 107 = .ok (.getfield 35, 3) := by decide +kernel
theorem dX12_plays_110 : decode cX12_plays 110 = .ok (.iload_n 3, 1) := by decide +kernel
theorem dX12_plays_111 : decode cX12_plays 111 = .ok (.iload_n 2, 1) := by decide +kernel
theorem dX12_plays_112 : decode cX12_plays 112 = .ok (.iadd, 1) := by decide +kernel
theorem dX12_plays_113 : decode cX12_plays 113 = .ok (.aload_n 0, 1) := by decide +kernel
theorem dX12_plays_114 : decode cX12_plays 114 = .ok (.getfield 32, 3) := by decide +kernel
theorem dX12_plays_117 : decode cX12_plays 117 = .ok (.iload_n 3, 1) := by decide +kernel
theorem dX12_plays_118 : decode cX12_plays 118 = .ok (.iaload, 1) := by decide +kernel
theorem dX12_plays_119 : decode cX12_plays 119 = .ok (.iconst 2, 1) := by decide +kernel
theorem dX12_plays_120 : decode cX12_plays 120 = .ok (.if_icmp .ne 18, 3) := by decide +kernel
theorem dX12_plays_123 : decode cX12_plays 123 = .ok (.aload_n 0, 1) := by decide +kernel
theorem dX12_plays_124 : decode cX12_plays 124 = .ok (.getfield 32, 3) := by decide +kernel
theorem dX12_plays_127 : decode cX12_plays 127 = .ok (.iload_n 3, 1) := by decide +kernel
theorem dX12_plays_128 : decode cX12_plays 128 = .ok (.iload_n 2, 1) := by decide +kernel
theorem dX12_plays_129 : decode cX12_plays 129 = .ok (.iadd, 1) := by decide +kernel
theorem dX12_plays_130 : decode cX12_plays 130 = .ok (.iaload, 1) := by decide +kernel
theorem dX12_plays_131 : decode cX12_plays 131 = .ok (.ifCond .ne 7, 3) := by decide +kernel
theorem dX12_plays_134 : decode cX12_plays 134 = .ok (.iconst 1, 1) := by decide +kernel
theorem dX12_plays_135 : decode cX12_plays 135 = .ok (.goto 4, 3) := by decide +kernel
theorem dX12_plays_138 : decode cX12_plays 138 = .ok (.iconst 0, 1) := by decide +kernel
theorem dX12_plays_139 : decode cX12_plays 139 = .ok (.bastore, 1) := by decide +kernel
theorem dX12_plays_140 : decode cX12_plays 140 = .ok (.iinc 3 1, 3) := by decide +kernel
theorem dX12_plays_143 : decode cX12_plays 143 = .ok (.goto (-51), 3) := by decide +kernel
theorem dX12_plays_146 : decode cX12_plays 146 = .ok (.iconst 0, 1) := by decide +kernel
theorem dX12_plays_147 : decode cX12_plays 147 = .ok (.istore_n 3, 1) := by decide +kernel
theorem dX12_plays_148 : decode cX12_plays 148 = .ok (.iload_n 3, 1) := by decide +kernel
theorem dX12_plays_149 : decode cX12_plays 149 = .ok (.aload_n 0, 1) := by decide +kernel
theorem dX12_plays_150 : decode cX12_plays 150 = .ok (.getfield 243, 3) := by decide +kernel
theorem dX12_plays_153 : decode cX12_plays 153 = .ok (.if_icmp .ge 25, 3) := by decide +kernel
theorem dX12_plays_156 : decode cX12_plays 156 = .ok (.aload_n 0, 1) := by decide +kernel
theorem dX12_plays_157 : decode cX12_plays 157 = .ok (.getfield 35, 3) := by decide +kernel
theorem dX12_plays_160 : decode cX12_plays 160 = .ok (.iload_n 3, 1) := by decide +kernel
theorem dX12_plays_161 : decode cX12_plays 161 = .ok (.baload, 1) := by decide +kernel
theorem dX12_plays_162 : decode cX12_plays 162 = .ok (.ifCond .eq 10, 3) := by decide +kernel
theorem dX12_plays_165 : decode cX12_plays 165 = .ok (.aload_n 0, 1) := by decide +kernel
theorem dX12_plays_166 : decode cX12_plays 166 = .ok (.getfield 32, 3) := by decide +kernel
theorem dX12_plays_169 : decode cX12_plays 169 = .ok (.iload_n 3, 1) := by decide +kernel
theorem dX12_plays_170 : decode cX12_plays 170 = .ok (.iconst 1, 1) := by decide +kernel
theorem dX12_plays_171 : decode cX12_plays 171 = .ok (.iastore, 1) := by decide +kernel
theorem dX12_plays_172 : decode cX12_plays 172 = .ok (.iinc 3 1, 3) := by decide +kernel
theorem dX12_plays_175 : decode cX12_plays 175 = .ok (.goto (-27), 3) := by decide +kernel
theorem dX12_plays_178 : decode cX12_plays 178 = .ok (.return_, 1) := by decide +kernel
theorem dX12_takesScore_0 : decode cX12_takesScore 0 = .ok (.iconst 0, 1) := by decide +kernel
theorem dX12_takesScore_1 : decode cX12_takesScore 1 = .ok (.istore_n 1, 1) := by decide +kernel
theorem dX12_takesScore_2 : decode cX12_takesScore 2 = .ok (.iload_n 1, 1) := by decide +kernel
theorem dX12_takesScore_3 : decode cX12_takesScore 3 = .ok (.iconst 2, 1) := by decide +kernel
theorem dX12_takesScore_4 : decode cX12_takesScore 4 = .ok (.if_icmp .ge 73, 3) := by decide +kernel
theorem dX12_takesScore_7 : decode cX12_takesScore 7 = .ok (.aload_n 0, 1) := by decide +kernel
theorem dX12_takesScore_8 : decode cX12_takesScore 8 = .ok (.getfield 23, 3) := by decide +kernel
theorem dX12_takesScore_11 : decode cX12_takesScore 11 = .ok (.iload_n 1, 1) := by decide +kernel
theorem dX12_takesScore_12 : decode cX12_takesScore 12 = .ok (.aload_n 0, 1) := by decide +kernel
theorem dX12_takesScore_13 : decode cX12_takesScore 13 = .ok (.getfield 7, 3) := by decide +kernel
theorem dX12_takesScore_16 : decode cX12_takesScore 16 = .ok (.aload_n 0, 1) := by decide +kernel
theorem dX12_takesScore_17 : decode cX12_takesScore 17 = .ok (.getfield 237, 3) := by decide +kernel
theorem dX12_takesScore_20 : decode cX12_takesScore 20 = .ok (.iload_n 1, 1) := by decide +kernel
theorem dX12_takesScore_21 : decode cX12_takesScore 21 = .ok (.iadd, 1) := by decide +kernel
theorem dX12_takesScore_22 : decode cX12_takesScore 22 = .ok (.iaload, 1) := by decide +kernel
theorem dX12_takesScore_23 : decode cX12_takesScore 23 = .ok (.iastore, 1) := by decide +kernel
theorem dX12_takesScore_24 : decode cX12_takesScore 24 = .ok (.iconst 0, 1) := by decide +kernel
theorem dX12_takesScore_25 : decode cX12_takesScore 25 = .ok (.istore_n 2, 1) := by decide +kernel
theorem dX12_takesScore_26 : decode cX12_takesScore 26 = .ok (.iload_n 2, 1) := by decide +kernel
theorem dX12_takesScore_27 : decode cX12_takesScore 27 = .ok (.aload_n 0, 1) := by decide +kernel
theorem dX12_takesScore_28 : decode cX12_takesScore 28 = .ok (.getfield 23, 3) := by decide +kernel
theorem dX12_takesScore_31 : decode cX12_takesScore 31 = .ok (.iload_n 1, 1) := by decide +kernel
theorem dX12_takesScore_32 : decode cX12_takesScore 32 = .ok (.iaload, 1) := by decide +kernel
theorem dX12_takesScore_33 : decode cX12_takesScore 33 = .ok (.if_icmp .ge 38, 3) := by decide +kernel
theorem dX12_takesScore_36 : decode cX12_takesScore 36 = .ok (.aload_n 0, 1) := by decide +kernel
theorem dX12_takesScore_37 : decode cX12_takesScore 37 = .ok (.getfield 20, 3) := by decide +kernel
theorem dX12_takesScore_40 : decode cX12_takesScore 40 = .ok (.bipush 12, 2) := by decide +kernel
theorem dX12_takesScore_42 : decode cX12_takesScore 42 = .ok (.iload_n 1, 1) := by decide +kernel
theorem dX12_takesScore_43 : decode cX12_takesScore 43 = .ok (.imul, 1) := by decide +kernel
theorem dX12_takesScore_44 : decode cX12_takesScore 44 = .ok (.iload_n 2, 1) := by decide +kernel
theorem dX12_takesScore_45 : decode cX12_takesScore 45 = .ok (.iadd, 1) := by decide +kernel
theorem dX12_takesScore_46 : decode cX12_takesScore 46 = .ok (.aload_n 0, 1) := by decide +kernel
theorem dX12_takesScore_47 : decode cX12_takesScore 47 = .ok (.getfield 7, 3) := by decide +kernel
theorem dX12_takesScore_50 : decode cX12_takesScore 50 = .ok (.aload_n 0, 1) := by decide +kernel
theorem dX12_takesScore_51 : decode cX12_takesScore 51 = .ok (.getfield 237, 3) := by decide +kernel
theorem dX12_takesScore_54 : decode cX12_takesScore 54 = .ok (.iconst 2, 1) := by decide +kernel
theorem dX12_takesScore_55 : decode cX12_takesScore 55 = .ok (.iadd, 1) := by decide +kernel
theorem dX12_takesScore_56 : decode cX12_takesScore 56 = .ok (.bipush 12, 2) := by decide +kernel
theorem dX12_takesScore_58 : decode cX12_takesScore 58 = .ok (.iload_n 1, 1) := by decide +kernel
theorem dX12_takesScore_59 : decode cX12_takesScore 59 = .ok (.imul, 1) := by decide +kernel
theorem dX12_takesScore_60 : decode cX12_takesScore 60 = .ok (.iadd, 1) := by decide +kernel
theorem dX12_takesScore_61 : decode cX12_takesScore 61 = .ok (.iload_n 2, 1) := by decide +kernel
theorem dX12_takesScore_62 : decode cX12_takesScore 62 = .ok (.iadd, 1) := by decide +kernel
theorem dX12_takesScore_63 : decode cX12_takesScore 63 = .ok (.iaload, 1) := by decide +kernel
theorem dX12_takesScore_64 : decode cX12_takesScore 64 = .ok (.iastore, 1) := by decide +kernel
theorem dX12_takesScore_65 : decode cX12_takesScore 65 = .ok (.iinc 2 1, 3) := by decide +kernel
theorem dX12_takesScore_68 : decode cX12_takesScore 68 = .ok (.goto (-42), 3) := by decide +kernel
theorem dX12_takesScore_71 : decode cX12_takesScore 71 = .ok (.iinc 1 1, 3) := by decide +kernel
theorem dX12_takesScore_74 : decode cX12_takesScore 74 = .ok (.goto (-72), 3) := by decide +kernel
theorem dX12_takesScore_77 : decode cX12_takesScore 77 = .ok (.aload_n 0, 1) := by decide +kernel
theorem dX12_takesScore_78 : decode cX12_takesScore 78 = .ok (.invokevirtual 246, 3) := by decide +kernel
theorem dX12_takesScore_81 : decode cX12_takesScore 81 = .ok (.return_, 1) := by decide +kernel
theorem dX12_arePlayed_0 : decode cX12_arePlayed 0 = .ok (.aload_n 0, 1) := by decide +kernel
theorem dX12_arePlayed_1 : decode cX12_arePlayed 1 = .ok (.iload_n 1, 1) := by decide +kernel
theorem dX12_arePlayed_2 : decode cX12_arePlayed 2 = .ok (.invokevirtual 224, 3) := by decide +kernel
theorem dX12_arePlayed_5 : decode cX12_arePlayed 5 = .ok (.ifCond .eq 11, 3) := by decide +kernel
theorem dX12_arePlayed_8 : decode cX12_arePlayed 8 = .ok (.aload_n 0, 1) := by decide +kernel
theorem dX12_arePlayed_9 : decode cX12_arePlayed 9 = .ok (.iload_n 2, 1) := by decide +kernel
theorem dX12_arePlayed_10 : decode cX12_arePlayed 10 = .ok (.invokevirtual 240, 3) := by decide +kernel
theorem dX12_arePlayed_13 : decode cX12_arePlayed 13 = .ok (.ifCond .ne 5, 3) := by decide +kernel
theorem dX12_arePlayed_16 : decode cX12_arePlayed 16 = .ok (.iconst 0, 1) := by decide +kernel
theorem dX12_arePlayed_17 : decode cX12_arePlayed 17 = .ok (.ireturn, 1) := by decide +kernel
theorem dX12_arePlayed_18 : decode cX12_arePlayed 18 = .ok (.aload_n 0, 1) := by decide +kernel
theorem dX12_arePlayed_19 : decode cX12_arePlayed 19 = .ok (.invokevirtual 249, 3) := by decide +kernel
theorem dX12_arePlayed_22 : decode cX12_arePlayed 22 = .ok (.aload_n 0, 1) := by decide +kernel
theorem dX12_arePlayed_23 : decode cX12_arePlayed 23 = .ok (.iconst 0, 1) := by decide +kernel
theorem dX12_arePlayed_24 : decode cX12_arePlayed 24 = .ok (.invokevirtual 252, 3) := by decide +kernel
theorem dX12_arePlayed_27 : decode cX12_arePlayed 27 = .ok (.iconst 1, 1) := by decide +kernel
theorem dX12_arePlayed_28 : decode cX12_arePlayed 28 = .ok (.ireturn, 1) := by decide +kernel
theorem dX12_row_0 : decode cX12_row 0 = .ok (.aload_n 0, 1) := by decide +kernel
theorem dX12_row_1 : decode cX12_row 1 = .ok (.iload_n 1, 1) := by decide +kernel
theorem dX12_row_2 : decode cX12_row 2 = .ok (.iload_n 2, 1) := by decide +kernel
theorem dX12_row_3 : decode cX12_row 3 = .ok (.invokevirtual 255, 3) := by decide +kernel
theorem dX12_row_6 : decode cX12_row 6 = .ok (.ifCond .ne 6, 3) := by decide +kernel
theorem dX12_row_9 : decode cX12_row 9 = .ok (.bipush (-2), 2) := by decide +kernel
theorem dX12_row_11 : decode cX12_row 11 = .ok (.ireturn, 1) := by decide +kernel
theorem dX12_row_12 : decode cX12_row 12 = .ok (.iload_n 3, 1) := by decide +kernel
theorem dX12_row_13 : decode cX12_row 13 = .ok (.iconst (-1), 1) := by decide +kernel
theorem dX12_row_14 : decode cX12_row 14 = .ok (.if_icmp .ne 18, 3) := by decide +kernel
theorem dX12_row_17 : decode cX12_row 17 = .ok (.iload 4, 2) := by decide +kernel
theorem dX12_row_19 : decode cX12_row 19 = .ok (.ifCond .ne 10, 3) := by decide +kernel
theorem dX12_row_22 : decode cX12_row 22 = .ok (.aload_n 0, 1) := by decide +kernel
theorem dX12_row_23 : decode cX12_row 23 = .ok (.getfield 243, 3) := by decide +kernel
theorem dX12_row_26 : decode cX12_row 26 = .ok (.goto 5, 3) := by decide +kernel
theorem dX12_row_29 : decode cX12_row 29 = .ok (.bipush (-2), 2) := by decide +kernel
theorem dX12_row_31 : decode cX12_row 31 = .ok (.ireturn, 1) := by decide +kernel
theorem dX12_row_32 : decode cX12_row 32 = .ok (.iload_n 3, 1) := by decide +kernel
theorem dX12_row_33 : decode cX12_row 33 = .ok (.iconst 0, 1) := by decide +kernel
theorem dX12_row_34 : decode cX12_row 34 = .ok (.aload_n 0, 1) := by decide +kernel
theorem dX12_row_35 : decode cX12_row 35 = .ok (.getfield 243, 3) := by decide +kernel
theorem dX12_row_38 : decode cX12_row 38 = .ok (.iconst 1, 1) := by decide +kernel
theorem dX12_row_39 : decode cX12_row 39 = .ok (.isub, 1) := by decide +kernel
theorem dX12_row_40 : decode cX12_row 40 = .ok (.invokestatic 145, 3) := by decide +kernel
theorem dX12_row_43 : decode cX12_row 43 = .ok (.ifCond .ne 6, 3) := by decide +kernel
theorem dX12_row_46 : decode cX12_row 46 = .ok (.bipush (-2), 2) := by decide +kernel
theorem dX12_row_48 : decode cX12_row 48 = .ok (.ireturn, 1) := by decide +kernel
theorem dX12_row_49 : decode cX12_row 49 = .ok (.iload 4, 2) := by decide +kernel
theorem dX12_row_51 : decode cX12_row 51 = .ok (.tableswitch 65 0 3 #[29, 36, 43, 50], 29) := by decide +kernel
theorem dX12_row_80 : decode cX12_row 80 = .ok (.aload_n 0, 1) := by decide +kernel
theorem dX12_row_81 : decode cX12_row 81 = .ok (.getfield 26, 3) := by decide +kernel
theorem dX12_row_84 : decode cX12_row 84 = .ok (.iload_n 3, 1) := by decide +kernel
theorem dX12_row_85 : decode cX12_row 85 = .ok (.iaload, 1) := by decide +kernel
theorem dX12_row_86 : decode cX12_row 86 = .ok (.ireturn, 1) := by decide +kernel
theorem dX12_row_87 : decode cX12_row 87 = .ok (.aload_n 0, 1) := by decide +kernel
theorem dX12_row_88 : decode cX12_row 88 = .ok (.getfield 29, 3) := by decide +kernel
theorem dX12_row_91 : decode cX12_row 91 = .ok (.iload_n 3, 1) := by decide +kernel
theorem dX12_row_92 : decode cX12_row 92 = .ok (.iaload, 1) := by decide +kernel
theorem dX12_row_93 : decode cX12_row 93 = .ok (.ireturn, 1) := by decide +kernel
theorem dX12_row_94 : decode cX12_row 94 = .ok (.aload_n 0, 1) := by decide +kernel
theorem dX12_row_95 : decode cX12_row 95 = .ok (.getfield 32, 3) := by decide +kernel
theorem dX12_row_98 : decode cX12_row 98 = .ok (.iload_n 3, 1) := by decide +kernel
theorem dX12_row_99 : decode cX12_row 99 = .ok (.iaload, 1) := by decide +kernel
theorem dX12_row_100 : decode cX12_row 100 = .ok (.ireturn, 1) := by decide +kernel
theorem dX12_row_101 : decode cX12_row 101 = .ok (.aload_n 0, 1) := by decide +kernel
theorem dX12_row_102 : decode cX12_row 102 = .ok (.getfield 35, 3) := by decide +kernel
theorem dX12_row_105 : decode cX12_row 105 = .ok (.iload_n 3, 1) := by decide +kernel
theorem dX12_row_106 : decode cX12_row 106 = .ok (.baload, 1) := by decide +kernel
theorem dX12_row_107 : decode cX12_row 107 = .ok (.ifCond .eq 7, 3) := by decide +kernel
theorem dX12_row_110 : decode cX12_row 110 = .ok (.iconst 1, 1) := by decide +kernel
theorem dX12_row_111 : decode cX12_row 111 = .ok (.goto 4, 3) := by decide +kernel
theorem dX12_row_114 : decode cX12_row 114 = .ok (.iconst 0, 1) := by decide +kernel
theorem dX12_row_115 : decode cX12_row 115 = .ok (.ireturn, 1) := by decide +kernel
theorem dX12_row_116 : decode cX12_row 116 = .ok (.bipush (-2), 2) := by decide +kernel
theorem dX12_row_118 : decode cX12_row 118 = .ok (.ireturn, 1) := by decide +kernel
theorem dX12_hears_0 : decode cX12_hears 0 = .ok (.aload_n 0, 1) := by decide +kernel
theorem dX12_hears_1 : decode cX12_hears 1 = .ok (.bipush 7, 2) := by decide +kernel
theorem dX12_hears_3 : decode cX12_hears 3 = .ok (.iload_n 1, 1) := by decide +kernel
theorem dX12_hears_4 : decode cX12_hears 4 = .ok (.iadd, 1) := by decide +kernel
theorem dX12_hears_5 : decode cX12_hears 5 = .ok (.invokevirtual 212, 3) := by decide +kernel
theorem dX12_hears_8 : decode cX12_hears 8 = .ok (.istore_n 2, 1) := by decide +kernel
theorem dX12_hears_9 : decode cX12_hears 9 = .ok (.iload_n 2, 1) := by decide +kernel
theorem dX12_hears_10 : decode cX12_hears 10 = .ok (.aload_n 0, 1) := by decide +kernel
theorem dX12_hears_11 : decode cX12_hears 11 = .ok (.getfield 243, 3) := by decide +kernel
theorem dX12_hears_14 : decode cX12_hears 14 = .ok (.if_icmp .lt 7, 3) := by decide +kernel
theorem dX12_hears_17 : decode cX12_hears 17 = .ok (.iconst 0, 1) := by decide +kernel
theorem dX12_hears_18 : decode cX12_hears 18 = .ok (.goto 22, 3) := by decide +kernel
theorem dX12_hears_21 : decode cX12_hears 21 = .ok (.aload_n 0, 1) := by decide +kernel
theorem dX12_hears_22 : decode cX12_hears 22 = .ok (.getfield 243, 3) := by decide +kernel
theorem dX12_hears_25 : decode cX12_hears 25 = .ok (.iconst 1, 1) := by decide +kernel
theorem dX12_hears_26 : decode cX12_hears 26 = .ok (.isub, 1) := by decide +kernel
theorem dX12_hears_27 : decode cX12_hears 27 = .ok (.iload_n 2, 1) := by decide +kernel
theorem dX12_hears_28 : decode cX12_hears 28 = .ok (.isub, 1) := by decide +kernel
theorem dX12_hears_29 : decode cX12_hears 29 = .ok (.aload_n 0, 1) := by decide +kernel
theorem dX12_hears_30 : decode cX12_hears 30 = .ok (.bipush 9, 2) := by decide +kernel
theorem dX12_hears_32 : decode cX12_hears 32 = .ok (.iload_n 1, 1) := by decide +kernel
theorem dX12_hears_33 : decode cX12_hears 33 = .ok (.iadd, 1) := by decide +kernel
theorem dX12_hears_34 : decode cX12_hears 34 = .ok (.invokevirtual 212, 3) := by decide +kernel
theorem dX12_hears_37 : decode cX12_hears 37 = .ok (.idiv, 1) := by decide +kernel
theorem dX12_hears_38 : decode cX12_hears 38 = .ok (.iconst 1, 1) := by decide +kernel
theorem dX12_hears_39 : decode cX12_hears 39 = .ok (.iadd, 1) := by decide +kernel
theorem dX12_hears_40 : decode cX12_hears 40 = .ok (.ireturn, 1) := by decide +kernel
theorem dX12_placeHeard_0 : decode cX12_placeHeard 0 = .ok (.aload_n 0, 1) := by decide +kernel
theorem dX12_placeHeard_1 : decode cX12_placeHeard 1 = .ok (.bipush 7, 2) := by decide +kernel
theorem dX12_placeHeard_3 : decode cX12_placeHeard 3 = .ok (.iload_n 1, 1) := by decide +kernel
theorem dX12_placeHeard_4 : decode cX12_placeHeard 4 = .ok (.iadd, 1) := by decide +kernel
theorem dX12_placeHeard_5 : decode cX12_placeHeard 5 = .ok (.invokevirtual 212, 3) := by decide +kernel
theorem dX12_placeHeard_8 : decode cX12_placeHeard 8 = .ok (.iload_n 2, 1) := by decide +kernel
theorem dX12_placeHeard_9 : decode cX12_placeHeard 9 = .ok (.aload_n 0, 1) := by decide +kernel
theorem dX12_placeHeard_10 : decode cX12_placeHeard 10 = .ok (.bipush 9, 2) := by decide +kernel
theorem dX12_placeHeard_12 : decode cX12_placeHeard 12 = .ok (.iload_n 1, 1) := by decide +kernel
theorem dX12_placeHeard_13 : decode cX12_placeHeard 13 = .ok (.iadd, 1) := by decide +kernel
theorem dX12_placeHeard_14 : decode cX12_placeHeard 14 = .ok (.invokevirtual 212, 3) := by decide +kernel
theorem dX12_placeHeard_17 : decode cX12_placeHeard 17 = .ok (.imul, 1) := by decide +kernel
theorem dX12_placeHeard_18 : decode cX12_placeHeard 18 = .ok (.iadd, 1) := by decide +kernel
theorem dX12_placeHeard_19 : decode cX12_placeHeard 19 = .ok (.ireturn, 1) := by decide +kernel
theorem dX12_heardAt_0 : decode cX12_heardAt 0 = .ok (.aload_n 0, 1) := by decide +kernel
theorem dX12_heardAt_1 : decode cX12_heardAt 1 = .ok (.getfield 32, 3) := by decide +kernel
theorem dX12_heardAt_4 : decode cX12_heardAt 4 = .ok (.aload_n 0, 1) := by decide +kernel
theorem dX12_heardAt_5 : decode cX12_heardAt 5 = .ok (.iload_n 1, 1) := by decide +kernel
theorem dX12_heardAt_6 : decode cX12_heardAt 6 = .ok (.iload_n 2, 1) := by decide +kernel
theorem dX12_heardAt_7 : decode cX12_heardAt 7 = .ok (.invokevirtual 258, 3) := by decide +kernel
theorem dX12_heardAt_10 : decode cX12_heardAt 10 = .ok (.iaload, 1) := by decide +kernel
theorem dX12_heardAt_11 : decode cX12_heardAt 11 = .ok (.ireturn, 1) := by decide +kernel
theorem dX12_heard_0 : decode cX12_heard 0 = .ok (.aload_n 0, 1) := by decide +kernel
theorem dX12_heard_1 : decode cX12_heard 1 = .ok (.iload_n 1, 1) := by decide +kernel
theorem dX12_heard_2 : decode cX12_heard 2 = .ok (.iload_n 2, 1) := by decide +kernel
theorem dX12_heard_3 : decode cX12_heard 3 = .ok (.invokevirtual 255, 3) := by decide +kernel
theorem dX12_heard_6 : decode cX12_heard 6 = .ok (.ifCond .eq 10, 3) := by decide +kernel
theorem dX12_heard_9 : decode cX12_heard 9 = .ok (.iload_n 3, 1) := by decide +kernel
theorem dX12_heard_10 : decode cX12_heard 10 = .ok (.invokestatic 218, 3) := by decide +kernel
theorem dX12_heard_13 : decode cX12_heard 13 = .ok (.ifCond .ne 5, 3) := by decide +kernel
theorem dX12_heard_16 : decode cX12_heard 16 = .ok (.iconst (-1), 1) := by decide +kernel
theorem dX12_heard_17 : decode cX12_heard 17 = .ok (.ireturn, 1) := by decide +kernel
theorem dX12_heard_18 : decode cX12_heard 18 = .ok (.iload 4, 2) := by decide +kernel
theorem dX12_heard_20 : decode cX12_heard 20 = .ok (.iconst (-1), 1) := by decide +kernel
theorem dX12_heard_21 : decode cX12_heard 21 = .ok (.if_icmp .ne 11, 3) := by decide +kernel
theorem dX12_heard_24 : decode cX12_heard 24 = .ok (.aload_n 0, 1) := by decide +kernel
theorem dX12_heard_25 : decode cX12_heard 25 = .ok (.iload_n 3, 1) := by decide +kernel
theorem dX12_heard_26 : decode cX12_heard 26 = .ok (.invokevirtual 261, 3) := by decide +kernel
theorem dX12_heard_29 : decode cX12_heard 29 = .ok (.goto 30, 3) := by decide +kernel
theorem dX12_heard_32 : decode cX12_heard 32 = .ok (.iload 4, 2) := by decide +kernel
theorem dX12_heard_34 : decode cX12_heard 34 = .ok (.iconst 0, 1) := by decide +kernel
theorem dX12_heard_35 : decode cX12_heard 35 = .ok (.aload_n 0, 1) := by decide +kernel
theorem dX12_heard_36 : decode cX12_heard 36 = .ok (.iload_n 3, 1) := by decide +kernel
theorem dX12_heard_37 : decode cX12_heard 37 = .ok (.invokevirtual 261, 3) := by decide +kernel
theorem dX12_heard_40 : decode cX12_heard 40 = .ok (.iconst 1, 1) := by decide +kernel
theorem dX12_heard_41 : decode cX12_heard 41 = .ok (.isub, 1) := by decide +kernel
theorem dX12_heard_42 : decode cX12_heard 42 = .ok (.invokestatic 145, 3) := by decide +kernel
theorem dX12_heard_45 : decode cX12_heard 45 = .ok (.ifCond .eq 13, 3) := by decide +kernel
theorem dX12_heard_48 : decode cX12_heard 48 = .ok (.aload_n 0, 1) := by decide +kernel
theorem dX12_heard_49 : decode cX12_heard 49 = .ok (.iload_n 3, 1) := by decide +kernel
theorem dX12_heard_50 : decode cX12_heard 50 = .ok (.iload 4, 2) := by decide +kernel
theorem dX12_heard_52 : decode cX12_heard 52 = .ok (.invokevirtual 264, 3) := by decide +kernel
theorem dX12_heard_55 : decode cX12_heard 55 = .ok (.goto 4, 3) := by decide +kernel
theorem dX12_heard_58 : decode cX12_heard 58 = .ok (.iconst (-1), 1) := by decide +kernel
theorem dX12_heard_59 : decode cX12_heard 59 = .ok (.ireturn, 1) := by decide +kernel
theorem dX12_isFrom_0 : decode cX12_isFrom 0 = .ok (.iload_n 3, 1) := by decide +kernel
theorem dX12_isFrom_1 : decode cX12_isFrom 1 = .ok (.aload_n 0, 1) := by decide +kernel
theorem dX12_isFrom_2 : decode cX12_isFrom 2 = .ok (.iload_n 1, 1) := by decide +kernel
theorem dX12_isFrom_3 : decode cX12_isFrom 3 = .ok (.iload_n 2, 1) := by decide +kernel
theorem dX12_isFrom_4 : decode cX12_isFrom 4 = .ok (.invokevirtual 230, 3) := by decide +kernel
theorem dX12_isFrom_7 : decode cX12_isFrom 7 = .ok (.iadd, 1) := by decide +kernel
theorem dX12_isFrom_8 : decode cX12_isFrom 8 = .ok (.aload_n 0, 1) := by decide +kernel
theorem dX12_isFrom_9 : decode cX12_isFrom 9 = .ok (.iload_n 1, 1) := by decide +kernel
theorem dX12_isFrom_10 : decode cX12_isFrom 10 = .ok (.invokevirtual 261, 3) := by decide +kernel
theorem dX12_isFrom_13 : decode cX12_isFrom 13 = .ok (.if_icmp .gt 7, 3) := by decide +kernel
theorem dX12_isFrom_16 : decode cX12_isFrom 16 = .ok (.iconst 1, 1) := by decide +kernel
theorem dX12_isFrom_17 : decode cX12_isFrom 17 = .ok (.goto 4, 3) := by decide +kernel
theorem dX12_isFrom_20 : decode cX12_isFrom 20 = .ok (.iconst 0, 1) := by decide +kernel
theorem dX12_isFrom_21 : decode cX12_isFrom 21 = .ok (.istore 4, 2) := by decide +kernel
theorem dX12_isFrom_23 : decode cX12_isFrom 23 = .ok (.iconst 0, 1) := by decide +kernel
theorem dX12_isFrom_24 : decode cX12_isFrom 24 = .ok (.istore 5, 2) := by decide +kernel
theorem dX12_isFrom_26 : decode cX12_isFrom 26 = .ok (.iload 5, 2) := by decide +kernel
theorem dX12_isFrom_28 : decode cX12_isFrom 28 = .ok (.aload_n 0, 1) := by decide +kernel
theorem dX12_isFrom_29 : decode cX12_isFrom 29 = .ok (.iload_n 1, 1) := by decide +kernel
theorem dX12_isFrom_30 : decode cX12_isFrom 30 = .ok (.iload_n 2, 1) := by decide +kernel
theorem dX12_isFrom_31 : decode cX12_isFrom 31 = .ok (.invokevirtual 230, 3) := by decide +kernel
theorem dX12_isFrom_34 : decode cX12_isFrom 34 = .ok (.if_icmp .ge 41, 3) := by decide +kernel
theorem dX12_isFrom_37 : decode cX12_isFrom 37 = .ok (.iload 4, 2) := by decide +kernel
theorem dX12_isFrom_39 : decode cX12_isFrom 39 = .ok (.ifCond .eq 36, 3) := by decide +kernel
theorem dX12_isFrom_42 : decode cX12_isFrom 42 = .ok (.aload_n 0, 1) := by decide +kernel
theorem dX12_isFrom_43 : decode cX12_isFrom 43 = .ok (.iload_n 1, 1) := by decide +kernel
theorem dX12_isFrom_44 : decode cX12_isFrom 44 = .ok (.iload_n 3, 1) := by decide +kernel
theorem dX12_isFrom_45 : decode cX12_isFrom 45 = .ok (.iload 5, 2) := by decide +kernel
theorem dX12_isFrom_47 : decode cX12_isFrom 47 = .ok (.iadd, 1) := by decide +kernel
theorem dX12_isFrom_48 : decode cX12_isFrom 48 = .ok (.invokevirtual 264, 3) := by decide +kernel
theorem dX12_isFrom_51 : decode cX12_isFrom 51 = .ok (.aload_n 0, 1) := by decide +kernel
theorem dX12_isFrom_52 : decode cX12_isFrom 52 = .ok (.iload_n 1, 1) := by decide +kernel
theorem dX12_isFrom_53 : decode cX12_isFrom 53 = .ok (.iload_n 2, 1) := by decide +kernel
theorem dX12_isFrom_54 : decode cX12_isFrom 54 = .ok (.iload 5, 2) := by decide +kernel
theorem dX12_isFrom_56 : decode cX12_isFrom 56 = .ok (.invokevirtual 233, 3) := by decide +kernel
theorem dX12_isFrom_59 : decode cX12_isFrom 59 = .ok (.if_icmp .ne 7, 3) := by decide +kernel
theorem dX12_isFrom_62 : decode cX12_isFrom 62 = .ok (.iconst 1, 1) := by decide +kernel
theorem dX12_isFrom_63 : decode cX12_isFrom 63 = .ok (.goto 4, 3) := by decide +kernel
theorem dX12_isFrom_66 : decode cX12_isFrom 66 = .ok (.iconst 0, 1) := by decide +kernel
theorem dX12_isFrom_67 : decode cX12_isFrom 67 = .ok (.istore 4, 2) := by decide +kernel
theorem dX12_isFrom_69 : decode cX12_isFrom 69 = .ok (.iinc 5 1, 3) := by decide +kernel
theorem dX12_isFrom_72 : decode cX12_isFrom 72 = .ok (.goto (-46), 3) := by decide +kernel
theorem dX12_isFrom_75 : decode cX12_isFrom 75 = .ok (.iload 4, 2) := by decide +kernel
theorem dX12_isFrom_77 : decode cX12_isFrom 77 = .ok (.ireturn, 1) := by decide +kernel
theorem dX12_makes_0 : decode cX12_makes 0 = .ok (.aload_n 0, 1) := by decide +kernel
theorem dX12_makes_1 : decode cX12_makes 1 = .ok (.getfield 47, 3) := by decide +kernel
theorem dX12_makes_4 : decode cX12_makes 4 = .ok (.iload_n 1, 1) := by decide +kernel
theorem dX12_makes_5 : decode cX12_makes 5 = .ok (.iconst 0, 1) := by decide +kernel
theorem dX12_makes_6 : decode cX12_makes 6 = .ok (.iastore, 1) := by decide +kernel
theorem dX12_makes_7 : decode cX12_makes 7 = .ok (.aload_n 0, 1) := by decide +kernel
theorem dX12_makes_8 : decode cX12_makes 8 = .ok (.getfield 50, 3) := by decide +kernel
theorem dX12_makes_11 : decode cX12_makes 11 = .ok (.iload_n 1, 1) := by decide +kernel
theorem dX12_makes_12 : decode cX12_makes 12 = .ok (.iconst 0, 1) := by decide +kernel
theorem dX12_makes_13 : decode cX12_makes 13 = .ok (.iastore, 1) := by decide +kernel
theorem dX12_makes_14 : decode cX12_makes 14 = .ok (.iconst 0, 1) := by decide +kernel
theorem dX12_makes_15 : decode cX12_makes 15 = .ok (.istore_n 2, 1) := by decide +kernel
theorem dX12_makes_16 : decode cX12_makes 16 = .ok (.iload_n 2, 1) := by decide +kernel
theorem dX12_makes_17 : decode cX12_makes 17 = .ok (.aload_n 0, 1) := by decide +kernel
theorem dX12_makes_18 : decode cX12_makes 18 = .ok (.iload_n 1, 1) := by decide +kernel
theorem dX12_makes_19 : decode cX12_makes 19 = .ok (.invokevirtual 261, 3) := by decide +kernel
theorem dX12_makes_22 : decode cX12_makes 22 = .ok (.if_icmp .ge 150, 3) := by decide +kernel
theorem dX12_makes_25 : decode cX12_makes 25 = .ok (.iconst (-1), 1) := by decide +kernel
theorem dX12_makes_26 : decode cX12_makes 26 = .ok (.istore_n 3, 1) := by decide +kernel
theorem dX12_makes_27 : decode cX12_makes 27 = .ok (.aload_n 0, 1) := by decide +kernel
theorem dX12_makes_28 : decode cX12_makes 28 = .ok (.iload_n 1, 1) := by decide +kernel
theorem dX12_makes_29 : decode cX12_makes 29 = .ok (.invokevirtual 221, 3) := by decide +kernel
theorem dX12_makes_32 : decode cX12_makes 32 = .ok (.iconst 1, 1) := by decide +kernel
theorem dX12_makes_33 : decode cX12_makes 33 = .ok (.isub, 1) := by decide +kernel
theorem dX12_makes_34 : decode cX12_makes 34 = .ok (.istore 4, 2) := by decide +kernel
theorem dX12_makes_36 : decode cX12_makes 36 = .ok (.iload 4, 2) := by decide +kernel
theorem dX12_makes_38 : decode cX12_makes 38 = .ok (.ifCond .lt 44, 3) := by decide +kernel
theorem dX12_makes_41 : decode cX12_makes 41 = .ok (.aload_n 0, 1) := by decide +kernel
theorem dX12_makes_42 : decode cX12_makes 42 = .ok (.iload_n 1, 1) := by decide +kernel
theorem dX12_makes_43 : decode cX12_makes 43 = .ok (.iload 4, 2) := by decide +kernel
theorem dX12_makes_45 : decode cX12_makes 45 = .ok (.iload_n 2, 1) := by decide +kernel
theorem dX12_makes_46 : decode cX12_makes 46 = .ok (.invokevirtual 267, 3) := by decide +kernel
theorem dX12_makes_49 : decode cX12_makes 49 = .ok (.ifCond .eq 27, 3) := by decide +kernel
theorem dX12_makes_52 : decode cX12_makes 52 = .ok (.iload_n 3, 1) := by decide +kernel
theorem dX12_makes_53 : decode cX12_makes 53 = .ok (.iconst (-1), 1) := by decide +kernel
theorem dX12_makes_54 : decode cX12_makes 54 = .ok (.if_icmp .eq 19, 3) := by decide +kernel
theorem dX12_makes_57 : decode cX12_makes 57 = .ok (.aload_n 0, 1) := by decide +kernel
theorem dX12_makes_58 : decode cX12_makes 58 = .ok (.iload_n 1, 1) := by decide +kernel
theorem dX12_makes_59 : decode cX12_makes 59 = .ok (.iload 4, 2) := by decide +kernel
theorem dX12_makes_61 : decode cX12_makes 61 = .ok (.invokevirtual 230, 3) := by decide +kernel
theorem dX12_makes_64 : decode cX12_makes 64 = .ok (.aload_n 0, 1) := by decide +kernel
theorem dX12_makes_65 : decode cX12_makes 65 = .ok (.iload_n 1, 1) := by decide +kernel
theorem dX12_makes_66 : decode cX12_makes 66 = .ok (.iload_n 3, 1) := by decide +kernel
theorem dX12_makes_67 : decode cX12_makes 67 = .ok (.invokevirtual 230, 3) := by decide +kernel
theorem dX12_makes_70 : decode cX12_makes 70 = .ok (.if_icmp .lt 6, 3) := by decide +kernel
theorem dX12_makes_73 : decode cX12_makes 73 = .ok (.iload 4, 2) := by decide +kernel
theorem dX12_makes_75 : decode cX12_makes 75 = .ok (.istore_n 3, 1) := by decide +kernel
theorem dX12_makes_76 : decode cX12_makes 76 = .ok (.iinc 4 (-1), 3) := by decide +kernel
theorem dX12_makes_79 : decode cX12_makes 79 = .ok (.goto (-43), 3) := by decide +kernel
theorem dX12_makes_82 : decode cX12_makes 82 = .ok (.iload_n 3, 1) := by decide +kernel
theorem dX12_makes_83 : decode cX12_makes 83 = .ok (.iconst (-1), 1) := by decide +kernel
theorem dX12_makes_84 : decode cX12_makes 84 = .ok (.if_icmp .ne 19, 3) := by decide +kernel
theorem dX12_makes_87 : decode cX12_makes 87 = .ok (.aload_n 0, 1) := by decide +kernel
theorem dX12_makes_88 : decode cX12_makes 88 = .ok (.getfield 50, 3) := by decide +kernel
theorem dX12_makes_91 : decode cX12_makes 91 = .ok (.iload_n 1, 1) := by decide +kernel
theorem dX12_makes_92 : decode cX12_makes 92 = .ok (.dup2, 1) := by decide +kernel
theorem dX12_makes_93 : decode cX12_makes 93 = .ok (.iaload, 1) := by decide +kernel
theorem dX12_makes_94 : decode cX12_makes 94 = .ok (.iconst 1, 1) := by decide +kernel
theorem dX12_makes_95 : decode cX12_makes 95 = .ok (.iadd, 1) := by decide +kernel
theorem dX12_makes_96 : decode cX12_makes 96 = .ok (.iastore, 1) := by decide +kernel
theorem dX12_makes_97 : decode cX12_makes 97 = .ok (.iinc 2 1, 3) := by decide +kernel
theorem dX12_makes_100 : decode cX12_makes 100 = .ok (.goto (-84), 3) := by decide +kernel
theorem dX12_makes_103 : decode cX12_makes 103 = .ok (.bipush 24, 2) := by decide +kernel
theorem dX12_makes_105 : decode cX12_makes 105 = .ok (.iload_n 1, 1) := by decide +kernel
theorem dX12_makes_106 : decode cX12_makes 106 = .ok (.imul, 1) := by decide +kernel
theorem dX12_makes_107 : decode cX12_makes 107 = .ok (.aload_n 0, 1) := by decide +kernel
theorem dX12_makes_108 : decode cX12_makes 108 = .ok (.getfield 47, 3) := by decide +kernel
theorem dX12_makes_111 : decode cX12_makes 111 = .ok (.iload_n 1, 1) := by decide +kernel
theorem dX12_makes_112 : decode cX12_makes 112 = .ok (.iaload, 1) := by decide +kernel
theorem dX12_makes_113 : decode cX12_makes 113 = .ok (.iadd, 1) := by decide +kernel
theorem dX12_makes_114 : decode cX12_makes 114 = .ok (.istore 4, 2) := by decide +kernel
theorem dX12_makes_116 : decode cX12_makes 116 = .ok (.aload_n 0, 1) := by decide +kernel
theorem dX12_makes_117 : decode cX12_makes 117 = .ok (.getfield 38, 3) := by decide +kernel
theorem dX12_makes_120 : decode cX12_makes 120 = .ok (.iload 4, 2) := by decide +kernel
theorem dX12_makes_122 : decode cX12_makes 122 = .ok (.aload_n 0, 1) := by decide +kernel
theorem dX12_makes_123 : decode cX12_makes 123 = .ok (.getfield 7, 3) := by decide +kernel
theorem dX12_makes_126 : decode cX12_makes 126 = .ok (.aload_n 0, 1) := by decide +kernel
theorem dX12_makes_127 : decode cX12_makes 127 = .ok (.iload_n 1, 1) := by decide +kernel
theorem dX12_makes_128 : decode cX12_makes 128 = .ok (.iload_n 3, 1) := by decide +kernel
theorem dX12_makes_129 : decode cX12_makes 129 = .ok (.invokevirtual 215, 3) := by decide +kernel
theorem dX12_makes_132 : decode cX12_makes 132 = .ok (.iaload, 1) := by decide +kernel
theorem dX12_makes_133 : decode cX12_makes 133 = .ok (.iastore, 1) := by decide +kernel
theorem dX12_makes_134 : decode cX12_makes 134 = .ok (.aload_n 0, 1) := by decide +kernel
theorem dX12_makes_135 : decode cX12_makes 135 = .ok (.getfield 41, 3) := by decide +kernel
theorem dX12_makes_138 : decode cX12_makes 138 = .ok (.iload 4, 2) := by decide +kernel
theorem dX12_makes_140 : decode cX12_makes 140 = .ok (.iload_n 3, 1) := by decide +kernel
theorem dX12_makes_141 : decode cX12_makes 141 = .ok (.iastore, 1) := by decide +kernel
theorem dX12_makes_142 : decode cX12_makes 142 = .ok (.aload_n 0, 1) := by decide +kernel
theorem dX12_makes_143 : decode cX12_makes 143 = .ok (.getfield 44, 3) := by decide +kernel
theorem dX12_makes_146 : decode cX12_makes 146 = .ok (.iload 4, 2) := by decide +kernel
theorem dX12_makes_148 : decode cX12_makes 148 = .ok (.iload_n 2, 1) := by decide +kernel
theorem dX12_makes_149 : decode cX12_makes 149 = .ok (.iastore, 1) := by decide +kernel
theorem dX12_makes_150 : decode cX12_makes 150 = .ok (.aload_n 0, 1) := by decide +kernel
theorem dX12_makes_151 : decode cX12_makes 151 = .ok (.getfield 47, 3) := by decide +kernel
theorem dX12_makes_154 : decode cX12_makes 154 = .ok (.iload_n 1, 1) := by decide +kernel
theorem dX12_makes_155 : decode cX12_makes 155 = .ok (.dup2, 1) := by decide +kernel
theorem dX12_makes_156 : decode cX12_makes 156 = .ok (.iaload, 1) := by decide +kernel
theorem dX12_makes_157 : decode cX12_makes 157 = .ok (.iconst 1, 1) := by decide +kernel
theorem dX12_makes_158 : decode cX12_makes 158 = .ok (.iadd, 1) := by decide +kernel
theorem dX12_makes_159 : decode cX12_makes 159 = .ok (.iastore, 1) := by decide +kernel
theorem dX12_makes_160 : decode cX12_makes 160 = .ok (.iload_n 2, 1) := by decide +kernel
theorem dX12_makes_161 : decode cX12_makes 161 = .ok (.aload_n 0, 1) := by decide +kernel
theorem dX12_makes_162 : decode cX12_makes 162 = .ok (.iload_n 1, 1) := by decide +kernel
theorem dX12_makes_163 : decode cX12_makes 163 = .ok (.iload_n 3, 1) := by decide +kernel
theorem dX12_makes_164 : decode cX12_makes 164 = .ok (.invokevirtual 230, 3) := by decide +kernel
theorem dX12_makes_167 : decode cX12_makes 167 = .ok (.iadd, 1) := by decide +kernel
theorem dX12_makes_168 : decode cX12_makes 168 = .ok (.istore_n 2, 1) := by decide +kernel
theorem dX12_makes_169 : decode cX12_makes 169 = .ok (.goto (-153), 3) := by decide +kernel
theorem dX12_makes_172 : decode cX12_makes 172 = .ok (.return_, 1) := by decide +kernel
theorem dX12_purity_0 : decode cX12_purity 0 = .ok (.iconst 0, 1) := by decide +kernel
theorem dX12_purity_1 : decode cX12_purity 1 = .ok (.istore_n 3, 1) := by decide +kernel
theorem dX12_purity_2 : decode cX12_purity 2 = .ok (.aload_n 0, 1) := by decide +kernel
theorem dX12_purity_3 : decode cX12_purity 3 = .ok (.iload_n 1, 1) := by decide +kernel
theorem dX12_purity_4 : decode cX12_purity 4 = .ok (.aload_n 0, 1) := by decide +kernel
theorem dX12_purity_5 : decode cX12_purity 5 = .ok (.getfield 41, 3) := by decide +kernel
theorem dX12_purity_8 : decode cX12_purity 8 = .ok (.iload_n 2, 1) := by decide +kernel
theorem dX12_purity_9 : decode cX12_purity 9 = .ok (.iaload, 1) := by decide +kernel
theorem dX12_purity_10 : decode cX12_purity 10 = .ok (.invokevirtual 230, 3) := by decide +kernel
theorem dX12_purity_13 : decode cX12_purity 13 = .ok (.istore 4, 2) := by decide +kernel
theorem dX12_purity_15 : decode cX12_purity 15 = .ok (.iconst 0, 1) := by decide +kernel
theorem dX12_purity_16 : decode cX12_purity 16 = .ok (.istore 5, 2) := by decide +kernel
theorem dX12_purity_18 : decode cX12_purity 18 = .ok (.iload 5, 2) := by decide +kernel
theorem dX12_purity_20 : decode cX12_purity 20 = .ok (.iload 4, 2) := by decide +kernel
theorem dX12_purity_22 : decode cX12_purity 22 = .ok (.if_icmp .ge 40, 3) := by decide +kernel
theorem dX12_purity_25 : decode cX12_purity 25 = .ok (.iload_n 3, 1) := by decide +kernel
theorem dX12_purity_26 : decode cX12_purity 26 = .ok (.aload_n 0, 1) := by decide +kernel
theorem dX12_purity_27 : decode cX12_purity 27 = .ok (.getfield 29, 3) := by decide +kernel
theorem dX12_purity_30 : decode cX12_purity 30 = .ok (.aload_n 0, 1) := by decide +kernel
theorem dX12_purity_31 : decode cX12_purity 31 = .ok (.iload_n 1, 1) := by decide +kernel
theorem dX12_purity_32 : decode cX12_purity 32 = .ok (.aload_n 0, 1) := by decide +kernel
theorem dX12_purity_33 : decode cX12_purity 33 = .ok (.getfield 44, 3) := by decide +kernel
theorem dX12_purity_36 : decode cX12_purity 36 = .ok (.iload_n 2, 1) := by decide +kernel
theorem dX12_purity_37 : decode cX12_purity 37 = .ok (.iaload, 1) := by decide +kernel
theorem dX12_purity_38 : decode cX12_purity 38 = .ok (.iload 5, 2) := by decide +kernel
theorem dX12_purity_40 : decode cX12_purity 40 = .ok (.iadd, 1) := by decide +kernel
theorem dX12_purity_41 : decode cX12_purity 41 = .ok (.invokevirtual 258, 3) := by decide +kernel
theorem dX12_purity_44 : decode cX12_purity 44 = .ok (.iaload, 1) := by decide +kernel
theorem dX12_purity_45 : decode cX12_purity 45 = .ok (.iload_n 1, 1) := by decide +kernel
theorem dX12_purity_46 : decode cX12_purity 46 = .ok (.if_icmp .ne 7, 3) := by decide +kernel
theorem dX12_purity_49 : decode cX12_purity 49 = .ok (.iconst 1, 1) := by decide +kernel
theorem dX12_purity_50 : decode cX12_purity 50 = .ok (.goto 4, 3) := by decide +kernel
theorem dX12_purity_53 : decode cX12_purity 53 = .ok (.iconst 0, 1) := by decide +kernel
theorem dX12_purity_54 : decode cX12_purity 54 = .ok (.iadd, 1) := by decide +kernel
theorem dX12_purity_55 : decode cX12_purity 55 = .ok (.istore_n 3, 1) := by decide +kernel
theorem dX12_purity_56 : decode cX12_purity 56 = .ok (.iinc 5 1, 3) := by decide +kernel
theorem dX12_purity_59 : decode cX12_purity 59 = .ok (.goto (-41), 3) := by decide +kernel
theorem dX12_purity_62 : decode cX12_purity 62 = .ok (.iload_n 3, 1) := by decide +kernel
theorem dX12_purity_63 : decode cX12_purity 63 = .ok (.iload 4, 2) := by decide +kernel
theorem dX12_purity_65 : decode cX12_purity 65 = .ok (.if_icmp .ne 7, 3) := by decide +kernel
theorem dX12_purity_68 : decode cX12_purity 68 = .ok (.iconst 0, 1) := by decide +kernel
theorem dX12_purity_69 : decode cX12_purity 69 = .ok (.goto 12, 3) := by decide +kernel
theorem dX12_purity_72 : decode cX12_purity 72 = .ok (.iload_n 3, 1) := by decide +kernel
theorem dX12_purity_73 : decode cX12_purity 73 = .ok (.ifCond .ne 7, 3) := by decide +kernel
theorem dX12_purity_76 : decode cX12_purity 76 = .ok (.iconst 2, 1) := by decide +kernel
theorem dX12_purity_77 : decode cX12_purity 77 = .ok (.goto 4, 3) := by decide +kernel
theorem dX12_purity_80 : decode cX12_purity 80 = .ok (.iconst 1, 1) := by decide +kernel
theorem dX12_purity_81 : decode cX12_purity 81 = .ok (.ireturn, 1) := by decide +kernel
theorem dX12_echoed_0 : decode cX12_echoed 0 = .ok (.iconst 0, 1) := by decide +kernel
theorem dX12_echoed_1 : decode cX12_echoed 1 = .ok (.istore_n 2, 1) := by decide +kernel
theorem dX12_echoed_2 : decode cX12_echoed 2 = .ok (.iconst 0, 1) := by decide +kernel
theorem dX12_echoed_3 : decode cX12_echoed 3 = .ok (.istore_n 3, 1) := by decide +kernel
theorem dX12_echoed_4 : decode cX12_echoed 4 = .ok (.iload_n 3, 1) := by decide +kernel
theorem dX12_echoed_5 : decode cX12_echoed 5 = .ok (.aload_n 0, 1) := by decide +kernel
theorem dX12_echoed_6 : decode cX12_echoed 6 = .ok (.getfield 47, 3) := by decide +kernel
theorem dX12_echoed_9 : decode cX12_echoed 9 = .ok (.iload_n 1, 1) := by decide +kernel
theorem dX12_echoed_10 : decode cX12_echoed 10 = .ok (.iaload, 1) := by decide +kernel
theorem dX12_echoed_11 : decode cX12_echoed 11 = .ok (.if_icmp .ge 94, 3) := by decide +kernel
theorem dX12_echoed_14 : decode cX12_echoed 14 = .ok (.bipush 24, 2) := by decide +kernel
theorem dX12_echoed_16 : decode cX12_echoed 16 = .ok (.iload_n 1, 1) := by decide +kernel
theorem dX12_echoed_17 : decode cX12_echoed 17 = .ok (.imul, 1) := by decide +kernel
theorem dX12_echoed_18 : decode cX12_echoed 18 = .ok (.iload_n 3, 1) := by decide +kernel
theorem dX12_echoed_19 : decode cX12_echoed 19 = .ok (.iadd, 1) := by decide +kernel
theorem dX12_echoed_20 : decode cX12_echoed 20 = .ok (.istore 4, 2) := by decide +kernel
theorem dX12_echoed_22 : decode cX12_echoed 22 = .ok (.iconst 0, 1) := by decide +kernel
theorem dX12_echoed_23 : decode cX12_echoed 23 = .ok (.istore 5, 2) := by decide +kernel
theorem dX12_echoed_25 : decode cX12_echoed 25 = .ok (.iconst 0, 1) := by decide +kernel
theorem dX12_echoed_26 : decode cX12_echoed 26 = .ok (.istore 6, 2) := by decide +kernel
theorem dX12_echoed_28 : decode cX12_echoed 28 = .ok (.iload 6, 2) := by decide +kernel
theorem dX12_echoed_30 : decode cX12_echoed 30 = .ok (.aload_n 0, 1) := by decide +kernel
theorem dX12_echoed_31 : decode cX12_echoed 31 = .ok (.iload_n 1, 1) := by decide +kernel
theorem dX12_echoed_32 : decode cX12_echoed 32 = .ok (.aload_n 0, 1) := by decide +kernel
theorem dX12_echoed_33 : decode cX12_echoed 33 = .ok (.getfield 41, 3) := by decide +kernel
theorem dX12_echoed_36 : decode cX12_echoed 36 = .ok (.iload 4, 2) := by decide +kernel
theorem dX12_echoed_38 : decode cX12_echoed 38 = .ok (.iaload, 1) := by decide +kernel
theorem dX12_echoed_39 : decode cX12_echoed 39 = .ok (.invokevirtual 230, 3) := by decide +kernel
theorem dX12_echoed_42 : decode cX12_echoed 42 = .ok (.if_icmp .ge 44, 3) := by decide +kernel
theorem dX12_echoed_45 : decode cX12_echoed 45 = .ok (.iload 5, 2) := by decide +kernel
theorem dX12_echoed_47 : decode cX12_echoed 47 = .ok (.ifCond .ne 26, 3) := by decide +kernel
theorem dX12_echoed_50 : decode cX12_echoed 50 = .ok (.aload_n 0, 1) := by decide +kernel
theorem dX12_echoed_51 : decode cX12_echoed 51 = .ok (.getfield 35, 3) := by decide +kernel
theorem dX12_echoed_54 : decode cX12_echoed 54 = .ok (.aload_n 0, 1) := by decide +kernel
theorem dX12_echoed_55 : decode cX12_echoed 55 = .ok (.iload_n 1, 1) := by decide +kernel
theorem dX12_echoed_56 : decode cX12_echoed 56 = .ok (.aload_n 0, 1) := by decide +kernel
theorem dX12_echoed_57 : decode cX12_echoed 57 = .ok (.getfield 44, 3) := by decide +kernel
theorem dX12_echoed_60 : decode cX12_echoed 60 = .ok (.iload 4, 2) := by decide +kernel
theorem dX12_echoed_62 : decode cX12_echoed 62 = .ok (.iaload, 1) := by decide +kernel
theorem dX12_echoed_63 : decode cX12_echoed 63 = .ok (.iload 6, 2) := by decide +kernel
theorem dX12_echoed_65 : decode cX12_echoed 65 = .ok (.iadd, 1) := by decide +kernel
theorem dX12_echoed_66 : decode cX12_echoed 66 = .ok (.invokevirtual 258, 3) := by decide +kernel
theorem dX12_echoed_69 : decode cX12_echoed 69 = .ok (.baload, 1) := by decide +kernel
theorem dX12_echoed_70 : decode cX12_echoed 70 = .ok (.ifCond .eq 7, 3) := by decide +kernel
theorem dX12_echoed_73 : decode cX12_echoed 73 = .ok (.iconst 1, 1) := by decide +kernel
theorem dX12_echoed_74 : decode cX12_echoed 74 = .ok (.goto 4, 3) := by decide +kernel
theorem dX12_echoed_77 : decode cX12_echoed 77 = .ok (.iconst 0, 1) := by decide +kernel
theorem dX12_echoed_78 : decode cX12_echoed 78 = .ok (.istore 5, 2) := by decide +kernel
theorem dX12_echoed_80 : decode cX12_echoed 80 = .ok (.iinc 6 1, 3) := by decide +kernel
theorem dX12_echoed_83 : decode cX12_echoed 83 = .ok (.goto (-55), 3) := by decide +kernel
theorem dX12_echoed_86 : decode cX12_echoed 86 = .ok (.iload_n 2, 1) := by decide +kernel
theorem dX12_echoed_87 : decode cX12_echoed 87 = .ok (.iload 5, 2) := by decide +kernel
theorem dX12_echoed_89 : decode cX12_echoed 89 = .ok (.ifCond .eq 7, 3) := by decide +kernel
theorem dX12_echoed_92 : decode cX12_echoed 92 = .ok (.iconst 1, 1) := by decide +kernel
theorem dX12_echoed_93 : decode cX12_echoed 93 = .ok (.goto 4, 3) := by decide +kernel
theorem dX12_echoed_96 : decode cX12_echoed 96 = .ok (.iconst 0, 1) := by decide +kernel
theorem dX12_echoed_97 : decode cX12_echoed 97 = .ok (.iadd, 1) := by decide +kernel
theorem dX12_echoed_98 : decode cX12_echoed 98 = .ok (.istore_n 2, 1) := by decide +kernel
theorem dX12_echoed_99 : decode cX12_echoed 99 = .ok (.iinc 3 1, 3) := by decide +kernel
theorem dX12_echoed_102 : decode cX12_echoed 102 = .ok (.goto (-98), 3) := by decide +kernel
theorem dX12_echoed_105 : decode cX12_echoed 105 = .ok (.iload_n 2, 1) := by decide +kernel
theorem dX12_echoed_106 : decode cX12_echoed 106 = .ok (.ireturn, 1) := by decide +kernel
theorem dX12_made_0 : decode cX12_made 0 = .ok (.aload_n 0, 1) := by decide +kernel
theorem dX12_made_1 : decode cX12_made 1 = .ok (.iload_n 1, 1) := by decide +kernel
theorem dX12_made_2 : decode cX12_made 2 = .ok (.iload_n 2, 1) := by decide +kernel
theorem dX12_made_3 : decode cX12_made 3 = .ok (.invokevirtual 255, 3) := by decide +kernel
theorem dX12_made_6 : decode cX12_made 6 = .ok (.ifCond .eq 10, 3) := by decide +kernel
theorem dX12_made_9 : decode cX12_made 9 = .ok (.iload_n 3, 1) := by decide +kernel
theorem dX12_made_10 : decode cX12_made 10 = .ok (.invokestatic 218, 3) := by decide +kernel
theorem dX12_made_13 : decode cX12_made 13 = .ok (.ifCond .ne 6, 3) := by decide +kernel
theorem dX12_made_16 : decode cX12_made 16 = .ok (.bipush (-2), 2) := by decide +kernel
theorem dX12_made_18 : decode cX12_made 18 = .ok (.ireturn, 1) := by decide +kernel
theorem dX12_made_19 : decode cX12_made 19 = .ok (.aload_n 0, 1) := by decide +kernel
theorem dX12_made_20 : decode cX12_made 20 = .ok (.iload_n 3, 1) := by decide +kernel
theorem dX12_made_21 : decode cX12_made 21 = .ok (.invokevirtual 270, 3) := by decide +kernel
theorem dX12_made_24 : decode cX12_made 24 = .ok (.iload 4, 2) := by decide +kernel
theorem dX12_made_26 : decode cX12_made 26 = .ok (.iconst (-1), 1) := by decide +kernel
theorem dX12_made_27 : decode cX12_made 27 = .ok (.if_icmp .ne 49, 3) := by decide +kernel
theorem dX12_made_30 : decode cX12_made 30 = .ok (.iload 5, 2) := by decide +kernel
theorem dX12_made_32 : decode cX12_made 32 = .ok (.ifCond .ne 12, 3) := by decide +kernel
theorem dX12_made_35 : decode cX12_made 35 = .ok (.aload_n 0, 1) := by decide +kernel
theorem dX12_made_36 : decode cX12_made 36 = .ok (.getfield 47, 3) := by decide +kernel
theorem dX12_made_39 : decode cX12_made 39 = .ok (.iload_n 3, 1) := by decide +kernel
theorem dX12_made_40 : decode cX12_made 40 = .ok (.iaload, 1) := by decide +kernel
theorem dX12_made_41 : decode cX12_made 41 = .ok (.goto 34, 3) := by decide +kernel
theorem dX12_made_44 : decode cX12_made 44 = .ok (.iload 5, 2) := by decide +kernel
theorem dX12_made_46 : decode cX12_made 46 = .ok (.iconst 1, 1) := by decide +kernel
theorem dX12_made_47 : decode cX12_made 47 = .ok (.if_icmp .ne 12, 3) := by decide +kernel
theorem dX12_made_50 : decode cX12_made 50 = .ok (.aload_n 0, 1) := by decide +kernel
theorem dX12_made_51 : decode cX12_made 51 = .ok (.getfield 50, 3) := by decide +kernel
theorem dX12_made_54 : decode cX12_made 54 = .ok (.iload_n 3, 1) := by decide +kernel
theorem dX12_made_55 : decode cX12_made 55 = .ok (.iaload, 1) := by decide +kernel
theorem dX12_made_56 : decode cX12_made 56 = .ok (.goto 19, 3) := by decide +kernel
theorem dX12_made_59 : decode cX12_made 59 = .ok (.iload 5, 2) := by decide +kernel
theorem dX12_made_61 : decode cX12_made 61 = .ok (.iconst 2, 1) := by decide +kernel
theorem dX12_made_62 : decode cX12_made 62 = .ok (.if_icmp .ne 11, 3) := by decide +kernel
theorem dX12_made_65 : decode cX12_made 65 = .ok (.aload_n 0, 1) := by decide +kernel
theorem dX12_made_66 : decode cX12_made 66 = .ok (.iload_n 3, 1) := by decide +kernel
theorem dX12_made_67 : decode cX12_made 67 = .ok (.invokevirtual 273, 3) := by decide +kernel
theorem dX12_made_70 : decode cX12_made 70 = .ok (.goto 5, 3) := by decide +kernel
theorem dX12_made_73 : decode cX12_made 73 = .ok (.bipush (-2), 2) := by decide +kernel
theorem dX12_made_75 : decode cX12_made 75 = .ok (.ireturn, 1) := by decide +kernel
theorem dX12_made_76 : decode cX12_made 76 = .ok (.iload 4, 2) := by decide +kernel
theorem dX12_made_78 : decode cX12_made 78 = .ok (.iconst 0, 1) := by decide +kernel
theorem dX12_made_79 : decode cX12_made 79 = .ok (.aload_n 0, 1) := by decide +kernel
theorem dX12_made_80 : decode cX12_made 80 = .ok (.getfield 47, 3) := by decide +kernel
theorem dX12_made_83 : decode cX12_made 83 = .ok (.iload_n 3, 1) := by decide +kernel
theorem dX12_made_84 : decode cX12_made 84 = .ok (.iaload, 1) := by decide +kernel
theorem dX12_made_85 : decode cX12_made 85 = .ok (.iconst 1, 1) := by decide +kernel
theorem dX12_made_86 : decode cX12_made 86 = .ok (.isub, 1) := by decide +kernel
theorem dX12_made_87 : decode cX12_made 87 = .ok (.invokestatic 145, 3) := by decide +kernel
theorem dX12_made_90 : decode cX12_made 90 = .ok (.ifCond .ne 6, 3) := by decide +kernel
theorem dX12_made_93 : decode cX12_made 93 = .ok (.bipush (-2), 2) := by decide +kernel
theorem dX12_made_95 : decode cX12_made 95 = .ok (.ireturn, 1) := by decide +kernel
theorem dX12_made_96 : decode cX12_made 96 = .ok (.bipush 24, 2) := by decide +kernel
theorem dX12_made_98 : decode cX12_made 98 = .ok (.iload_n 3, 1) := by decide +kernel
theorem dX12_made_99 : decode cX12_made 99 = .ok (.imul, 1) := by decide +kernel
theorem dX12_made_100 : decode cX12_made 100 = .ok (.iload 4, 2) := by decide +kernel
theorem dX12_made_102 : decode cX12_made 102 = .ok (.iadd, 1) := by decide +kernel
theorem dX12_made_103 : decode cX12_made 103 = .ok (.istore 6, 2) := by decide +kernel
theorem dX12_made_105 : decode cX12_made 105 = .ok (.iload 5, 2) := by decide +kernel
theorem dX12_made_107 : decode cX12_made 107 = .ok (.tableswitch 66 0 3 #[29, 37, 50, 58], 29) := by decide +kernel
theorem dX12_made_136 : decode cX12_made 136 = .ok (.aload_n 0, 1) := by decide +kernel
theorem dX12_made_137 : decode cX12_made 137 = .ok (.getfield 38, 3) := by decide +kernel
theorem dX12_made_140 : decode cX12_made 140 = .ok (.iload 6, 2) := by decide +kernel
theorem dX12_made_142 : decode cX12_made 142 = .ok (.iaload, 1) := by decide +kernel
theorem dX12_made_143 : decode cX12_made 143 = .ok (.ireturn, 1) := by decide +kernel
theorem dX12_made_144 : decode cX12_made 144 = .ok (.aload_n 0, 1) := by decide +kernel
theorem dX12_made_145 : decode cX12_made 145 = .ok (.iload_n 3, 1) := by decide +kernel
theorem dX12_made_146 : decode cX12_made 146 = .ok (.aload_n 0, 1) := by decide +kernel
theorem dX12_made_147 : decode cX12_made 147 = .ok (.getfield 44, 3) := by decide +kernel
theorem dX12_made_150 : decode cX12_made 150 = .ok (.iload 6, 2) := by decide +kernel
theorem dX12_made_152 : decode cX12_made 152 = .ok (.iaload, 1) := by decide +kernel
theorem dX12_made_153 : decode cX12_made 153 = .ok (.invokevirtual 258, 3) := by decide +kernel
theorem dX12_made_156 : decode cX12_made 156 = .ok (.ireturn, 1) := by decide +kernel
theorem dX12_made_157 : decode cX12_made 157 = .ok (.aload_n 0, 1) := by decide +kernel
theorem dX12_made_158 : decode cX12_made 158 = .ok (.getfield 41, 3) := by decide +kernel
theorem dX12_made_161 : decode cX12_made 161 = .ok (.iload 6, 2) := by decide +kernel
theorem dX12_made_163 : decode cX12_made 163 = .ok (.iaload, 1) := by decide +kernel
theorem dX12_made_164 : decode cX12_made 164 = .ok (.ireturn, 1) := by decide +kernel
theorem dX12_made_165 : decode cX12_made 165 = .ok (.aload_n 0, 1) := by decide +kernel
theorem dX12_made_166 : decode cX12_made 166 = .ok (.iload_n 3, 1) := by decide +kernel
theorem dX12_made_167 : decode cX12_made 167 = .ok (.iload 6, 2) := by decide +kernel
theorem dX12_made_169 : decode cX12_made 169 = .ok (.invokevirtual 276, 3) := by decide +kernel
theorem dX12_made_172 : decode cX12_made 172 = .ok (.ireturn, 1) := by decide +kernel
theorem dX12_made_173 : decode cX12_made 173 = .ok (.bipush (-2), 2) := by decide +kernel
theorem dX12_made_175 : decode cX12_made 175 = .ok (.ireturn, 1) := by decide +kernel
theorem dX12_moveAt_0 : decode cX12_moveAt 0 = .ok (.iload_n 2, 1) := by decide +kernel
theorem dX12_moveAt_1 : decode cX12_moveAt 1 = .ok (.iconst 1, 1) := by decide +kernel
theorem dX12_moveAt_2 : decode cX12_moveAt 2 = .ok (.isub, 1) := by decide +kernel
theorem dX12_moveAt_3 : decode cX12_moveAt 3 = .ok (.aload_n 0, 1) := by decide +kernel
theorem dX12_moveAt_4 : decode cX12_moveAt 4 = .ok (.bipush 11, 2) := by decide +kernel
theorem dX12_moveAt_6 : decode cX12_moveAt 6 = .ok (.iload_n 1, 1) := by decide +kernel
theorem dX12_moveAt_7 : decode cX12_moveAt 7 = .ok (.iadd, 1) := by decide +kernel
theorem dX12_moveAt_8 : decode cX12_moveAt 8 = .ok (.invokevirtual 212, 3) := by decide +kernel
theorem dX12_moveAt_11 : decode cX12_moveAt 11 = .ok (.isub, 1) := by decide +kernel
theorem dX12_moveAt_12 : decode cX12_moveAt 12 = .ok (.istore_n 3, 1) := by decide +kernel
theorem dX12_moveAt_13 : decode cX12_moveAt 13 = .ok (.iload_n 3, 1) := by decide +kernel
theorem dX12_moveAt_14 : decode cX12_moveAt 14 = .ok (.iconst 0, 1) := by decide +kernel
theorem dX12_moveAt_15 : decode cX12_moveAt 15 = .ok (.aload_n 0, 1) := by decide +kernel
theorem dX12_moveAt_16 : decode cX12_moveAt 16 = .ok (.getfield 47, 3) := by decide +kernel
theorem dX12_moveAt_19 : decode cX12_moveAt 19 = .ok (.iload_n 1, 1) := by decide +kernel
theorem dX12_moveAt_20 : decode cX12_moveAt 20 = .ok (.iaload, 1) := by decide +kernel
theorem dX12_moveAt_21 : decode cX12_moveAt 21 = .ok (.iconst 1, 1) := by decide +kernel
theorem dX12_moveAt_22 : decode cX12_moveAt 22 = .ok (.isub, 1) := by decide +kernel
theorem dX12_moveAt_23 : decode cX12_moveAt 23 = .ok (.invokestatic 145, 3) := by decide +kernel
theorem dX12_moveAt_26 : decode cX12_moveAt 26 = .ok (.ifCond .eq 17, 3) := by decide +kernel
theorem dX12_moveAt_29 : decode cX12_moveAt 29 = .ok (.aload_n 0, 1) := by decide +kernel
theorem dX12_moveAt_30 : decode cX12_moveAt 30 = .ok (.getfield 38, 3) := by decide +kernel
theorem dX12_moveAt_33 : decode cX12_moveAt 33 = .ok (.bipush 24, 2) := by decide +kernel
theorem dX12_moveAt_35 : decode cX12_moveAt 35 = .ok (.iload_n 1, 1) := by decide +kernel
theorem dX12_moveAt_36 : decode cX12_moveAt 36 = .ok (.imul, 1) := by decide +kernel
theorem dX12_moveAt_37 : decode cX12_moveAt 37 = .ok (.iload_n 3, 1) := by decide +kernel
theorem dX12_moveAt_38 : decode cX12_moveAt 38 = .ok (.iadd, 1) := by decide +kernel
theorem dX12_moveAt_39 : decode cX12_moveAt 39 = .ok (.iaload, 1) := by decide +kernel
theorem dX12_moveAt_40 : decode cX12_moveAt 40 = .ok (.goto 4, 3) := by decide +kernel
theorem dX12_moveAt_43 : decode cX12_moveAt 43 = .ok (.iconst 0, 1) := by decide +kernel
theorem dX12_moveAt_44 : decode cX12_moveAt 44 = .ok (.ireturn, 1) := by decide +kernel
theorem dX12_goesTo_0 : decode cX12_goesTo 0 = .ok (.aload_n 0, 1) := by decide +kernel
theorem dX12_goesTo_1 : decode cX12_goesTo 1 = .ok (.getfield 53, 3) := by decide +kernel
theorem dX12_goesTo_4 : decode cX12_goesTo 4 = .ok (.iload_n 1, 1) := by decide +kernel
theorem dX12_goesTo_5 : decode cX12_goesTo 5 = .ok (.iaload, 1) := by decide +kernel
theorem dX12_goesTo_6 : decode cX12_goesTo 6 = .ok (.istore_n 3, 1) := by decide +kernel
theorem dX12_goesTo_7 : decode cX12_goesTo 7 = .ok (.aload_n 0, 1) := by decide +kernel
theorem dX12_goesTo_8 : decode cX12_goesTo 8 = .ok (.getfield 53, 3) := by decide +kernel
theorem dX12_goesTo_11 : decode cX12_goesTo 11 = .ok (.iconst 1, 1) := by decide +kernel
theorem dX12_goesTo_12 : decode cX12_goesTo 12 = .ok (.iload_n 1, 1) := by decide +kernel
theorem dX12_goesTo_13 : decode cX12_goesTo 13 = .ok (.isub, 1) := by decide +kernel
theorem dX12_goesTo_14 : decode cX12_goesTo 14 = .ok (.iaload, 1) := by decide +kernel
theorem dX12_goesTo_15 : decode cX12_goesTo 15 = .ok (.iload_n 3, 1) := by decide +kernel
theorem dX12_goesTo_16 : decode cX12_goesTo 16 = .ok (.isub, 1) := by decide +kernel
theorem dX12_goesTo_17 : decode cX12_goesTo 17 = .ok (.istore 4, 2) := by decide +kernel
theorem dX12_goesTo_19 : decode cX12_goesTo 19 = .ok (.iload 4, 2) := by decide +kernel
theorem dX12_goesTo_21 : decode cX12_goesTo 21 = .ok (.ifCond .le 7, 3) := by decide +kernel
theorem dX12_goesTo_24 : decode cX12_goesTo 24 = .ok (.iconst 2, 1) := by decide +kernel
theorem dX12_goesTo_25 : decode cX12_goesTo 25 = .ok (.goto 14, 3) := by decide +kernel
theorem dX12_goesTo_28 : decode cX12_goesTo 28 = .ok (.iload 4, 2) := by decide +kernel
theorem dX12_goesTo_30 : decode cX12_goesTo 30 = .ok (.ifCond .ge 8, 3) := by decide +kernel
theorem dX12_goesTo_33 : decode cX12_goesTo 33 = .ok (.bipush (-2), 2) := by decide +kernel
theorem dX12_goesTo_35 : decode cX12_goesTo 35 = .ok (.goto 4, 3) := by decide +kernel
theorem dX12_goesTo_38 : decode cX12_goesTo 38 = .ok (.iconst 0, 1) := by decide +kernel
theorem dX12_goesTo_39 : decode cX12_goesTo 39 = .ok (.istore 5, 2) := by decide +kernel
theorem dX12_goesTo_41 : decode cX12_goesTo 41 = .ok (.iload 4, 2) := by decide +kernel
theorem dX12_goesTo_43 : decode cX12_goesTo 43 = .ok (.ifCond .le 8, 3) := by decide +kernel
theorem dX12_goesTo_46 : decode cX12_goesTo 46 = .ok (.bipush (-2), 2) := by decide +kernel
theorem dX12_goesTo_48 : decode cX12_goesTo 48 = .ok (.goto 22, 3) := by decide +kernel
theorem dX12_goesTo_51 : decode cX12_goesTo 51 = .ok (.iload 4, 2) := by decide +kernel
theorem dX12_goesTo_53 : decode cX12_goesTo 53 = .ok (.ifCond .ge 7, 3) := by decide +kernel
theorem dX12_goesTo_56 : decode cX12_goesTo 56 = .ok (.iconst 2, 1) := by decide +kernel
theorem dX12_goesTo_57 : decode cX12_goesTo 57 = .ok (.goto 13, 3) := by decide +kernel
theorem dX12_goesTo_60 : decode cX12_goesTo 60 = .ok (.iload_n 1, 1) := by decide +kernel
theorem dX12_goesTo_61 : decode cX12_goesTo 61 = .ok (.ifCond .ne 8, 3) := by decide +kernel
theorem dX12_goesTo_64 : decode cX12_goesTo 64 = .ok (.bipush (-2), 2) := by decide +kernel
theorem dX12_goesTo_66 : decode cX12_goesTo 66 = .ok (.goto 4, 3) := by decide +kernel
theorem dX12_goesTo_69 : decode cX12_goesTo 69 = .ok (.iconst 2, 1) := by decide +kernel
theorem dX12_goesTo_70 : decode cX12_goesTo 70 = .ok (.istore 6, 2) := by decide +kernel
theorem dX12_goesTo_72 : decode cX12_goesTo 72 = .ok (.aload_n 0, 1) := by decide +kernel
theorem dX12_goesTo_73 : decode cX12_goesTo 73 = .ok (.iload_n 1, 1) := by decide +kernel
theorem dX12_goesTo_74 : decode cX12_goesTo 74 = .ok (.iload_n 2, 1) := by decide +kernel
theorem dX12_goesTo_75 : decode cX12_goesTo 75 = .ok (.invokevirtual 279, 3) := by decide +kernel
theorem dX12_goesTo_78 : decode cX12_goesTo 78 = .ok (.tableswitch 48 1 4 #[30, 34, 38, 43], 30) := by decide +kernel
theorem dX12_goesTo_108 : decode cX12_goesTo 108 = .ok (.iload_n 3, 1) := by decide +kernel
theorem dX12_goesTo_109 : decode cX12_goesTo 109 = .ok (.iconst 1, 1) := by decide +kernel
theorem dX12_goesTo_110 : decode cX12_goesTo 110 = .ok (.isub, 1) := by decide +kernel
theorem dX12_goesTo_111 : decode cX12_goesTo 111 = .ok (.ireturn, 1) := by decide +kernel
theorem dX12_goesTo_112 : decode cX12_goesTo 112 = .ok (.iload_n 3, 1) := by decide +kernel
theorem dX12_goesTo_113 : decode cX12_goesTo 113 = .ok (.iconst 1, 1) := by decide +kernel
theorem dX12_goesTo_114 : decode cX12_goesTo 114 = .ok (.iadd, 1) := by decide +kernel
theorem dX12_goesTo_115 : decode cX12_goesTo 115 = .ok (.ireturn, 1) := by decide +kernel
theorem dX12_goesTo_116 : decode cX12_goesTo 116 = .ok (.iload_n 3, 1) := by decide +kernel
theorem dX12_goesTo_117 : decode cX12_goesTo 117 = .ok (.iload 5, 2) := by decide +kernel
theorem dX12_goesTo_119 : decode cX12_goesTo 119 = .ok (.iadd, 1) := by decide +kernel
theorem dX12_goesTo_120 : decode cX12_goesTo 120 = .ok (.ireturn, 1) := by decide +kernel
theorem dX12_goesTo_121 : decode cX12_goesTo 121 = .ok (.iload_n 3, 1) := by decide +kernel
theorem dX12_goesTo_122 : decode cX12_goesTo 122 = .ok (.iload 6, 2) := by decide +kernel
theorem dX12_goesTo_124 : decode cX12_goesTo 124 = .ok (.iadd, 1) := by decide +kernel
theorem dX12_goesTo_125 : decode cX12_goesTo 125 = .ok (.ireturn, 1) := by decide +kernel
theorem dX12_goesTo_126 : decode cX12_goesTo 126 = .ok (.iload_n 3, 1) := by decide +kernel
theorem dX12_goesTo_127 : decode cX12_goesTo 127 = .ok (.ireturn, 1) := by decide +kernel
theorem dX12_begins_0 : decode cX12_begins 0 = .ok (.aload_n 0, 1) := by decide +kernel
theorem dX12_begins_1 : decode cX12_begins 1 = .ok (.iconst 0, 1) := by decide +kernel
theorem dX12_begins_2 : decode cX12_begins 2 = .ok (.invokevirtual 270, 3) := by decide +kernel
theorem dX12_begins_5 : decode cX12_begins 5 = .ok (.aload_n 0, 1) := by decide +kernel
theorem dX12_begins_6 : decode cX12_begins 6 = .ok (.iconst 1, 1) := by decide +kernel
theorem dX12_begins_7 : decode cX12_begins 7 = .ok (.invokevirtual 270, 3) := by decide +kernel
theorem dX12_begins_10 : decode cX12_begins 10 = .ok (.aload_n 0, 1) := by decide +kernel
theorem dX12_begins_11 : decode cX12_begins 11 = .ok (.getfield 53, 3) := by decide +kernel
theorem dX12_begins_14 : decode cX12_begins 14 = .ok (.iconst 0, 1) := by decide +kernel
theorem dX12_begins_15 : decode cX12_begins 15 = .ok (.aload_n 0, 1) := by decide +kernel
theorem dX12_begins_16 : decode cX12_begins 16 = .ok (.bipush 13, 2) := by decide +kernel
theorem dX12_begins_18 : decode cX12_begins 18 = .ok (.invokevirtual 212, 3) := by decide +kernel
theorem dX12_begins_21 : decode cX12_begins 21 = .ok (.iastore, 1) := by decide +kernel
theorem dX12_begins_22 : decode cX12_begins 22 = .ok (.aload_n 0, 1) := by decide +kernel
theorem dX12_begins_23 : decode cX12_begins 23 = .ok (.getfield 53, 3) := by decide +kernel
theorem dX12_begins_26 : decode cX12_begins 26 = .ok (.iconst 1, 1) := by decide +kernel
theorem dX12_begins_27 : decode cX12_begins 27 = .ok (.aload_n 0, 1) := by decide +kernel
theorem dX12_begins_28 : decode cX12_begins 28 = .ok (.bipush 14, 2) := by decide +kernel
theorem dX12_begins_30 : decode cX12_begins 30 = .ok (.invokevirtual 212, 3) := by decide +kernel
theorem dX12_begins_33 : decode cX12_begins 33 = .ok (.iastore, 1) := by decide +kernel
theorem dX12_begins_34 : decode cX12_begins 34 = .ok (.return_, 1) := by decide +kernel
theorem dX12_steps_0 : decode cX12_steps 0 = .ok (.aload_n 0, 1) := by decide +kernel
theorem dX12_steps_1 : decode cX12_steps 1 = .ok (.iconst 0, 1) := by decide +kernel
theorem dX12_steps_2 : decode cX12_steps 2 = .ok (.iload_n 1, 1) := by decide +kernel
theorem dX12_steps_3 : decode cX12_steps 3 = .ok (.invokevirtual 282, 3) := by decide +kernel
theorem dX12_steps_6 : decode cX12_steps 6 = .ok (.istore_n 2, 1) := by decide +kernel
theorem dX12_steps_7 : decode cX12_steps 7 = .ok (.aload_n 0, 1) := by decide +kernel
theorem dX12_steps_8 : decode cX12_steps 8 = .ok (.iconst 1, 1) := by decide +kernel
theorem dX12_steps_9 : decode cX12_steps 9 = .ok (.iload_n 1, 1) := by decide +kernel
theorem dX12_steps_10 : decode cX12_steps 10 = .ok (.invokevirtual 282, 3) := by decide +kernel
theorem dX12_steps_13 : decode cX12_steps 13 = .ok (.istore_n 3, 1) := by decide +kernel
theorem dX12_steps_14 : decode cX12_steps 14 = .ok (.aload_n 0, 1) := by decide +kernel
theorem dX12_steps_15 : decode cX12_steps 15 = .ok (.getfield 53, 3) := by decide +kernel
theorem dX12_steps_18 : decode cX12_steps 18 = .ok (.iconst 0, 1) := by decide +kernel
theorem dX12_steps_19 : decode cX12_steps 19 = .ok (.iload_n 2, 1) := by decide +kernel
theorem dX12_steps_20 : decode cX12_steps 20 = .ok (.iastore, 1) := by decide +kernel
theorem dX12_steps_21 : decode cX12_steps 21 = .ok (.aload_n 0, 1) := by decide +kernel
theorem dX12_steps_22 : decode cX12_steps 22 = .ok (.getfield 53, 3) := by decide +kernel
theorem dX12_steps_25 : decode cX12_steps 25 = .ok (.iconst 1, 1) := by decide +kernel
theorem dX12_steps_26 : decode cX12_steps 26 = .ok (.iload_n 3, 1) := by decide +kernel
theorem dX12_steps_27 : decode cX12_steps 27 = .ok (.iastore, 1) := by decide +kernel
theorem dX12_steps_28 : decode cX12_steps 28 = .ok (.return_, 1) := by decide +kernel
theorem dX12_march_0 : decode cX12_march 0 = .ok (.aload_n 0, 1) := by decide +kernel
theorem dX12_march_1 : decode cX12_march 1 = .ok (.iload_n 1, 1) := by decide +kernel
theorem dX12_march_2 : decode cX12_march 2 = .ok (.iload_n 2, 1) := by decide +kernel
theorem dX12_march_3 : decode cX12_march 3 = .ok (.invokevirtual 255, 3) := by decide +kernel
theorem dX12_march_6 : decode cX12_march 6 = .ok (.ifCond .eq 21, 3) := by decide +kernel
theorem dX12_march_9 : decode cX12_march 9 = .ok (.iload_n 3, 1) := by decide +kernel
theorem dX12_march_10 : decode cX12_march 10 = .ok (.invokestatic 218, 3) := by decide +kernel
theorem dX12_march_13 : decode cX12_march 13 = .ok (.ifCond .eq 14, 3) := by decide +kernel
theorem dX12_march_16 : decode cX12_march 16 = .ok (.iload 4, 2) := by decide +kernel
theorem dX12_march_18 : decode cX12_march 18 = .ok (.iconst 0, 1) := by decide +kernel
theorem dX12_march_19 : decode cX12_march 19 = .ok (.bipush 24, 2) := by decide +kernel
theorem dX12_march_21 : decode cX12_march 21 = .ok (.invokestatic 145, 3) := by decide +kernel
theorem dX12_march_24 : decode cX12_march 24 = .ok (.ifCond .ne 7, 3) := by decide +kernel
theorem dX12_march_27 : decode cX12_march 27 = .ok (.sipush (-1000), 3) := by decide +kernel
theorem dX12_march_30 : decode cX12_march 30 = .ok (.ireturn, 1) := by decide +kernel
theorem dX12_march_31 : decode cX12_march 31 = .ok (.aload_n 0, 1) := by decide +kernel
theorem dX12_march_32 : decode cX12_march 32 = .ok (.invokevirtual 285, 3) := by decide +kernel
theorem dX12_march_35 : decode cX12_march 35 = .ok (.iconst 1, 1) := by decide +kernel
theorem dX12_march_36 : decode cX12_march 36 = .ok (.istore 5, 2) := by decide +kernel
theorem dX12_march_38 : decode cX12_march 38 = .ok (.iload 5, 2) := by decide +kernel
theorem dX12_march_40 : decode cX12_march 40 = .ok (.iload 4, 2) := by decide +kernel
theorem dX12_march_42 : decode cX12_march 42 = .ok (.if_icmp .gt 15, 3) := by decide +kernel
theorem dX12_march_45 : decode cX12_march 45 = .ok (.aload_n 0, 1) := by decide +kernel
theorem dX12_march_46 : decode cX12_march 46 = .ok (.iload 5, 2) := by decide +kernel
theorem dX12_march_48 : decode cX12_march 48 = .ok (.invokevirtual 288, 3) := by decide +kernel
theorem dX12_march_51 : decode cX12_march 51 = .ok (.iinc 5 1, 3) := by decide +kernel
theorem dX12_march_54 : decode cX12_march 54 = .ok (.goto (-16), 3) := by decide +kernel
theorem dX12_march_57 : decode cX12_march 57 = .ok (.aload_n 0, 1) := by decide +kernel
theorem dX12_march_58 : decode cX12_march 58 = .ok (.getfield 53, 3) := by decide +kernel
theorem dX12_march_61 : decode cX12_march 61 = .ok (.iload_n 3, 1) := by decide +kernel
theorem dX12_march_62 : decode cX12_march 62 = .ok (.iaload, 1) := by decide +kernel
theorem dX12_march_63 : decode cX12_march 63 = .ok (.ireturn, 1) := by decide +kernel
theorem dX12_meeting_0 : decode cX12_meeting 0 = .ok (.aload_n 0, 1) := by decide +kernel
theorem dX12_meeting_1 : decode cX12_meeting 1 = .ok (.invokevirtual 285, 3) := by decide +kernel
theorem dX12_meeting_4 : decode cX12_meeting 4 = .ok (.iconst 0, 1) := by decide +kernel
theorem dX12_meeting_5 : decode cX12_meeting 5 = .ok (.istore_n 1, 1) := by decide +kernel
theorem dX12_meeting_6 : decode cX12_meeting 6 = .ok (.iload_n 1, 1) := by decide +kernel
theorem dX12_meeting_7 : decode cX12_meeting 7 = .ok (.bipush 24, 2) := by decide +kernel
theorem dX12_meeting_9 : decode cX12_meeting 9 = .ok (.if_icmp .gt 68, 3) := by decide +kernel
theorem dX12_meeting_12 : decode cX12_meeting 12 = .ok (.aload_n 0, 1) := by decide +kernel
theorem dX12_meeting_13 : decode cX12_meeting 13 = .ok (.getfield 53, 3) := by decide +kernel
theorem dX12_meeting_16 : decode cX12_meeting 16 = .ok (.iconst 1, 1) := by decide +kernel
theorem dX12_meeting_17 : decode cX12_meeting 17 = .ok (.iaload, 1) := by decide +kernel
theorem dX12_meeting_18 : decode cX12_meeting 18 = .ok (.aload_n 0, 1) := by decide +kernel
theorem dX12_meeting_19 : decode cX12_meeting 19 = .ok (.getfield 53, 3) := by decide +kernel
theorem dX12_meeting_22 : decode cX12_meeting 22 = .ok (.iconst 0, 1) := by decide +kernel
theorem dX12_meeting_23 : decode cX12_meeting 23 = .ok (.iaload, 1) := by decide +kernel
theorem dX12_meeting_24 : decode cX12_meeting 24 = .ok (.isub, 1) := by decide +kernel
theorem dX12_meeting_25 : decode cX12_meeting 25 = .ok (.istore_n 2, 1) := by decide +kernel
theorem dX12_meeting_26 : decode cX12_meeting 26 = .ok (.iload_n 1, 1) := by decide +kernel
theorem dX12_meeting_27 : decode cX12_meeting 27 = .ok (.ifCond .le 8, 3) := by decide +kernel
theorem dX12_meeting_30 : decode cX12_meeting 30 = .ok (.aload_n 0, 1) := by decide +kernel
theorem dX12_meeting_31 : decode cX12_meeting 31 = .ok (.iload_n 1, 1) := by decide +kernel
theorem dX12_meeting_32 : decode cX12_meeting 32 = .ok (.invokevirtual 288, 3) := by decide +kernel
theorem dX12_meeting_35 : decode cX12_meeting 35 = .ok (.aload_n 0, 1) := by decide +kernel
theorem dX12_meeting_36 : decode cX12_meeting 36 = .ok (.getfield 53, 3) := by decide +kernel
theorem dX12_meeting_39 : decode cX12_meeting 39 = .ok (.iconst 1, 1) := by decide +kernel
theorem dX12_meeting_40 : decode cX12_meeting 40 = .ok (.iaload, 1) := by decide +kernel
theorem dX12_meeting_41 : decode cX12_meeting 41 = .ok (.aload_n 0, 1) := by decide +kernel
theorem dX12_meeting_42 : decode cX12_meeting 42 = .ok (.getfield 53, 3) := by decide +kernel
theorem dX12_meeting_45 : decode cX12_meeting 45 = .ok (.iconst 0, 1) := by decide +kernel
theorem dX12_meeting_46 : decode cX12_meeting 46 = .ok (.iaload, 1) := by decide +kernel
theorem dX12_meeting_47 : decode cX12_meeting 47 = .ok (.isub, 1) := by decide +kernel
theorem dX12_meeting_48 : decode cX12_meeting 48 = .ok (.istore_n 3, 1) := by decide +kernel
theorem dX12_meeting_49 : decode cX12_meeting 49 = .ok (.iload_n 3, 1) := by decide +kernel
theorem dX12_meeting_50 : decode cX12_meeting 50 = .ok (.ifCond .eq 19, 3) := by decide +kernel
theorem dX12_meeting_53 : decode cX12_meeting 53 = .ok (.iload_n 2, 1) := by decide +kernel
theorem dX12_meeting_54 : decode cX12_meeting 54 = .ok (.ifCond .le 7, 3) := by decide +kernel
theorem dX12_meeting_57 : decode cX12_meeting 57 = .ok (.iload_n 3, 1) := by decide +kernel
theorem dX12_meeting_58 : decode cX12_meeting 58 = .ok (.ifCond .lt 11, 3) := by decide +kernel
theorem dX12_meeting_61 : decode cX12_meeting 61 = .ok (.iload_n 2, 1) := by decide +kernel
theorem dX12_meeting_62 : decode cX12_meeting 62 = .ok (.ifCond .ge 9, 3) := by decide +kernel
theorem dX12_meeting_65 : decode cX12_meeting 65 = .ok (.iload_n 3, 1) := by decide +kernel
theorem dX12_meeting_66 : decode cX12_meeting 66 = .ok (.ifCond .le 5, 3) := by decide +kernel
theorem dX12_meeting_69 : decode cX12_meeting 69 = .ok (.iload_n 1, 1) := by decide +kernel
theorem dX12_meeting_70 : decode cX12_meeting 70 = .ok (.ireturn, 1) := by decide +kernel
theorem dX12_meeting_71 : decode cX12_meeting 71 = .ok (.iinc 1 1, 3) := by decide +kernel
theorem dX12_meeting_74 : decode cX12_meeting 74 = .ok (.goto (-68), 3) := by decide +kernel
theorem dX12_meeting_77 : decode cX12_meeting 77 = .ok (.iconst (-1), 1) := by decide +kernel
theorem dX12_meeting_78 : decode cX12_meeting 78 = .ok (.ireturn, 1) := by decide +kernel
theorem dX12_meets_0 : decode cX12_meets 0 = .ok (.aload_n 0, 1) := by decide +kernel
theorem dX12_meets_1 : decode cX12_meets 1 = .ok (.iload_n 1, 1) := by decide +kernel
theorem dX12_meets_2 : decode cX12_meets 2 = .ok (.iload_n 2, 1) := by decide +kernel
theorem dX12_meets_3 : decode cX12_meets 3 = .ok (.invokevirtual 255, 3) := by decide +kernel
theorem dX12_meets_6 : decode cX12_meets 6 = .ok (.ifCond .eq 10, 3) := by decide +kernel
theorem dX12_meets_9 : decode cX12_meets 9 = .ok (.aload_n 0, 1) := by decide +kernel
theorem dX12_meets_10 : decode cX12_meets 10 = .ok (.invokevirtual 291, 3) := by decide +kernel
theorem dX12_meets_13 : decode cX12_meets 13 = .ok (.goto 4, 3) := by decide +kernel
theorem dX12_meets_16 : decode cX12_meets 16 = .ok (.iconst (-1), 1) := by decide +kernel
theorem dX12_meets_17 : decode cX12_meets 17 = .ok (.ireturn, 1) := by decide +kernel
theorem dX12_givesNumber_0 : decode cX12_givesNumber 0 = .ok (.iload_n 2, 1) := by decide +kernel
theorem dX12_givesNumber_1 : decode cX12_givesNumber 1 = .ok (.istore 4, 2) := by decide +kernel
theorem dX12_givesNumber_3 : decode cX12_givesNumber 3 = .ok (.aload_n 0, 1) := by decide +kernel
theorem dX12_givesNumber_4 : decode cX12_givesNumber 4 = .ok (.getfield 23, 3) := by decide +kernel
theorem dX12_givesNumber_7 : decode cX12_givesNumber 7 = .ok (.iload_n 1, 1) := by decide +kernel
theorem dX12_givesNumber_8 : decode cX12_givesNumber 8 = .ok (.iload_n 3, 1) := by decide +kernel
theorem dX12_givesNumber_9 : decode cX12_givesNumber 9 = .ok (.iastore, 1) := by decide +kernel
theorem dX12_givesNumber_10 : decode cX12_givesNumber 10 = .ok (.iload_n 3, 1) := by decide +kernel
theorem dX12_givesNumber_11 : decode cX12_givesNumber 11 = .ok (.iconst 1, 1) := by decide +kernel
theorem dX12_givesNumber_12 : decode cX12_givesNumber 12 = .ok (.isub, 1) := by decide +kernel
theorem dX12_givesNumber_13 : decode cX12_givesNumber 13 = .ok (.istore 5, 2) := by decide +kernel
theorem dX12_givesNumber_15 : decode cX12_givesNumber 15 = .ok (.iload 5, 2) := by decide +kernel
theorem dX12_givesNumber_17 : decode cX12_givesNumber 17 = .ok (.ifCond .lt 31, 3) := by decide +kernel
theorem dX12_givesNumber_20 : decode cX12_givesNumber 20 = .ok (.aload_n 0, 1) := by decide +kernel
theorem dX12_givesNumber_21 : decode cX12_givesNumber 21 = .ok (.getfield 20, 3) := by decide +kernel
theorem dX12_givesNumber_24 : decode cX12_givesNumber 24 = .ok (.bipush 12, 2) := by decide +kernel
theorem dX12_givesNumber_26 : decode cX12_givesNumber 26 = .ok (.iload_n 1, 1) := by decide +kernel
theorem dX12_givesNumber_27 : decode cX12_givesNumber 27 = .ok (.imul, 1) := by decide +kernel
theorem dX12_givesNumber_28 : decode cX12_givesNumber 28 = .ok (.iload 5, 2) := by decide +kernel
theorem dX12_givesNumber_30 : decode cX12_givesNumber 30 = .ok (.iadd, 1) := by decide +kernel
theorem dX12_givesNumber_31 : decode cX12_givesNumber 31 = .ok (.iload 4, 2) := by decide +kernel
theorem dX12_givesNumber_33 : decode cX12_givesNumber 33 = .ok (.iconst 4, 1) := by decide +kernel
theorem dX12_givesNumber_34 : decode cX12_givesNumber 34 = .ok (.irem, 1) := by decide +kernel
theorem dX12_givesNumber_35 : decode cX12_givesNumber 35 = .ok (.iastore, 1) := by decide +kernel
theorem dX12_givesNumber_36 : decode cX12_givesNumber 36 = .ok (.iload 4, 2) := by decide +kernel
theorem dX12_givesNumber_38 : decode cX12_givesNumber 38 = .ok (.iconst 4, 1) := by decide +kernel
theorem dX12_givesNumber_39 : decode cX12_givesNumber 39 = .ok (.idiv, 1) := by decide +kernel
theorem dX12_givesNumber_40 : decode cX12_givesNumber 40 = .ok (.istore 4, 2) := by decide +kernel
theorem dX12_givesNumber_42 : decode cX12_givesNumber 42 = .ok (.iinc 5 (-1), 3) := by decide +kernel
theorem dX12_givesNumber_45 : decode cX12_givesNumber 45 = .ok (.goto (-30), 3) := by decide +kernel
theorem dX12_givesNumber_48 : decode cX12_givesNumber 48 = .ok (.return_, 1) := by decide +kernel
theorem dX12_codesOf_0 : decode cX12_codesOf 0 = .ok (.iconst 1, 1) := by decide +kernel
theorem dX12_codesOf_1 : decode cX12_codesOf 1 = .ok (.iconst 2, 1) := by decide +kernel
theorem dX12_codesOf_2 : decode cX12_codesOf 2 = .ok (.iload_n 0, 1) := by decide +kernel
theorem dX12_codesOf_3 : decode cX12_codesOf 3 = .ok (.imul, 1) := by decide +kernel
theorem dX12_codesOf_4 : decode cX12_codesOf 4 = .ok (.ishl, 1) := by decide +kernel
theorem dX12_codesOf_5 : decode cX12_codesOf 5 = .ok (.ireturn, 1) := by decide +kernel
theorem dX12_isMade_0 : decode cX12_isMade 0 = .ok (.aload_n 0, 1) := by decide +kernel
theorem dX12_isMade_1 : decode cX12_isMade 1 = .ok (.iload_n 1, 1) := by decide +kernel
theorem dX12_isMade_2 : decode cX12_isMade 2 = .ok (.invokevirtual 270, 3) := by decide +kernel
theorem dX12_isMade_5 : decode cX12_isMade 5 = .ok (.iconst 0, 1) := by decide +kernel
theorem dX12_isMade_6 : decode cX12_isMade 6 = .ok (.istore_n 3, 1) := by decide +kernel
theorem dX12_isMade_7 : decode cX12_isMade 7 = .ok (.iconst 0, 1) := by decide +kernel
theorem dX12_isMade_8 : decode cX12_isMade 8 = .ok (.istore 4, 2) := by decide +kernel
theorem dX12_isMade_10 : decode cX12_isMade 10 = .ok (.iload 4, 2) := by decide +kernel
theorem dX12_isMade_12 : decode cX12_isMade 12 = .ok (.aload_n 0, 1) := by decide +kernel
theorem dX12_isMade_13 : decode cX12_isMade 13 = .ok (.getfield 47, 3) := by decide +kernel
theorem dX12_isMade_16 : decode cX12_isMade 16 = .ok (.iload_n 1, 1) := by decide +kernel
theorem dX12_isMade_17 : decode cX12_isMade 17 = .ok (.iaload, 1) := by decide +kernel
theorem dX12_isMade_18 : decode cX12_isMade 18 = .ok (.if_icmp .ge 35, 3) := by decide +kernel
theorem dX12_isMade_21 : decode cX12_isMade 21 = .ok (.iload_n 3, 1) := by decide +kernel
theorem dX12_isMade_22 : decode cX12_isMade 22 = .ok (.ifCond .ne 19, 3) := by decide +kernel
theorem dX12_isMade_25 : decode cX12_isMade 25 = .ok (.aload_n 0, 1) := by decide +kernel
theorem dX12_isMade_26 : decode cX12_isMade 26 = .ok (.getfield 38, 3) := by decide +kernel
theorem dX12_isMade_29 : decode cX12_isMade 29 = .ok (.bipush 24, 2) := by decide +kernel
theorem dX12_isMade_31 : decode cX12_isMade 31 = .ok (.iload_n 1, 1) := by decide +kernel
theorem dX12_isMade_32 : decode cX12_isMade 32 = .ok (.imul, 1) := by decide +kernel
theorem dX12_isMade_33 : decode cX12_isMade 33 = .ok (.iload 4, 2) := by decide +kernel
theorem dX12_isMade_35 : decode cX12_isMade 35 = .ok (.iadd, 1) := by decide +kernel
theorem dX12_isMade_36 : decode cX12_isMade 36 = .ok (.iaload, 1) := by decide +kernel
theorem dX12_isMade_37 : decode cX12_isMade 37 = .ok (.iload_n 2, 1) := by decide +kernel
theorem dX12_isMade_38 : decode cX12_isMade 38 = .ok (.if_icmp .ne 7, 3) := by decide +kernel
theorem dX12_isMade_41 : decode cX12_isMade 41 = .ok (.iconst 1, 1) := by decide +kernel
theorem dX12_isMade_42 : decode cX12_isMade 42 = .ok (.goto 4, 3) := by decide +kernel
theorem dX12_isMade_45 : decode cX12_isMade 45 = .ok (.iconst 0, 1) := by decide +kernel
theorem dX12_isMade_46 : decode cX12_isMade 46 = .ok (.istore_n 3, 1) := by decide +kernel
theorem dX12_isMade_47 : decode cX12_isMade 47 = .ok (.iinc 4 1, 3) := by decide +kernel
theorem dX12_isMade_50 : decode cX12_isMade 50 = .ok (.goto (-40), 3) := by decide +kernel
theorem dX12_isMade_53 : decode cX12_isMade 53 = .ok (.iload_n 3, 1) := by decide +kernel
theorem dX12_isMade_54 : decode cX12_isMade 54 = .ok (.ireturn, 1) := by decide +kernel
theorem dX12_isForced_0 : decode cX12_isForced 0 = .ok (.iconst 1, 1) := by decide +kernel
theorem dX12_isForced_1 : decode cX12_isForced 1 = .ok (.istore 5, 2) := by decide +kernel
theorem dX12_isForced_3 : decode cX12_isForced 3 = .ok (.iconst 0, 1) := by decide +kernel
theorem dX12_isForced_4 : decode cX12_isForced 4 = .ok (.istore 6, 2) := by decide +kernel
theorem dX12_isForced_6 : decode cX12_isForced 6 = .ok (.iload 6, 2) := by decide +kernel
theorem dX12_isForced_8 : decode cX12_isForced 8 = .ok (.iload_n 3, 1) := by decide +kernel
theorem dX12_isForced_9 : decode cX12_isForced 9 = .ok (.invokestatic 294, 3) := by decide +kernel
theorem dX12_isForced_12 : decode cX12_isForced 12 = .ok (.if_icmp .ge 49, 3) := by decide +kernel
theorem dX12_isForced_15 : decode cX12_isForced 15 = .ok (.iload 5, 2) := by decide +kernel
theorem dX12_isForced_17 : decode cX12_isForced 17 = .ok (.ifCond .eq 44, 3) := by decide +kernel
theorem dX12_isForced_20 : decode cX12_isForced 20 = .ok (.aload_n 0, 1) := by decide +kernel
theorem dX12_isForced_21 : decode cX12_isForced 21 = .ok (.iload_n 1, 1) := by decide +kernel
theorem dX12_isForced_22 : decode cX12_isForced 22 = .ok (.iload 4, 2) := by decide +kernel
theorem dX12_isForced_24 : decode cX12_isForced 24 = .ok (.iload_n 3, 1) := by decide +kernel
theorem dX12_isForced_25 : decode cX12_isForced 25 = .ok (.invokevirtual 297, 3) := by decide +kernel
theorem dX12_isForced_28 : decode cX12_isForced 28 = .ok (.aload_n 0, 1) := by decide +kernel
theorem dX12_isForced_29 : decode cX12_isForced 29 = .ok (.iconst 1, 1) := by decide +kernel
theorem dX12_isForced_30 : decode cX12_isForced 30 = .ok (.iload_n 1, 1) := by decide +kernel
theorem dX12_isForced_31 : decode cX12_isForced 31 = .ok (.isub, 1) := by decide +kernel
theorem dX12_isForced_32 : decode cX12_isForced 32 = .ok (.iload 6, 2) := by decide +kernel
theorem dX12_isForced_34 : decode cX12_isForced 34 = .ok (.iload_n 3, 1) := by decide +kernel
theorem dX12_isForced_35 : decode cX12_isForced 35 = .ok (.invokevirtual 297, 3) := by decide +kernel
theorem dX12_isForced_38 : decode cX12_isForced 38 = .ok (.aload_n 0, 1) := by decide +kernel
theorem dX12_isForced_39 : decode cX12_isForced 39 = .ok (.invokevirtual 246, 3) := by decide +kernel
theorem dX12_isForced_42 : decode cX12_isForced 42 = .ok (.aload_n 0, 1) := by decide +kernel
theorem dX12_isForced_43 : decode cX12_isForced 43 = .ok (.iconst 0, 1) := by decide +kernel
theorem dX12_isForced_44 : decode cX12_isForced 44 = .ok (.invokevirtual 252, 3) := by decide +kernel
theorem dX12_isForced_47 : decode cX12_isForced 47 = .ok (.aload_n 0, 1) := by decide +kernel
theorem dX12_isForced_48 : decode cX12_isForced 48 = .ok (.iload_n 1, 1) := by decide +kernel
theorem dX12_isForced_49 : decode cX12_isForced 49 = .ok (.iload_n 2, 1) := by decide +kernel
theorem dX12_isForced_50 : decode cX12_isForced 50 = .ok (.invokevirtual 301, 3) := by decide +kernel
theorem dX12_isForced_53 : decode cX12_isForced 53 = .ok (.istore 5, 2) := by decide +kernel
theorem dX12_isForced_55 : decode cX12_isForced 55 = .ok (.iinc 6 1, 3) := by decide +kernel
theorem dX12_isForced_58 : decode cX12_isForced 58 = .ok (.goto (-52), 3) := by decide +kernel
theorem dX12_isForced_61 : decode cX12_isForced 61 = .ok (.iload 5, 2) := by decide +kernel
theorem dX12_isForced_63 : decode cX12_isForced 63 = .ok (.ireturn, 1) := by decide +kernel
theorem dX12_force_0 : decode cX12_force 0 = .ok (.aload_n 0, 1) := by decide +kernel
theorem dX12_force_1 : decode cX12_force 1 = .ok (.iload_n 1, 1) := by decide +kernel
theorem dX12_force_2 : decode cX12_force 2 = .ok (.invokevirtual 224, 3) := by decide +kernel
theorem dX12_force_5 : decode cX12_force 5 = .ok (.ifCond .eq 29, 3) := by decide +kernel
theorem dX12_force_8 : decode cX12_force 8 = .ok (.iload_n 2, 1) := by decide +kernel
theorem dX12_force_9 : decode cX12_force 9 = .ok (.invokestatic 218, 3) := by decide +kernel
theorem dX12_force_12 : decode cX12_force 12 = .ok (.ifCond .eq 22, 3) := by decide +kernel
theorem dX12_force_15 : decode cX12_force 15 = .ok (.iload_n 3, 1) := by decide +kernel
theorem dX12_force_16 : decode cX12_force 16 = .ok (.iconst 0, 1) := by decide +kernel
theorem dX12_force_17 : decode cX12_force 17 = .ok (.iconst 4, 1) := by decide +kernel
theorem dX12_force_18 : decode cX12_force 18 = .ok (.invokestatic 145, 3) := by decide +kernel
theorem dX12_force_21 : decode cX12_force 21 = .ok (.ifCond .eq 13, 3) := by decide +kernel
theorem dX12_force_24 : decode cX12_force 24 = .ok (.iload 4, 2) := by decide +kernel
theorem dX12_force_26 : decode cX12_force 26 = .ok (.iconst 0, 1) := by decide +kernel
theorem dX12_force_27 : decode cX12_force 27 = .ok (.iconst 3, 1) := by decide +kernel
theorem dX12_force_28 : decode cX12_force 28 = .ok (.invokestatic 145, 3) := by decide +kernel
theorem dX12_force_31 : decode cX12_force 31 = .ok (.ifCond .ne 6, 3) := by decide +kernel
theorem dX12_force_34 : decode cX12_force 34 = .ok (.bipush (-2), 2) := by decide +kernel
theorem dX12_force_36 : decode cX12_force 36 = .ok (.ireturn, 1) := by decide +kernel
theorem dX12_force_37 : decode cX12_force 37 = .ok (.iconst 0, 1) := by decide +kernel
theorem dX12_force_38 : decode cX12_force 38 = .ok (.istore 6, 2) := by decide +kernel
theorem dX12_force_40 : decode cX12_force 40 = .ok (.iconst (-1), 1) := by decide +kernel
theorem dX12_force_41 : decode cX12_force 41 = .ok (.istore 7, 2) := by decide +kernel
theorem dX12_force_43 : decode cX12_force 43 = .ok (.iconst 0, 1) := by decide +kernel
theorem dX12_force_44 : decode cX12_force 44 = .ok (.istore 8, 2) := by decide +kernel
theorem dX12_force_46 : decode cX12_force 46 = .ok (.iload 8, 2) := by decide +kernel
theorem dX12_force_48 : decode cX12_force 48 = .ok (.iload 4, 2) := by decide +kernel
theorem dX12_force_50 : decode cX12_force 50 = .ok (.invokestatic 294, 3) := by decide +kernel
theorem dX12_force_53 : decode cX12_force 53 = .ok (.if_icmp .ge 43, 3) := by decide +kernel
theorem dX12_force_56 : decode cX12_force 56 = .ok (.aload_n 0, 1) := by decide +kernel
theorem dX12_force_57 : decode cX12_force 57 = .ok (.iload_n 2, 1) := by decide +kernel
theorem dX12_force_58 : decode cX12_force 58 = .ok (.iload_n 3, 1) := by decide +kernel
theorem dX12_force_59 : decode cX12_force 59 = .ok (.iload 4, 2) := by decide +kernel
theorem dX12_force_61 : decode cX12_force 61 = .ok (.iload 8, 2) := by decide +kernel
theorem dX12_force_63 : decode cX12_force 63 = .ok (.invokevirtual 304, 3) := by decide +kernel
theorem dX12_force_66 : decode cX12_force 66 = .ok (.ifCond .ne 6, 3) := by decide +kernel
theorem dX12_force_69 : decode cX12_force 69 = .ok (.goto 21, 3) := by decide +kernel
theorem dX12_force_72 : decode cX12_force 72 = .ok (.iload 7, 2) := by decide +kernel
theorem dX12_force_74 : decode cX12_force 74 = .ok (.iconst (-1), 1) := by decide +kernel
theorem dX12_force_75 : decode cX12_force 75 = .ok (.if_icmp .ne 8, 3) := by decide +kernel
theorem dX12_force_78 : decode cX12_force 78 = .ok (.iload 8, 2) := by decide +kernel
theorem dX12_force_80 : decode cX12_force 80 = .ok (.goto 5, 3) := by decide +kernel
theorem dX12_force_83 : decode cX12_force 83 = .ok (.iload 7, 2) := by decide +kernel
theorem dX12_force_85 : decode cX12_force 85 = .ok (.istore 7, 2) := by decide +kernel
theorem dX12_force_87 : decode cX12_force 87 = .ok (.iinc 6 1, 3) := by decide +kernel
theorem dX12_force_90 : decode cX12_force 90 = .ok (.iinc 8 1, 3) := by decide +kernel
theorem dX12_force_93 : decode cX12_force 93 = .ok (.goto (-47), 3) := by decide +kernel
theorem dX12_force_96 : decode cX12_force 96 = .ok (.iload 5, 2) := by decide +kernel
theorem dX12_force_98 : decode cX12_force 98 = .ok (.ifCond .eq 8, 3) := by decide +kernel
theorem dX12_force_101 : decode cX12_force 101 = .ok (.iload 6, 2) := by decide +kernel
theorem dX12_force_103 : decode cX12_force 103 = .ok (.goto 5, 3) := by decide +kernel
theorem dX12_force_106 : decode cX12_force 106 = .ok (.iload 7, 2) := by decide +kernel
theorem dX12_force_108 : decode cX12_force 108 = .ok (.ireturn, 1) := by decide +kernel
theorem dX12_isHearing_0 : decode cX12_isHearing 0 = .ok (.aload_n 0, 1) := by decide +kernel
theorem dX12_isHearing_1 : decode cX12_isHearing 1 = .ok (.iconst 2, 1) := by decide +kernel
theorem dX12_isHearing_2 : decode cX12_isHearing 2 = .ok (.iload_n 1, 1) := by decide +kernel
theorem dX12_isHearing_3 : decode cX12_isHearing 3 = .ok (.invokevirtual 183, 3) := by decide +kernel
theorem dX12_isHearing_6 : decode cX12_isHearing 6 = .ok (.ifCond .ne 5, 3) := by decide +kernel
theorem dX12_isHearing_9 : decode cX12_isHearing 9 = .ok (.iconst 0, 1) := by decide +kernel
theorem dX12_isHearing_10 : decode cX12_isHearing 10 = .ok (.ireturn, 1) := by decide +kernel
theorem dX12_isHearing_11 : decode cX12_isHearing 11 = .ok (.aload_n 0, 1) := by decide +kernel
theorem dX12_isHearing_12 : decode cX12_isHearing 12 = .ok (.iconst 2, 1) := by decide +kernel
theorem dX12_isHearing_13 : decode cX12_isHearing 13 = .ok (.iload_n 1, 1) := by decide +kernel
theorem dX12_isHearing_14 : decode cX12_isHearing 14 = .ok (.invokestatic 206, 3) := by decide +kernel
theorem dX12_isHearing_17 : decode cX12_isHearing 17 = .ok (.putfield 308, 3) := by decide +kernel
theorem dX12_isHearing_20 : decode cX12_isHearing 20 = .ok (.iconst 1, 1) := by decide +kernel
theorem dX12_isHearing_21 : decode cX12_isHearing 21 = .ok (.ireturn, 1) := by decide +kernel
theorem dX12_told_0 : decode cX12_told 0 = .ok (.aload_n 0, 1) := by decide +kernel
theorem dX12_told_1 : decode cX12_told 1 = .ok (.iload_n 1, 1) := by decide +kernel
theorem dX12_told_2 : decode cX12_told 2 = .ok (.invokevirtual 311, 3) := by decide +kernel
theorem dX12_told_5 : decode cX12_told 5 = .ok (.ifCond .eq 10, 3) := by decide +kernel
theorem dX12_told_8 : decode cX12_told 8 = .ok (.iload_n 2, 1) := by decide +kernel
theorem dX12_told_9 : decode cX12_told 9 = .ok (.invokestatic 218, 3) := by decide +kernel
theorem dX12_told_12 : decode cX12_told 12 = .ok (.ifCond .ne 6, 3) := by decide +kernel
theorem dX12_told_15 : decode cX12_told 15 = .ok (.bipush (-2), 2) := by decide +kernel
theorem dX12_told_17 : decode cX12_told 17 = .ok (.ireturn, 1) := by decide +kernel
theorem dX12_told_18 : decode cX12_told 18 = .ok (.iload_n 3, 1) := by decide +kernel
theorem dX12_told_19 : decode cX12_told 19 = .ok (.iconst (-1), 1) := by decide +kernel
theorem dX12_told_20 : decode cX12_told 20 = .ok (.if_icmp .ne 15, 3) := by decide +kernel
theorem dX12_told_23 : decode cX12_told 23 = .ok (.aload_n 0, 1) := by decide +kernel
theorem dX12_told_24 : decode cX12_told 24 = .ok (.getfield 7, 3) := by decide +kernel
theorem dX12_told_27 : decode cX12_told 27 = .ok (.aload_n 0, 1) := by decide +kernel
theorem dX12_told_28 : decode cX12_told 28 = .ok (.getfield 308, 3) := by decide +kernel
theorem dX12_told_31 : decode cX12_told 31 = .ok (.iload_n 2, 1) := by decide +kernel
theorem dX12_told_32 : decode cX12_told 32 = .ok (.iadd, 1) := by decide +kernel
theorem dX12_told_33 : decode cX12_told 33 = .ok (.iaload, 1) := by decide +kernel
theorem dX12_told_34 : decode cX12_told 34 = .ok (.ireturn, 1) := by decide +kernel
theorem dX12_told_35 : decode cX12_told 35 = .ok (.iload_n 3, 1) := by decide +kernel
theorem dX12_told_36 : decode cX12_told 36 = .ok (.iconst 0, 1) := by decide +kernel
theorem dX12_told_37 : decode cX12_told 37 = .ok (.aload_n 0, 1) := by decide +kernel
theorem dX12_told_38 : decode cX12_told 38 = .ok (.getfield 7, 3) := by decide +kernel
theorem dX12_told_41 : decode cX12_told 41 = .ok (.aload_n 0, 1) := by decide +kernel
theorem dX12_told_42 : decode cX12_told 42 = .ok (.getfield 308, 3) := by decide +kernel
theorem dX12_told_45 : decode cX12_told 45 = .ok (.iload_n 2, 1) := by decide +kernel
theorem dX12_told_46 : decode cX12_told 46 = .ok (.iadd, 1) := by decide +kernel
theorem dX12_told_47 : decode cX12_told 47 = .ok (.iaload, 1) := by decide +kernel
theorem dX12_told_48 : decode cX12_told 48 = .ok (.iconst 1, 1) := by decide +kernel
theorem dX12_told_49 : decode cX12_told 49 = .ok (.isub, 1) := by decide +kernel
theorem dX12_told_50 : decode cX12_told 50 = .ok (.invokestatic 145, 3) := by decide +kernel
theorem dX12_told_53 : decode cX12_told 53 = .ok (.ifCond .eq 24, 3) := by decide +kernel
theorem dX12_told_56 : decode cX12_told 56 = .ok (.aload_n 0, 1) := by decide +kernel
theorem dX12_told_57 : decode cX12_told 57 = .ok (.getfield 7, 3) := by decide +kernel
theorem dX12_told_60 : decode cX12_told 60 = .ok (.aload_n 0, 1) := by decide +kernel
theorem dX12_told_61 : decode cX12_told 61 = .ok (.getfield 308, 3) := by decide +kernel
theorem dX12_told_64 : decode cX12_told 64 = .ok (.iconst 2, 1) := by decide +kernel
theorem dX12_told_65 : decode cX12_told 65 = .ok (.iadd, 1) := by decide +kernel
theorem dX12_told_66 : decode cX12_told 66 = .ok (.bipush 6, 2) := by decide +kernel
theorem dX12_told_68 : decode cX12_told 68 = .ok (.iload_n 2, 1) := by decide +kernel
theorem dX12_told_69 : decode cX12_told 69 = .ok (.imul, 1) := by decide +kernel
theorem dX12_told_70 : decode cX12_told 70 = .ok (.iadd, 1) := by decide +kernel
theorem dX12_told_71 : decode cX12_told 71 = .ok (.iload_n 3, 1) := by decide +kernel
theorem dX12_told_72 : decode cX12_told 72 = .ok (.iadd, 1) := by decide +kernel
theorem dX12_told_73 : decode cX12_told 73 = .ok (.iaload, 1) := by decide +kernel
theorem dX12_told_74 : decode cX12_told 74 = .ok (.goto 5, 3) := by decide +kernel
theorem dX12_told_77 : decode cX12_told 77 = .ok (.bipush (-2), 2) := by decide +kernel
theorem dX12_told_79 : decode cX12_told 79 = .ok (.ireturn, 1) := by decide +kernel
theorem dX12_isSo_0 : decode cX12_isSo 0 = .ok (.iconst 1, 1) := by decide +kernel
theorem dX12_isSo_1 : decode cX12_isSo 1 = .ok (.istore_n 1, 1) := by decide +kernel
theorem dX12_isSo_2 : decode cX12_isSo 2 = .ok (.iconst 0, 1) := by decide +kernel
theorem dX12_isSo_3 : decode cX12_isSo 3 = .ok (.istore_n 2, 1) := by decide +kernel
theorem dX12_isSo_4 : decode cX12_isSo 4 = .ok (.iload_n 2, 1) := by decide +kernel
theorem dX12_isSo_5 : decode cX12_isSo 5 = .ok (.iconst 2, 1) := by decide +kernel
theorem dX12_isSo_6 : decode cX12_isSo 6 = .ok (.if_icmp .ge 122, 3) := by decide +kernel
theorem dX12_isSo_9 : decode cX12_isSo 9 = .ok (.aload_n 0, 1) := by decide +kernel
theorem dX12_isSo_10 : decode cX12_isSo 10 = .ok (.getfield 7, 3) := by decide +kernel
theorem dX12_isSo_13 : decode cX12_isSo 13 = .ok (.aload_n 0, 1) := by decide +kernel
theorem dX12_isSo_14 : decode cX12_isSo 14 = .ok (.getfield 308, 3) := by decide +kernel
theorem dX12_isSo_17 : decode cX12_isSo 17 = .ok (.iload_n 2, 1) := by decide +kernel
theorem dX12_isSo_18 : decode cX12_isSo 18 = .ok (.iadd, 1) := by decide +kernel
theorem dX12_isSo_19 : decode cX12_isSo 19 = .ok (.iaload, 1) := by decide +kernel
theorem dX12_isSo_20 : decode cX12_isSo 20 = .ok (.iconst (-1), 1) := by decide +kernel
theorem dX12_isSo_21 : decode cX12_isSo 21 = .ok (.if_icmp .ne 6, 3) := by decide +kernel
theorem dX12_isSo_24 : decode cX12_isSo 24 = .ok (.goto 98, 3) := by decide +kernel
theorem dX12_isSo_27 : decode cX12_isSo 27 = .ok (.aload_n 0, 1) := by decide +kernel
theorem dX12_isSo_28 : decode cX12_isSo 28 = .ok (.iload_n 2, 1) := by decide +kernel
theorem dX12_isSo_29 : decode cX12_isSo 29 = .ok (.invokevirtual 270, 3) := by decide +kernel
theorem dX12_isSo_32 : decode cX12_isSo 32 = .ok (.iload_n 1, 1) := by decide +kernel
theorem dX12_isSo_33 : decode cX12_isSo 33 = .ok (.ifCond .eq 27, 3) := by decide +kernel
theorem dX12_isSo_36 : decode cX12_isSo 36 = .ok (.aload_n 0, 1) := by decide +kernel
theorem dX12_isSo_37 : decode cX12_isSo 37 = .ok (.getfield 47, 3) := by decide +kernel
theorem dX12_isSo_40 : decode cX12_isSo 40 = .ok (.iload_n 2, 1) := by decide +kernel
theorem dX12_isSo_41 : decode cX12_isSo 41 = .ok (.iaload, 1) := by decide +kernel
theorem dX12_isSo_42 : decode cX12_isSo 42 = .ok (.aload_n 0, 1) := by decide +kernel
theorem dX12_isSo_43 : decode cX12_isSo 43 = .ok (.getfield 7, 3) := by decide +kernel
theorem dX12_isSo_46 : decode cX12_isSo 46 = .ok (.aload_n 0, 1) := by decide +kernel
theorem dX12_isSo_47 : decode cX12_isSo 47 = .ok (.getfield 308, 3) := by decide +kernel
theorem dX12_isSo_50 : decode cX12_isSo 50 = .ok (.iload_n 2, 1) := by decide +kernel
theorem dX12_isSo_51 : decode cX12_isSo 51 = .ok (.iadd, 1) := by decide +kernel
theorem dX12_isSo_52 : decode cX12_isSo 52 = .ok (.iaload, 1) := by decide +kernel
theorem dX12_isSo_53 : decode cX12_isSo 53 = .ok (.if_icmp .ne 7, 3) := by decide +kernel
theorem dX12_isSo_56 : decode cX12_isSo 56 = .ok (.iconst 1, 1) := by decide +kernel
theorem dX12_isSo_57 : decode cX12_isSo 57 = .ok (.goto 4, 3) := by decide +kernel
theorem dX12_isSo_60 : decode cX12_isSo 60 = .ok (.iconst 0, 1) := by decide +kernel
theorem dX12_isSo_61 : decode cX12_isSo 61 = .ok (.istore_n 1, 1) := by decide +kernel
theorem dX12_isSo_62 : decode cX12_isSo 62 = .ok (.iconst 0, 1) := by decide +kernel
theorem dX12_isSo_63 : decode cX12_isSo 63 = .ok (.istore_n 3, 1) := by decide +kernel
theorem dX12_isSo_64 : decode cX12_isSo 64 = .ok (.iload_n 3, 1) := by decide +kernel
theorem dX12_isSo_65 : decode cX12_isSo 65 = .ok (.aload_n 0, 1) := by decide +kernel
theorem dX12_isSo_66 : decode cX12_isSo 66 = .ok (.getfield 47, 3) := by decide +kernel
theorem dX12_isSo_69 : decode cX12_isSo 69 = .ok (.iload_n 2, 1) := by decide +kernel
theorem dX12_isSo_70 : decode cX12_isSo 70 = .ok (.iaload, 1) := by decide +kernel
theorem dX12_isSo_71 : decode cX12_isSo 71 = .ok (.if_icmp .ge 51, 3) := by decide +kernel
theorem dX12_isSo_74 : decode cX12_isSo 74 = .ok (.iload_n 1, 1) := by decide +kernel
theorem dX12_isSo_75 : decode cX12_isSo 75 = .ok (.ifCond .eq 47, 3) := by decide +kernel
theorem dX12_isSo_78 : decode cX12_isSo 78 = .ok (.aload_n 0, 1) := by decide +kernel
theorem dX12_isSo_79 : decode cX12_isSo 79 = .ok (.getfield 38, 3) := by decide +kernel
theorem dX12_isSo_82 : decode cX12_isSo 82 = .ok (.bipush 24, 2) := by decide +kernel
theorem dX12_isSo_84 : decode cX12_isSo 84 = .ok (.iload_n 2, 1) := by decide +kernel
theorem dX12_isSo_85 : decode cX12_isSo 85 = .ok (.imul, 1) := by decide +kernel
theorem dX12_isSo_86 : decode cX12_isSo 86 = .ok (.iload_n 3, 1) := by decide +kernel
theorem dX12_isSo_87 : decode cX12_isSo 87 = .ok (.iadd, 1) := by decide +kernel
theorem dX12_isSo_88 : decode cX12_isSo 88 = .ok (.iaload, 1) := by decide +kernel
theorem dX12_isSo_89 : decode cX12_isSo 89 = .ok (.aload_n 0, 1) := by decide +kernel
theorem dX12_isSo_90 : decode cX12_isSo 90 = .ok (.getfield 7, 3) := by decide +kernel
theorem dX12_isSo_93 : decode cX12_isSo 93 = .ok (.aload_n 0, 1) := by decide +kernel
theorem dX12_isSo_94 : decode cX12_isSo 94 = .ok (.getfield 308, 3) := by decide +kernel
theorem dX12_isSo_97 : decode cX12_isSo 97 = .ok (.iconst 2, 1) := by decide +kernel
theorem dX12_isSo_98 : decode cX12_isSo 98 = .ok (.iadd, 1) := by decide +kernel
theorem dX12_isSo_99 : decode cX12_isSo 99 = .ok (.bipush 6, 2) := by decide +kernel
theorem dX12_isSo_101 : decode cX12_isSo 101 = .ok (.iload_n 2, 1) := by decide +kernel
theorem dX12_isSo_102 : decode cX12_isSo 102 = .ok (.imul, 1) := by decide +kernel
theorem dX12_isSo_103 : decode cX12_isSo 103 = .ok (.iadd, 1) := by decide +kernel
theorem dX12_isSo_104 : decode cX12_isSo 104 = .ok (.iload_n 3, 1) := by decide +kernel
theorem dX12_isSo_105 : decode cX12_isSo 105 = .ok (.iadd, 1) := by decide +kernel
theorem dX12_isSo_106 : decode cX12_isSo 106 = .ok (.iaload, 1) := by decide +kernel
theorem dX12_isSo_107 : decode cX12_isSo 107 = .ok (.if_icmp .ne 7, 3) := by decide +kernel
theorem dX12_isSo_110 : decode cX12_isSo 110 = .ok (.iconst 1, 1) := by decide +kernel
theorem dX12_isSo_111 : decode cX12_isSo 111 = .ok (.goto 4, 3) := by decide +kernel
theorem dX12_isSo_114 : decode cX12_isSo 114 = .ok (.iconst 0, 1) := by decide +kernel
theorem dX12_isSo_115 : decode cX12_isSo 115 = .ok (.istore_n 1, 1) := by decide +kernel
theorem dX12_isSo_116 : decode cX12_isSo 116 = .ok (.iinc 3 1, 3) := by decide +kernel
theorem dX12_isSo_119 : decode cX12_isSo 119 = .ok (.goto (-55), 3) := by decide +kernel
theorem dX12_isSo_122 : decode cX12_isSo 122 = .ok (.iinc 2 1, 3) := by decide +kernel
theorem dX12_isSo_125 : decode cX12_isSo 125 = .ok (.goto (-121), 3) := by decide +kernel
theorem dX12_isSo_128 : decode cX12_isSo 128 = .ok (.iload_n 1, 1) := by decide +kernel
theorem dX12_isSo_129 : decode cX12_isSo 129 = .ok (.ireturn, 1) := by decide +kernel
theorem dX12_bitsOf_0 : decode cX12_bitsOf 0 = .ok (.iconst 0, 1) := by decide +kernel
theorem dX12_bitsOf_1 : decode cX12_bitsOf 1 = .ok (.istore_n 1, 1) := by decide +kernel
theorem dX12_bitsOf_2 : decode cX12_bitsOf 2 = .ok (.iconst 0, 1) := by decide +kernel
theorem dX12_bitsOf_3 : decode cX12_bitsOf 3 = .ok (.istore_n 2, 1) := by decide +kernel
theorem dX12_bitsOf_4 : decode cX12_bitsOf 4 = .ok (.iload_n 2, 1) := by decide +kernel
theorem dX12_bitsOf_5 : decode cX12_bitsOf 5 = .ok (.bipush 24, 2) := by decide +kernel
theorem dX12_bitsOf_7 : decode cX12_bitsOf 7 = .ok (.if_icmp .ge 17, 3) := by decide +kernel
theorem dX12_bitsOf_10 : decode cX12_bitsOf 10 = .ok (.iload_n 1, 1) := by decide +kernel
theorem dX12_bitsOf_11 : decode cX12_bitsOf 11 = .ok (.iload_n 0, 1) := by decide +kernel
theorem dX12_bitsOf_12 : decode cX12_bitsOf 12 = .ok (.iload_n 2, 1) := by decide +kernel
theorem dX12_bitsOf_13 : decode cX12_bitsOf 13 = .ok (.ishr, 1) := by decide +kernel
theorem dX12_bitsOf_14 : decode cX12_bitsOf 14 = .ok (.iconst 1, 1) := by decide +kernel
theorem dX12_bitsOf_15 : decode cX12_bitsOf 15 = .ok (.iand, 1) := by decide +kernel
theorem dX12_bitsOf_16 : decode cX12_bitsOf 16 = .ok (.iadd, 1) := by decide +kernel
theorem dX12_bitsOf_17 : decode cX12_bitsOf 17 = .ok (.istore_n 1, 1) := by decide +kernel
theorem dX12_bitsOf_18 : decode cX12_bitsOf 18 = .ok (.iinc 2 1, 3) := by decide +kernel
theorem dX12_bitsOf_21 : decode cX12_bitsOf 21 = .ok (.goto (-17), 3) := by decide +kernel
theorem dX12_bitsOf_24 : decode cX12_bitsOf 24 = .ok (.iload_n 1, 1) := by decide +kernel
theorem dX12_bitsOf_25 : decode cX12_bitsOf 25 = .ok (.ireturn, 1) := by decide +kernel
theorem dX12_bribes_0 : decode cX12_bribes 0 = .ok (.aload_n 0, 1) := by decide +kernel
theorem dX12_bribes_1 : decode cX12_bribes 1 = .ok (.iload_n 1, 1) := by decide +kernel
theorem dX12_bribes_2 : decode cX12_bribes 2 = .ok (.iload_n 2, 1) := by decide +kernel
theorem dX12_bribes_3 : decode cX12_bribes 3 = .ok (.invokevirtual 255, 3) := by decide +kernel
theorem dX12_bribes_6 : decode cX12_bribes 6 = .ok (.ifCond .eq 30, 3) := by decide +kernel
theorem dX12_bribes_9 : decode cX12_bribes 9 = .ok (.aload_n 0, 1) := by decide +kernel
theorem dX12_bribes_10 : decode cX12_bribes 10 = .ok (.iload_n 3, 1) := by decide +kernel
theorem dX12_bribes_11 : decode cX12_bribes 11 = .ok (.invokevirtual 311, 3) := by decide +kernel
theorem dX12_bribes_14 : decode cX12_bribes 14 = .ok (.ifCond .eq 22, 3) := by decide +kernel
theorem dX12_bribes_17 : decode cX12_bribes 17 = .ok (.aload_n 0, 1) := by decide +kernel
theorem dX12_bribes_18 : decode cX12_bribes 18 = .ok (.getfield 243, 3) := by decide +kernel
theorem dX12_bribes_21 : decode cX12_bribes 21 = .ok (.bipush 12, 2) := by decide +kernel
theorem dX12_bribes_23 : decode cX12_bribes 23 = .ok (.if_icmp .gt 13, 3) := by decide +kernel
theorem dX12_bribes_26 : decode cX12_bribes 26 = .ok (.iload 4, 2) := by decide +kernel
theorem dX12_bribes_28 : decode cX12_bribes 28 = .ok (.iconst 0, 1) := by decide +kernel
theorem dX12_bribes_29 : decode cX12_bribes 29 = .ok (.iconst 2, 1) := by decide +kernel
theorem dX12_bribes_30 : decode cX12_bribes 30 = .ok (.invokestatic 145, 3) := by decide +kernel
theorem dX12_bribes_33 : decode cX12_bribes 33 = .ok (.ifCond .ne 5, 3) := by decide +kernel
theorem dX12_bribes_36 : decode cX12_bribes 36 = .ok (.iconst (-1), 1) := by decide +kernel
theorem dX12_bribes_37 : decode cX12_bribes 37 = .ok (.ireturn, 1) := by decide +kernel
theorem dX12_bribes_38 : decode cX12_bribes 38 = .ok (.iconst 0, 1) := by decide +kernel
theorem dX12_bribes_39 : decode cX12_bribes 39 = .ok (.istore 5, 2) := by decide +kernel
theorem dX12_bribes_41 : decode cX12_bribes 41 = .ok (.iconst 0, 1) := by decide +kernel
theorem dX12_bribes_42 : decode cX12_bribes 42 = .ok (.istore 6, 2) := by decide +kernel
theorem dX12_bribes_44 : decode cX12_bribes 44 = .ok (.iload 6, 2) := by decide +kernel
theorem dX12_bribes_46 : decode cX12_bribes 46 = .ok (.aload_n 0, 1) := by decide +kernel
theorem dX12_bribes_47 : decode cX12_bribes 47 = .ok (.getfield 243, 3) := by decide +kernel
theorem dX12_bribes_50 : decode cX12_bribes 50 = .ok (.if_icmp .ge 32, 3) := by decide +kernel
theorem dX12_bribes_53 : decode cX12_bribes 53 = .ok (.iload 5, 2) := by decide +kernel
theorem dX12_bribes_55 : decode cX12_bribes 55 = .ok (.aload_n 0, 1) := by decide +kernel
theorem dX12_bribes_56 : decode cX12_bribes 56 = .ok (.getfield 26, 3) := by decide +kernel
theorem dX12_bribes_59 : decode cX12_bribes 59 = .ok (.iload 6, 2) := by decide +kernel
theorem dX12_bribes_61 : decode cX12_bribes 61 = .ok (.iaload, 1) := by decide +kernel
theorem dX12_bribes_62 : decode cX12_bribes 62 = .ok (.ifCond .ne 10, 3) := by decide +kernel
theorem dX12_bribes_65 : decode cX12_bribes 65 = .ok (.iconst 1, 1) := by decide +kernel
theorem dX12_bribes_66 : decode cX12_bribes 66 = .ok (.iload 6, 2) := by decide +kernel
theorem dX12_bribes_68 : decode cX12_bribes 68 = .ok (.ishl, 1) := by decide +kernel
theorem dX12_bribes_69 : decode cX12_bribes 69 = .ok (.goto 4, 3) := by decide +kernel
theorem dX12_bribes_72 : decode cX12_bribes 72 = .ok (.iconst 0, 1) := by decide +kernel
theorem dX12_bribes_73 : decode cX12_bribes 73 = .ok (.ior, 1) := by decide +kernel
theorem dX12_bribes_74 : decode cX12_bribes 74 = .ok (.istore 5, 2) := by decide +kernel
theorem dX12_bribes_76 : decode cX12_bribes 76 = .ok (.iinc 6 1, 3) := by decide +kernel
theorem dX12_bribes_79 : decode cX12_bribes 79 = .ok (.goto (-35), 3) := by decide +kernel
theorem dX12_bribes_82 : decode cX12_bribes 82 = .ok (.iconst 0, 1) := by decide +kernel
theorem dX12_bribes_83 : decode cX12_bribes 83 = .ok (.istore 6, 2) := by decide +kernel
theorem dX12_bribes_85 : decode cX12_bribes 85 = .ok (.iconst (-1), 1) := by decide +kernel
theorem dX12_bribes_86 : decode cX12_bribes 86 = .ok (.istore 7, 2) := by decide +kernel
theorem dX12_bribes_88 : decode cX12_bribes 88 = .ok (.iconst 0, 1) := by decide +kernel
theorem dX12_bribes_89 : decode cX12_bribes 89 = .ok (.istore 8, 2) := by decide +kernel
theorem dX12_bribes_91 : decode cX12_bribes 91 = .ok (.iload 8, 2) := by decide +kernel
theorem dX12_bribes_93 : decode cX12_bribes 93 = .ok (.iconst 1, 1) := by decide +kernel
theorem dX12_bribes_94 : decode cX12_bribes 94 = .ok (.aload_n 0, 1) := by decide +kernel
theorem dX12_bribes_95 : decode cX12_bribes 95 = .ok (.getfield 243, 3) := by decide +kernel
theorem dX12_bribes_98 : decode cX12_bribes 98 = .ok (.ishl, 1) := by decide +kernel
theorem dX12_bribes_99 : decode cX12_bribes 99 = .ok (.if_icmp .ge 67, 3) := by decide +kernel
theorem dX12_bribes_102 : decode cX12_bribes 102 = .ok (.iload 8, 2) := by decide +kernel
theorem dX12_bribes_104 : decode cX12_bribes 104 = .ok (.iload 5, 2) := by decide +kernel
theorem dX12_bribes_106 : decode cX12_bribes 106 = .ok (.iand, 1) := by decide +kernel
theorem dX12_bribes_107 : decode cX12_bribes 107 = .ok (.ifCond .eq 6, 3) := by decide +kernel
theorem dX12_bribes_110 : decode cX12_bribes 110 = .ok (.goto 50, 3) := by decide +kernel
theorem dX12_bribes_113 : decode cX12_bribes 113 = .ok (.aload_n 0, 1) := by decide +kernel
theorem dX12_bribes_114 : decode cX12_bribes 114 = .ok (.iload 8, 2) := by decide +kernel
theorem dX12_bribes_116 : decode cX12_bribes 116 = .ok (.invokevirtual 252, 3) := by decide +kernel
theorem dX12_bribes_119 : decode cX12_bribes 119 = .ok (.aload_n 0, 1) := by decide +kernel
theorem dX12_bribes_120 : decode cX12_bribes 120 = .ok (.invokevirtual 314, 3) := by decide +kernel
theorem dX12_bribes_123 : decode cX12_bribes 123 = .ok (.ifCond .ne 6, 3) := by decide +kernel
theorem dX12_bribes_126 : decode cX12_bribes 126 = .ok (.goto 34, 3) := by decide +kernel
theorem dX12_bribes_129 : decode cX12_bribes 129 = .ok (.iinc 6 1, 3) := by decide +kernel
theorem dX12_bribes_132 : decode cX12_bribes 132 = .ok (.iload 7, 2) := by decide +kernel
theorem dX12_bribes_134 : decode cX12_bribes 134 = .ok (.iconst (-1), 1) := by decide +kernel
theorem dX12_bribes_135 : decode cX12_bribes 135 = .ok (.if_icmp .eq 16, 3) := by decide +kernel
theorem dX12_bribes_138 : decode cX12_bribes 138 = .ok (.iload 8, 2) := by decide +kernel
theorem dX12_bribes_140 : decode cX12_bribes 140 = .ok (.invokestatic 317, 3) := by decide +kernel
theorem dX12_bribes_143 : decode cX12_bribes 143 = .ok (.iload 7, 2) := by decide +kernel
theorem dX12_bribes_145 : decode cX12_bribes 145 = .ok (.invokestatic 317, 3) := by decide +kernel
theorem dX12_bribes_148 : decode cX12_bribes 148 = .ok (.if_icmp .ge 8, 3) := by decide +kernel
theorem dX12_bribes_151 : decode cX12_bribes 151 = .ok (.iload 8, 2) := by decide +kernel
theorem dX12_bribes_153 : decode cX12_bribes 153 = .ok (.goto 5, 3) := by decide +kernel
theorem dX12_bribes_156 : decode cX12_bribes 156 = .ok (.iload 7, 2) := by decide +kernel
theorem dX12_bribes_158 : decode cX12_bribes 158 = .ok (.istore 7, 2) := by decide +kernel
theorem dX12_bribes_160 : decode cX12_bribes 160 = .ok (.iinc 8 1, 3) := by decide +kernel
theorem dX12_bribes_163 : decode cX12_bribes 163 = .ok (.goto (-72), 3) := by decide +kernel
theorem dX12_bribes_166 : decode cX12_bribes 166 = .ok (.iload 4, 2) := by decide +kernel
theorem dX12_bribes_168 : decode cX12_bribes 168 = .ok (.ifCond .ne 6, 3) := by decide +kernel
theorem dX12_bribes_171 : decode cX12_bribes 171 = .ok (.iload 6, 2) := by decide +kernel
theorem dX12_bribes_173 : decode cX12_bribes 173 = .ok (.ireturn, 1) := by decide +kernel
theorem dX12_bribes_174 : decode cX12_bribes 174 = .ok (.iload 7, 2) := by decide +kernel
theorem dX12_bribes_176 : decode cX12_bribes 176 = .ok (.iconst (-1), 1) := by decide +kernel
theorem dX12_bribes_177 : decode cX12_bribes 177 = .ok (.if_icmp .eq 9, 3) := by decide +kernel
theorem dX12_bribes_180 : decode cX12_bribes 180 = .ok (.iload 4, 2) := by decide +kernel
theorem dX12_bribes_182 : decode cX12_bribes 182 = .ok (.iconst 2, 1) := by decide +kernel
theorem dX12_bribes_183 : decode cX12_bribes 183 = .ok (.if_icmp .ne 8, 3) := by decide +kernel
theorem dX12_bribes_186 : decode cX12_bribes 186 = .ok (.iload 7, 2) := by decide +kernel
theorem dX12_bribes_188 : decode cX12_bribes 188 = .ok (.goto 8, 3) := by decide +kernel
theorem dX12_bribes_191 : decode cX12_bribes 191 = .ok (.iload 7, 2) := by decide +kernel
theorem dX12_bribes_193 : decode cX12_bribes 193 = .ok (.invokestatic 317, 3) := by decide +kernel
theorem dX12_bribes_196 : decode cX12_bribes 196 = .ok (.ireturn, 1) := by decide +kernel
theorem dX12_meant_0 : decode cX12_meant 0 = .ok (.aload_n 0, 1) := by decide +kernel
theorem dX12_meant_1 : decode cX12_meant 1 = .ok (.iload_n 1, 1) := by decide +kernel
theorem dX12_meant_2 : decode cX12_meant 2 = .ok (.invokevirtual 224, 3) := by decide +kernel
theorem dX12_meant_5 : decode cX12_meant 5 = .ok (.ifCond .eq 29, 3) := by decide +kernel
theorem dX12_meant_8 : decode cX12_meant 8 = .ok (.aload_n 0, 1) := by decide +kernel
theorem dX12_meant_9 : decode cX12_meant 9 = .ok (.iload_n 2, 1) := by decide +kernel
theorem dX12_meant_10 : decode cX12_meant 10 = .ok (.invokevirtual 240, 3) := by decide +kernel
theorem dX12_meant_13 : decode cX12_meant 13 = .ok (.ifCond .eq 21, 3) := by decide +kernel
theorem dX12_meant_16 : decode cX12_meant 16 = .ok (.aload_n 0, 1) := by decide +kernel
theorem dX12_meant_17 : decode cX12_meant 17 = .ok (.iload_n 3, 1) := by decide +kernel
theorem dX12_meant_18 : decode cX12_meant 18 = .ok (.invokevirtual 311, 3) := by decide +kernel
theorem dX12_meant_21 : decode cX12_meant 21 = .ok (.ifCond .eq 13, 3) := by decide +kernel
theorem dX12_meant_24 : decode cX12_meant 24 = .ok (.iload 4, 2) := by decide +kernel
theorem dX12_meant_26 : decode cX12_meant 26 = .ok (.iconst 0, 1) := by decide +kernel
theorem dX12_meant_27 : decode cX12_meant 27 = .ok (.iconst 5, 1) := by decide +kernel
theorem dX12_meant_28 : decode cX12_meant 28 = .ok (.invokestatic 145, 3) := by decide +kernel
theorem dX12_meant_31 : decode cX12_meant 31 = .ok (.ifCond .ne 6, 3) := by decide +kernel
theorem dX12_meant_34 : decode cX12_meant 34 = .ok (.bipush (-2), 2) := by decide +kernel
theorem dX12_meant_36 : decode cX12_meant 36 = .ok (.ireturn, 1) := by decide +kernel
theorem dX12_meant_37 : decode cX12_meant 37 = .ok (.aload_n 0, 1) := by decide +kernel
theorem dX12_meant_38 : decode cX12_meant 38 = .ok (.invokevirtual 249, 3) := by decide +kernel
theorem dX12_meant_41 : decode cX12_meant 41 = .ok (.iconst 0, 1) := by decide +kernel
theorem dX12_meant_42 : decode cX12_meant 42 = .ok (.istore 6, 2) := by decide +kernel
theorem dX12_meant_44 : decode cX12_meant 44 = .ok (.iconst (-1), 1) := by decide +kernel
theorem dX12_meant_45 : decode cX12_meant 45 = .ok (.istore 7, 2) := by decide +kernel
theorem dX12_meant_47 : decode cX12_meant 47 = .ok (.iconst 0, 1) := by decide +kernel
theorem dX12_meant_48 : decode cX12_meant 48 = .ok (.istore 8, 2) := by decide +kernel
theorem dX12_meant_50 : decode cX12_meant 50 = .ok (.iload 8, 2) := by decide +kernel
theorem dX12_meant_52 : decode cX12_meant 52 = .ok (.iload 4, 2) := by decide +kernel
theorem dX12_meant_54 : decode cX12_meant 54 = .ok (.invokestatic 294, 3) := by decide +kernel
theorem dX12_meant_57 : decode cX12_meant 57 = .ok (.if_icmp .ge 55, 3) := by decide +kernel
theorem dX12_meant_60 : decode cX12_meant 60 = .ok (.aload_n 0, 1) := by decide +kernel
theorem dX12_meant_61 : decode cX12_meant 61 = .ok (.iconst 1, 1) := by decide +kernel
theorem dX12_meant_62 : decode cX12_meant 62 = .ok (.iload 8, 2) := by decide +kernel
theorem dX12_meant_64 : decode cX12_meant 64 = .ok (.iload 4, 2) := by decide +kernel
theorem dX12_meant_66 : decode cX12_meant 66 = .ok (.invokevirtual 297, 3) := by decide +kernel
theorem dX12_meant_69 : decode cX12_meant 69 = .ok (.aload_n 0, 1) := by decide +kernel
theorem dX12_meant_70 : decode cX12_meant 70 = .ok (.invokevirtual 246, 3) := by decide +kernel
theorem dX12_meant_73 : decode cX12_meant 73 = .ok (.aload_n 0, 1) := by decide +kernel
theorem dX12_meant_74 : decode cX12_meant 74 = .ok (.iconst 0, 1) := by decide +kernel
theorem dX12_meant_75 : decode cX12_meant 75 = .ok (.invokevirtual 252, 3) := by decide +kernel
theorem dX12_meant_78 : decode cX12_meant 78 = .ok (.aload_n 0, 1) := by decide +kernel
theorem dX12_meant_79 : decode cX12_meant 79 = .ok (.invokevirtual 314, 3) := by decide +kernel
theorem dX12_meant_82 : decode cX12_meant 82 = .ok (.ifCond .ne 6, 3) := by decide +kernel
theorem dX12_meant_85 : decode cX12_meant 85 = .ok (.goto 21, 3) := by decide +kernel
theorem dX12_meant_88 : decode cX12_meant 88 = .ok (.iinc 6 1, 3) := by decide +kernel
theorem dX12_meant_91 : decode cX12_meant 91 = .ok (.iload 7, 2) := by decide +kernel
theorem dX12_meant_93 : decode cX12_meant 93 = .ok (.iconst (-1), 1) := by decide +kernel
theorem dX12_meant_94 : decode cX12_meant 94 = .ok (.if_icmp .ne 8, 3) := by decide +kernel
theorem dX12_meant_97 : decode cX12_meant 97 = .ok (.iload 8, 2) := by decide +kernel
theorem dX12_meant_99 : decode cX12_meant 99 = .ok (.goto 5, 3) := by decide +kernel
theorem dX12_meant_102 : decode cX12_meant 102 = .ok (.iload 7, 2) := by decide +kernel
theorem dX12_meant_104 : decode cX12_meant 104 = .ok (.istore 7, 2) := by decide +kernel
theorem dX12_meant_106 : decode cX12_meant 106 = .ok (.iinc 8 1, 3) := by decide +kernel
theorem dX12_meant_109 : decode cX12_meant 109 = .ok (.goto (-59), 3) := by decide +kernel
theorem dX12_meant_112 : decode cX12_meant 112 = .ok (.iload 5, 2) := by decide +kernel
theorem dX12_meant_114 : decode cX12_meant 114 = .ok (.ifCond .eq 8, 3) := by decide +kernel
theorem dX12_meant_117 : decode cX12_meant 117 = .ok (.iload 7, 2) := by decide +kernel
theorem dX12_meant_119 : decode cX12_meant 119 = .ok (.goto 5, 3) := by decide +kernel
theorem dX12_meant_122 : decode cX12_meant 122 = .ok (.iload 6, 2) := by decide +kernel
theorem dX12_meant_124 : decode cX12_meant 124 = .ok (.ireturn, 1) := by decide +kernel
theorem dX12_truce_0 : decode cX12_truce 0 = .ok (.aload_n 0, 1) := by decide +kernel
theorem dX12_truce_1 : decode cX12_truce 1 = .ok (.iload_n 1, 1) := by decide +kernel
theorem dX12_truce_2 : decode cX12_truce 2 = .ok (.invokevirtual 224, 3) := by decide +kernel
theorem dX12_truce_5 : decode cX12_truce 5 = .ok (.ifCond .eq 21, 3) := by decide +kernel
theorem dX12_truce_8 : decode cX12_truce 8 = .ok (.iload_n 2, 1) := by decide +kernel
theorem dX12_truce_9 : decode cX12_truce 9 = .ok (.iconst 0, 1) := by decide +kernel
theorem dX12_truce_10 : decode cX12_truce 10 = .ok (.iconst 4, 1) := by decide +kernel
theorem dX12_truce_11 : decode cX12_truce 11 = .ok (.invokestatic 145, 3) := by decide +kernel
theorem dX12_truce_14 : decode cX12_truce 14 = .ok (.ifCond .eq 12, 3) := by decide +kernel
theorem dX12_truce_17 : decode cX12_truce 17 = .ok (.iload_n 3, 1) := by decide +kernel
theorem dX12_truce_18 : decode cX12_truce 18 = .ok (.iconst 0, 1) := by decide +kernel
theorem dX12_truce_19 : decode cX12_truce 19 = .ok (.iconst 4, 1) := by decide +kernel
theorem dX12_truce_20 : decode cX12_truce 20 = .ok (.invokestatic 145, 3) := by decide +kernel
theorem dX12_truce_23 : decode cX12_truce 23 = .ok (.ifCond .ne 5, 3) := by decide +kernel
theorem dX12_truce_26 : decode cX12_truce 26 = .ok (.iconst (-1), 1) := by decide +kernel
theorem dX12_truce_27 : decode cX12_truce 27 = .ok (.ireturn, 1) := by decide +kernel
theorem dX12_truce_28 : decode cX12_truce 28 = .ok (.iconst 0, 1) := by decide +kernel
theorem dX12_truce_29 : decode cX12_truce 29 = .ok (.istore 5, 2) := by decide +kernel
theorem dX12_truce_31 : decode cX12_truce 31 = .ok (.iload 5, 2) := by decide +kernel
theorem dX12_truce_33 : decode cX12_truce 33 = .ok (.iconst 5, 1) := by decide +kernel
theorem dX12_truce_34 : decode cX12_truce 34 = .ok (.if_icmp .gt 84, 3) := by decide +kernel
theorem dX12_truce_37 : decode cX12_truce 37 = .ok (.iconst 0, 1) := by decide +kernel
theorem dX12_truce_38 : decode cX12_truce 38 = .ok (.istore 6, 2) := by decide +kernel
theorem dX12_truce_40 : decode cX12_truce 40 = .ok (.iload 6, 2) := by decide +kernel
theorem dX12_truce_42 : decode cX12_truce 42 = .ok (.iload 5, 2) := by decide +kernel
theorem dX12_truce_44 : decode cX12_truce 44 = .ok (.invokestatic 294, 3) := by decide +kernel
theorem dX12_truce_47 : decode cX12_truce 47 = .ok (.if_icmp .ge 65, 3) := by decide +kernel
theorem dX12_truce_50 : decode cX12_truce 50 = .ok (.aload_n 0, 1) := by decide +kernel
theorem dX12_truce_51 : decode cX12_truce 51 = .ok (.iconst 0, 1) := by decide +kernel
theorem dX12_truce_52 : decode cX12_truce 52 = .ok (.iload 6, 2) := by decide +kernel
theorem dX12_truce_54 : decode cX12_truce 54 = .ok (.iload 5, 2) := by decide +kernel
theorem dX12_truce_56 : decode cX12_truce 56 = .ok (.invokevirtual 297, 3) := by decide +kernel
theorem dX12_truce_59 : decode cX12_truce 59 = .ok (.aload_n 0, 1) := by decide +kernel
theorem dX12_truce_60 : decode cX12_truce 60 = .ok (.getfield 23, 3) := by decide +kernel
theorem dX12_truce_63 : decode cX12_truce 63 = .ok (.iconst 1, 1) := by decide +kernel
theorem dX12_truce_64 : decode cX12_truce 64 = .ok (.iconst 0, 1) := by decide +kernel
theorem dX12_truce_65 : decode cX12_truce 65 = .ok (.iastore, 1) := by decide +kernel
theorem dX12_truce_66 : decode cX12_truce 66 = .ok (.aload_n 0, 1) := by decide +kernel
theorem dX12_truce_67 : decode cX12_truce 67 = .ok (.invokevirtual 246, 3) := by decide +kernel
theorem dX12_truce_70 : decode cX12_truce 70 = .ok (.aload_n 0, 1) := by decide +kernel
theorem dX12_truce_71 : decode cX12_truce 71 = .ok (.iconst 0, 1) := by decide +kernel
theorem dX12_truce_72 : decode cX12_truce 72 = .ok (.invokevirtual 252, 3) := by decide +kernel
theorem dX12_truce_75 : decode cX12_truce 75 = .ok (.aload_n 0, 1) := by decide +kernel
theorem dX12_truce_76 : decode cX12_truce 76 = .ok (.iconst 0, 1) := by decide +kernel
theorem dX12_truce_77 : decode cX12_truce 77 = .ok (.iload_n 2, 1) := by decide +kernel
theorem dX12_truce_78 : decode cX12_truce 78 = .ok (.invokevirtual 301, 3) := by decide +kernel
theorem dX12_truce_81 : decode cX12_truce 81 = .ok (.ifCond .eq 25, 3) := by decide +kernel
theorem dX12_truce_84 : decode cX12_truce 84 = .ok (.aload_n 0, 1) := by decide +kernel
theorem dX12_truce_85 : decode cX12_truce 85 = .ok (.iconst 1, 1) := by decide +kernel
theorem dX12_truce_86 : decode cX12_truce 86 = .ok (.iload_n 3, 1) := by decide +kernel
theorem dX12_truce_87 : decode cX12_truce 87 = .ok (.invokevirtual 301, 3) := by decide +kernel
theorem dX12_truce_90 : decode cX12_truce 90 = .ok (.ifCond .eq 16, 3) := by decide +kernel
theorem dX12_truce_93 : decode cX12_truce 93 = .ok (.iload 4, 2) := by decide +kernel
theorem dX12_truce_95 : decode cX12_truce 95 = .ok (.ifCond .eq 8, 3) := by decide +kernel
theorem dX12_truce_98 : decode cX12_truce 98 = .ok (.iload 6, 2) := by decide +kernel
theorem dX12_truce_100 : decode cX12_truce 100 = .ok (.goto 5, 3) := by decide +kernel
theorem dX12_truce_103 : decode cX12_truce 103 = .ok (.iload 5, 2) := by decide +kernel
theorem dX12_truce_105 : decode cX12_truce 105 = .ok (.ireturn, 1) := by decide +kernel
theorem dX12_truce_106 : decode cX12_truce 106 = .ok (.iinc 6 1, 3) := by decide +kernel
theorem dX12_truce_109 : decode cX12_truce 109 = .ok (.goto (-69), 3) := by decide +kernel
theorem dX12_truce_112 : decode cX12_truce 112 = .ok (.iinc 5 1, 3) := by decide +kernel
theorem dX12_truce_115 : decode cX12_truce 115 = .ok (.goto (-84), 3) := by decide +kernel
theorem dX12_truce_118 : decode cX12_truce 118 = .ok (.iconst (-1), 1) := by decide +kernel
theorem dX12_truce_119 : decode cX12_truce 119 = .ok (.ireturn, 1) := by decide +kernel
theorem dX12_lesser_0 : decode cX12_lesser 0 = .ok (.iload_n 0, 1) := by decide +kernel
theorem dX12_lesser_1 : decode cX12_lesser 1 = .ok (.iload_n 1, 1) := by decide +kernel
theorem dX12_lesser_2 : decode cX12_lesser 2 = .ok (.if_icmp .ge 7, 3) := by decide +kernel
theorem dX12_lesser_5 : decode cX12_lesser 5 = .ok (.iload_n 0, 1) := by decide +kernel
theorem dX12_lesser_6 : decode cX12_lesser 6 = .ok (.goto 4, 3) := by decide +kernel
theorem dX12_lesser_9 : decode cX12_lesser 9 = .ok (.iload_n 1, 1) := by decide +kernel
theorem dX12_lesser_10 : decode cX12_lesser 10 = .ok (.ireturn, 1) := by decide +kernel
theorem dX12_apart_0 : decode cX12_apart 0 = .ok (.iconst 0, 1) := by decide +kernel
theorem dX12_apart_1 : decode cX12_apart 1 = .ok (.istore_n 3, 1) := by decide +kernel
theorem dX12_apart_2 : decode cX12_apart 2 = .ok (.iload_n 3, 1) := by decide +kernel
theorem dX12_apart_3 : decode cX12_apart 3 = .ok (.iload_n 2, 1) := by decide +kernel
theorem dX12_apart_4 : decode cX12_apart 4 = .ok (.if_icmp .gt 16, 3) := by decide +kernel
theorem dX12_apart_7 : decode cX12_apart 7 = .ok (.aload_n 0, 1) := by decide +kernel
theorem dX12_apart_8 : decode cX12_apart 8 = .ok (.getfield 62, 3) := by decide +kernel
theorem dX12_apart_11 : decode cX12_apart 11 = .ok (.iload_n 3, 1) := by decide +kernel
theorem dX12_apart_12 : decode cX12_apart 12 = .ok (.iload_n 3, 1) := by decide +kernel
theorem dX12_apart_13 : decode cX12_apart 13 = .ok (.iastore, 1) := by decide +kernel
theorem dX12_apart_14 : decode cX12_apart 14 = .ok (.iinc 3 1, 3) := by decide +kernel
theorem dX12_apart_17 : decode cX12_apart 17 = .ok (.goto (-15), 3) := by decide +kernel
theorem dX12_apart_20 : decode cX12_apart 20 = .ok (.iconst 1, 1) := by decide +kernel
theorem dX12_apart_21 : decode cX12_apart 21 = .ok (.istore_n 3, 1) := by decide +kernel
theorem dX12_apart_22 : decode cX12_apart 22 = .ok (.iload_n 3, 1) := by decide +kernel
theorem dX12_apart_23 : decode cX12_apart 23 = .ok (.iload_n 1, 1) := by decide +kernel
theorem dX12_apart_24 : decode cX12_apart 24 = .ok (.if_icmp .gt 110, 3) := by decide +kernel
theorem dX12_apart_27 : decode cX12_apart 27 = .ok (.aload_n 0, 1) := by decide +kernel
theorem dX12_apart_28 : decode cX12_apart 28 = .ok (.getfield 62, 3) := by decide +kernel
theorem dX12_apart_31 : decode cX12_apart 31 = .ok (.iconst 0, 1) := by decide +kernel
theorem dX12_apart_32 : decode cX12_apart 32 = .ok (.iaload, 1) := by decide +kernel
theorem dX12_apart_33 : decode cX12_apart 33 = .ok (.istore 4, 2) := by decide +kernel
theorem dX12_apart_35 : decode cX12_apart 35 = .ok (.aload_n 0, 1) := by decide +kernel
theorem dX12_apart_36 : decode cX12_apart 36 = .ok (.getfield 62, 3) := by decide +kernel
theorem dX12_apart_39 : decode cX12_apart 39 = .ok (.iconst 0, 1) := by decide +kernel
theorem dX12_apart_40 : decode cX12_apart 40 = .ok (.iload_n 3, 1) := by decide +kernel
theorem dX12_apart_41 : decode cX12_apart 41 = .ok (.iastore, 1) := by decide +kernel
theorem dX12_apart_42 : decode cX12_apart 42 = .ok (.iconst 1, 1) := by decide +kernel
theorem dX12_apart_43 : decode cX12_apart 43 = .ok (.istore 5, 2) := by decide +kernel
theorem dX12_apart_45 : decode cX12_apart 45 = .ok (.iload 5, 2) := by decide +kernel
theorem dX12_apart_47 : decode cX12_apart 47 = .ok (.iload_n 2, 1) := by decide +kernel
theorem dX12_apart_48 : decode cX12_apart 48 = .ok (.if_icmp .gt 80, 3) := by decide +kernel
theorem dX12_apart_51 : decode cX12_apart 51 = .ok (.aload_n 0, 1) := by decide +kernel
theorem dX12_apart_52 : decode cX12_apart 52 = .ok (.getfield 62, 3) := by decide +kernel
theorem dX12_apart_55 : decode cX12_apart 55 = .ok (.iload 5, 2) := by decide +kernel
theorem dX12_apart_57 : decode cX12_apart 57 = .ok (.iaload, 1) := by decide +kernel
theorem dX12_apart_58 : decode cX12_apart 58 = .ok (.istore 6, 2) := by decide +kernel
theorem dX12_apart_60 : decode cX12_apart 60 = .ok (.iload 4, 2) := by decide +kernel
theorem dX12_apart_62 : decode cX12_apart 62 = .ok (.aload_n 0, 1) := by decide +kernel
theorem dX12_apart_63 : decode cX12_apart 63 = .ok (.getfield 56, 3) := by decide +kernel
theorem dX12_apart_66 : decode cX12_apart 66 = .ok (.iload_n 3, 1) := by decide +kernel
theorem dX12_apart_67 : decode cX12_apart 67 = .ok (.iconst 1, 1) := by decide +kernel
theorem dX12_apart_68 : decode cX12_apart 68 = .ok (.isub, 1) := by decide +kernel
theorem dX12_apart_69 : decode cX12_apart 69 = .ok (.iaload, 1) := by decide +kernel
theorem dX12_apart_70 : decode cX12_apart 70 = .ok (.aload_n 0, 1) := by decide +kernel
theorem dX12_apart_71 : decode cX12_apart 71 = .ok (.getfield 59, 3) := by decide +kernel
theorem dX12_apart_74 : decode cX12_apart 74 = .ok (.iload 5, 2) := by decide +kernel
theorem dX12_apart_76 : decode cX12_apart 76 = .ok (.iconst 1, 1) := by decide +kernel
theorem dX12_apart_77 : decode cX12_apart 77 = .ok (.isub, 1) := by decide +kernel
theorem dX12_apart_78 : decode cX12_apart 78 = .ok (.iaload, 1) := by decide +kernel
theorem dX12_apart_79 : decode cX12_apart 79 = .ok (.if_icmp .ne 7, 3) := by decide +kernel
theorem dX12_apart_82 : decode cX12_apart 82 = .ok (.iconst 0, 1) := by decide +kernel
theorem dX12_apart_83 : decode cX12_apart 83 = .ok (.goto 4, 3) := by decide +kernel
theorem dX12_apart_86 : decode cX12_apart 86 = .ok (.iconst 1, 1) := by decide +kernel
theorem dX12_apart_87 : decode cX12_apart 87 = .ok (.iadd, 1) := by decide +kernel
theorem dX12_apart_88 : decode cX12_apart 88 = .ok (.istore 7, 2) := by decide +kernel
theorem dX12_apart_90 : decode cX12_apart 90 = .ok (.aload_n 0, 1) := by decide +kernel
theorem dX12_apart_91 : decode cX12_apart 91 = .ok (.getfield 62, 3) := by decide +kernel
theorem dX12_apart_94 : decode cX12_apart 94 = .ok (.iload 5, 2) := by decide +kernel
theorem dX12_apart_96 : decode cX12_apart 96 = .ok (.iload 7, 2) := by decide +kernel
theorem dX12_apart_98 : decode cX12_apart 98 = .ok (.iload 6, 2) := by decide +kernel
theorem dX12_apart_100 : decode cX12_apart 100 = .ok (.aload_n 0, 1) := by decide +kernel
theorem dX12_apart_101 : decode cX12_apart 101 = .ok (.getfield 62, 3) := by decide +kernel
theorem dX12_apart_104 : decode cX12_apart 104 = .ok (.iload 5, 2) := by decide +kernel
theorem dX12_apart_106 : decode cX12_apart 106 = .ok (.iconst 1, 1) := by decide +kernel
theorem dX12_apart_107 : decode cX12_apart 107 = .ok (.isub, 1) := by decide +kernel
theorem dX12_apart_108 : decode cX12_apart 108 = .ok (.iaload, 1) := by decide +kernel
theorem dX12_apart_109 : decode cX12_apart 109 = .ok (.invokestatic 320, 3) := by decide +kernel
theorem dX12_apart_112 : decode cX12_apart 112 = .ok (.iconst 1, 1) := by decide +kernel
theorem dX12_apart_113 : decode cX12_apart 113 = .ok (.iadd, 1) := by decide +kernel
theorem dX12_apart_114 : decode cX12_apart 114 = .ok (.invokestatic 320, 3) := by decide +kernel
theorem dX12_apart_117 : decode cX12_apart 117 = .ok (.iastore, 1) := by decide +kernel
theorem dX12_apart_118 : decode cX12_apart 118 = .ok (.iload 6, 2) := by decide +kernel
theorem dX12_apart_120 : decode cX12_apart 120 = .ok (.istore 4, 2) := by decide +kernel
theorem dX12_apart_122 : decode cX12_apart 122 = .ok (.iinc 5 1, 3) := by decide +kernel
theorem dX12_apart_125 : decode cX12_apart 125 = .ok (.goto (-80), 3) := by decide +kernel
theorem dX12_apart_128 : decode cX12_apart 128 = .ok (.iinc 3 1, 3) := by decide +kernel
theorem dX12_apart_131 : decode cX12_apart 131 = .ok (.goto (-109), 3) := by decide +kernel
theorem dX12_apart_134 : decode cX12_apart 134 = .ok (.aload_n 0, 1) := by decide +kernel
theorem dX12_apart_135 : decode cX12_apart 135 = .ok (.getfield 62, 3) := by decide +kernel
theorem dX12_apart_138 : decode cX12_apart 138 = .ok (.iload_n 2, 1) := by decide +kernel
theorem dX12_apart_139 : decode cX12_apart 139 = .ok (.iaload, 1) := by decide +kernel
theorem dX12_apart_140 : decode cX12_apart 140 = .ok (.ireturn, 1) := by decide +kernel
theorem dX12_farOf_0 : decode cX12_farOf 0 = .ok (.iconst 0, 1) := by decide +kernel
theorem dX12_farOf_1 : decode cX12_farOf 1 = .ok (.istore 4, 2) := by decide +kernel
theorem dX12_farOf_3 : decode cX12_farOf 3 = .ok (.iload 4, 2) := by decide +kernel
theorem dX12_farOf_5 : decode cX12_farOf 5 = .ok (.aload_n 0, 1) := by decide +kernel
theorem dX12_farOf_6 : decode cX12_farOf 6 = .ok (.iload_n 1, 1) := by decide +kernel
theorem dX12_farOf_7 : decode cX12_farOf 7 = .ok (.iload_n 2, 1) := by decide +kernel
theorem dX12_farOf_8 : decode cX12_farOf 8 = .ok (.invokevirtual 230, 3) := by decide +kernel
theorem dX12_farOf_11 : decode cX12_farOf 11 = .ok (.if_icmp .ge 24, 3) := by decide +kernel
theorem dX12_farOf_14 : decode cX12_farOf 14 = .ok (.aload_n 0, 1) := by decide +kernel
theorem dX12_farOf_15 : decode cX12_farOf 15 = .ok (.getfield 56, 3) := by decide +kernel
theorem dX12_farOf_18 : decode cX12_farOf 18 = .ok (.iload 4, 2) := by decide +kernel
theorem dX12_farOf_20 : decode cX12_farOf 20 = .ok (.aload_n 0, 1) := by decide +kernel
theorem dX12_farOf_21 : decode cX12_farOf 21 = .ok (.iload_n 1, 1) := by decide +kernel
theorem dX12_farOf_22 : decode cX12_farOf 22 = .ok (.iload_n 2, 1) := by decide +kernel
theorem dX12_farOf_23 : decode cX12_farOf 23 = .ok (.iload 4, 2) := by decide +kernel
theorem dX12_farOf_25 : decode cX12_farOf 25 = .ok (.invokevirtual 233, 3) := by decide +kernel
theorem dX12_farOf_28 : decode cX12_farOf 28 = .ok (.iastore, 1) := by decide +kernel
theorem dX12_farOf_29 : decode cX12_farOf 29 = .ok (.iinc 4 1, 3) := by decide +kernel
theorem dX12_farOf_32 : decode cX12_farOf 32 = .ok (.goto (-29), 3) := by decide +kernel
theorem dX12_farOf_35 : decode cX12_farOf 35 = .ok (.iconst 0, 1) := by decide +kernel
theorem dX12_farOf_36 : decode cX12_farOf 36 = .ok (.istore 4, 2) := by decide +kernel
theorem dX12_farOf_38 : decode cX12_farOf 38 = .ok (.iload 4, 2) := by decide +kernel
theorem dX12_farOf_40 : decode cX12_farOf 40 = .ok (.aload_n 0, 1) := by decide +kernel
theorem dX12_farOf_41 : decode cX12_farOf 41 = .ok (.iload_n 1, 1) := by decide +kernel
theorem dX12_farOf_42 : decode cX12_farOf 42 = .ok (.iload_n 3, 1) := by decide +kernel
theorem dX12_farOf_43 : decode cX12_farOf 43 = .ok (.invokevirtual 230, 3) := by decide +kernel
theorem dX12_farOf_46 : decode cX12_farOf 46 = .ok (.if_icmp .ge 24, 3) := by decide +kernel
theorem dX12_farOf_49 : decode cX12_farOf 49 = .ok (.aload_n 0, 1) := by decide +kernel
theorem dX12_farOf_50 : decode cX12_farOf 50 = .ok (.getfield 59, 3) := by decide +kernel
theorem dX12_farOf_53 : decode cX12_farOf 53 = .ok (.iload 4, 2) := by decide +kernel
theorem dX12_farOf_55 : decode cX12_farOf 55 = .ok (.aload_n 0, 1) := by decide +kernel
theorem dX12_farOf_56 : decode cX12_farOf 56 = .ok (.iload_n 1, 1) := by decide +kernel
theorem dX12_farOf_57 : decode cX12_farOf 57 = .ok (.iload_n 3, 1) := by decide +kernel
theorem dX12_farOf_58 : decode cX12_farOf 58 = .ok (.iload 4, 2) := by decide +kernel
theorem dX12_farOf_60 : decode cX12_farOf 60 = .ok (.invokevirtual 233, 3) := by decide +kernel
theorem dX12_farOf_63 : decode cX12_farOf 63 = .ok (.iastore, 1) := by decide +kernel
theorem dX12_farOf_64 : decode cX12_farOf 64 = .ok (.iinc 4 1, 3) := by decide +kernel
theorem dX12_farOf_67 : decode cX12_farOf 67 = .ok (.goto (-29), 3) := by decide +kernel
theorem dX12_farOf_70 : decode cX12_farOf 70 = .ok (.aload_n 0, 1) := by decide +kernel
theorem dX12_farOf_71 : decode cX12_farOf 71 = .ok (.aload_n 0, 1) := by decide +kernel
theorem dX12_farOf_72 : decode cX12_farOf 72 = .ok (.iload_n 1, 1) := by decide +kernel
theorem dX12_farOf_73 : decode cX12_farOf 73 = .ok (.iload_n 2, 1) := by decide +kernel
theorem dX12_farOf_74 : decode cX12_farOf 74 = .ok (.invokevirtual 230, 3) := by decide +kernel
theorem dX12_farOf_77 : decode cX12_farOf 77 = .ok (.aload_n 0, 1) := by decide +kernel
theorem dX12_farOf_78 : decode cX12_farOf 78 = .ok (.iload_n 1, 1) := by decide +kernel
theorem dX12_farOf_79 : decode cX12_farOf 79 = .ok (.iload_n 3, 1) := by decide +kernel
theorem dX12_farOf_80 : decode cX12_farOf 80 = .ok (.invokevirtual 230, 3) := by decide +kernel
theorem dX12_farOf_83 : decode cX12_farOf 83 = .ok (.invokevirtual 323, 3) := by decide +kernel
theorem dX12_farOf_86 : decode cX12_farOf 86 = .ok (.ireturn, 1) := by decide +kernel
theorem dX12_far_0 : decode cX12_far 0 = .ok (.aload_n 0, 1) := by decide +kernel
theorem dX12_far_1 : decode cX12_far 1 = .ok (.iload_n 1, 1) := by decide +kernel
theorem dX12_far_2 : decode cX12_far 2 = .ok (.invokevirtual 224, 3) := by decide +kernel
theorem dX12_far_5 : decode cX12_far 5 = .ok (.ifCond .eq 33, 3) := by decide +kernel
theorem dX12_far_8 : decode cX12_far 8 = .ok (.aload_n 0, 1) := by decide +kernel
theorem dX12_far_9 : decode cX12_far 9 = .ok (.iload_n 2, 1) := by decide +kernel
theorem dX12_far_10 : decode cX12_far 10 = .ok (.iload_n 3, 1) := by decide +kernel
theorem dX12_far_11 : decode cX12_far 11 = .ok (.invokevirtual 227, 3) := by decide +kernel
theorem dX12_far_14 : decode cX12_far 14 = .ok (.ifCond .eq 24, 3) := by decide +kernel
theorem dX12_far_17 : decode cX12_far 17 = .ok (.aload_n 0, 1) := by decide +kernel
theorem dX12_far_18 : decode cX12_far 18 = .ok (.iload_n 2, 1) := by decide +kernel
theorem dX12_far_19 : decode cX12_far 19 = .ok (.iload 4, 2) := by decide +kernel
theorem dX12_far_21 : decode cX12_far 21 = .ok (.invokevirtual 227, 3) := by decide +kernel
theorem dX12_far_24 : decode cX12_far 24 = .ok (.ifCond .eq 14, 3) := by decide +kernel
theorem dX12_far_27 : decode cX12_far 27 = .ok (.aload_n 0, 1) := by decide +kernel
theorem dX12_far_28 : decode cX12_far 28 = .ok (.iload_n 2, 1) := by decide +kernel
theorem dX12_far_29 : decode cX12_far 29 = .ok (.iload_n 3, 1) := by decide +kernel
theorem dX12_far_30 : decode cX12_far 30 = .ok (.iload 4, 2) := by decide +kernel
theorem dX12_far_32 : decode cX12_far 32 = .ok (.invokevirtual 325, 3) := by decide +kernel
theorem dX12_far_35 : decode cX12_far 35 = .ok (.goto 4, 3) := by decide +kernel
theorem dX12_far_38 : decode cX12_far 38 = .ok (.iconst (-1), 1) := by decide +kernel
theorem dX12_far_39 : decode cX12_far 39 = .ok (.ireturn, 1) := by decide +kernel
theorem dX12_beginsWith_0 : decode cX12_beginsWith 0 = .ok (.aload_n 0, 1) := by decide +kernel
theorem dX12_beginsWith_1 : decode cX12_beginsWith 1 = .ok (.iload_n 1, 1) := by decide +kernel
theorem dX12_beginsWith_2 : decode cX12_beginsWith 2 = .ok (.iload_n 2, 1) := by decide +kernel
theorem dX12_beginsWith_3 : decode cX12_beginsWith 3 = .ok (.invokevirtual 230, 3) := by decide +kernel
theorem dX12_beginsWith_6 : decode cX12_beginsWith 6 = .ok (.aload_n 0, 1) := by decide +kernel
theorem dX12_beginsWith_7 : decode cX12_beginsWith 7 = .ok (.iload_n 3, 1) := by decide +kernel
theorem dX12_beginsWith_8 : decode cX12_beginsWith 8 = .ok (.iload 4, 2) := by decide +kernel
theorem dX12_beginsWith_10 : decode cX12_beginsWith 10 = .ok (.invokevirtual 230, 3) := by decide +kernel
theorem dX12_beginsWith_13 : decode cX12_beginsWith 13 = .ok (.if_icmp .lt 7, 3) := by decide +kernel
theorem dX12_beginsWith_16 : decode cX12_beginsWith 16 = .ok (.iconst 1, 1) := by decide +kernel
theorem dX12_beginsWith_17 : decode cX12_beginsWith 17 = .ok (.goto 4, 3) := by decide +kernel
theorem dX12_beginsWith_20 : decode cX12_beginsWith 20 = .ok (.iconst 0, 1) := by decide +kernel
theorem dX12_beginsWith_21 : decode cX12_beginsWith 21 = .ok (.istore 5, 2) := by decide +kernel
theorem dX12_beginsWith_23 : decode cX12_beginsWith 23 = .ok (.iconst 0, 1) := by decide +kernel
theorem dX12_beginsWith_24 : decode cX12_beginsWith 24 = .ok (.istore 6, 2) := by decide +kernel
theorem dX12_beginsWith_26 : decode cX12_beginsWith 26 = .ok (.iload 6, 2) := by decide +kernel
theorem dX12_beginsWith_28 : decode cX12_beginsWith 28 = .ok (.aload_n 0, 1) := by decide +kernel
theorem dX12_beginsWith_29 : decode cX12_beginsWith 29 = .ok (.iload_n 3, 1) := by decide +kernel
theorem dX12_beginsWith_30 : decode cX12_beginsWith 30 = .ok (.iload 4, 2) := by decide +kernel
theorem dX12_beginsWith_32 : decode cX12_beginsWith 32 = .ok (.invokevirtual 230, 3) := by decide +kernel
theorem dX12_beginsWith_35 : decode cX12_beginsWith 35 = .ok (.if_icmp .ge 41, 3) := by decide +kernel
theorem dX12_beginsWith_38 : decode cX12_beginsWith 38 = .ok (.iload 5, 2) := by decide +kernel
theorem dX12_beginsWith_40 : decode cX12_beginsWith 40 = .ok (.ifCond .eq 36, 3) := by decide +kernel
theorem dX12_beginsWith_43 : decode cX12_beginsWith 43 = .ok (.aload_n 0, 1) := by decide +kernel
theorem dX12_beginsWith_44 : decode cX12_beginsWith 44 = .ok (.iload_n 1, 1) := by decide +kernel
theorem dX12_beginsWith_45 : decode cX12_beginsWith 45 = .ok (.iload_n 2, 1) := by decide +kernel
theorem dX12_beginsWith_46 : decode cX12_beginsWith 46 = .ok (.iload 6, 2) := by decide +kernel
theorem dX12_beginsWith_48 : decode cX12_beginsWith 48 = .ok (.invokevirtual 233, 3) := by decide +kernel
theorem dX12_beginsWith_51 : decode cX12_beginsWith 51 = .ok (.aload_n 0, 1) := by decide +kernel
theorem dX12_beginsWith_52 : decode cX12_beginsWith 52 = .ok (.iload_n 3, 1) := by decide +kernel
theorem dX12_beginsWith_53 : decode cX12_beginsWith 53 = .ok (.iload 4, 2) := by decide +kernel
theorem dX12_beginsWith_55 : decode cX12_beginsWith 55 = .ok (.iload 6, 2) := by decide +kernel
theorem dX12_beginsWith_57 : decode cX12_beginsWith 57 = .ok (.invokevirtual 233, 3) := by decide +kernel
theorem dX12_beginsWith_60 : decode cX12_beginsWith 60 = .ok (.if_icmp .ne 7, 3) := by decide +kernel
theorem dX12_beginsWith_63 : decode cX12_beginsWith 63 = .ok (.iconst 1, 1) := by decide +kernel
theorem dX12_beginsWith_64 : decode cX12_beginsWith 64 = .ok (.goto 4, 3) := by decide +kernel
theorem dX12_beginsWith_67 : decode cX12_beginsWith 67 = .ok (.iconst 0, 1) := by decide +kernel
theorem dX12_beginsWith_68 : decode cX12_beginsWith 68 = .ok (.istore 5, 2) := by decide +kernel
theorem dX12_beginsWith_70 : decode cX12_beginsWith 70 = .ok (.iinc 6 1, 3) := by decide +kernel
theorem dX12_beginsWith_73 : decode cX12_beginsWith 73 = .ok (.goto (-47), 3) := by decide +kernel
theorem dX12_beginsWith_76 : decode cX12_beginsWith 76 = .ok (.iload 5, 2) := by decide +kernel
theorem dX12_beginsWith_78 : decode cX12_beginsWith 78 = .ok (.ireturn, 1) := by decide +kernel
theorem dX12_codes_0 : decode cX12_codes 0 = .ok (.aload_n 0, 1) := by decide +kernel
theorem dX12_codes_1 : decode cX12_codes 1 = .ok (.iload_n 1, 1) := by decide +kernel
theorem dX12_codes_2 : decode cX12_codes 2 = .ok (.invokevirtual 224, 3) := by decide +kernel
theorem dX12_codes_5 : decode cX12_codes 5 = .ok (.ifCond .eq 19, 3) := by decide +kernel
theorem dX12_codes_8 : decode cX12_codes 8 = .ok (.iload_n 2, 1) := by decide +kernel
theorem dX12_codes_9 : decode cX12_codes 9 = .ok (.invokestatic 218, 3) := by decide +kernel
theorem dX12_codes_12 : decode cX12_codes 12 = .ok (.ifCond .eq 12, 3) := by decide +kernel
theorem dX12_codes_15 : decode cX12_codes 15 = .ok (.iload_n 3, 1) := by decide +kernel
theorem dX12_codes_16 : decode cX12_codes 16 = .ok (.iconst 0, 1) := by decide +kernel
theorem dX12_codes_17 : decode cX12_codes 17 = .ok (.iconst 1, 1) := by decide +kernel
theorem dX12_codes_18 : decode cX12_codes 18 = .ok (.invokestatic 145, 3) := by decide +kernel
theorem dX12_codes_21 : decode cX12_codes 21 = .ok (.ifCond .ne 6, 3) := by decide +kernel
theorem dX12_codes_24 : decode cX12_codes 24 = .ok (.bipush (-2), 2) := by decide +kernel
theorem dX12_codes_26 : decode cX12_codes 26 = .ok (.ireturn, 1) := by decide +kernel
theorem dX12_codes_27 : decode cX12_codes 27 = .ok (.iconst (-1), 1) := by decide +kernel
theorem dX12_codes_28 : decode cX12_codes 28 = .ok (.istore 4, 2) := by decide +kernel
theorem dX12_codes_30 : decode cX12_codes 30 = .ok (.iconst 0, 1) := by decide +kernel
theorem dX12_codes_31 : decode cX12_codes 31 = .ok (.istore 5, 2) := by decide +kernel
theorem dX12_codes_33 : decode cX12_codes 33 = .ok (.iconst 1, 1) := by decide +kernel
theorem dX12_codes_34 : decode cX12_codes 34 = .ok (.istore 6, 2) := by decide +kernel
theorem dX12_codes_36 : decode cX12_codes 36 = .ok (.iload 6, 2) := by decide +kernel
theorem dX12_codes_38 : decode cX12_codes 38 = .ok (.aload_n 0, 1) := by decide +kernel
theorem dX12_codes_39 : decode cX12_codes 39 = .ok (.iload_n 2, 1) := by decide +kernel
theorem dX12_codes_40 : decode cX12_codes 40 = .ok (.invokevirtual 221, 3) := by decide +kernel
theorem dX12_codes_43 : decode cX12_codes 43 = .ok (.if_icmp .ge 122, 3) := by decide +kernel
theorem dX12_codes_46 : decode cX12_codes 46 = .ok (.iconst 0, 1) := by decide +kernel
theorem dX12_codes_47 : decode cX12_codes 47 = .ok (.istore 7, 2) := by decide +kernel
theorem dX12_codes_49 : decode cX12_codes 49 = .ok (.iload 7, 2) := by decide +kernel
theorem dX12_codes_51 : decode cX12_codes 51 = .ok (.iload 6, 2) := by decide +kernel
theorem dX12_codes_53 : decode cX12_codes 53 = .ok (.if_icmp .ge 106, 3) := by decide +kernel
theorem dX12_codes_56 : decode cX12_codes 56 = .ok (.iload 5, 2) := by decide +kernel
theorem dX12_codes_58 : decode cX12_codes 58 = .ok (.aload_n 0, 1) := by decide +kernel
theorem dX12_codes_59 : decode cX12_codes 59 = .ok (.iload_n 2, 1) := by decide +kernel
theorem dX12_codes_60 : decode cX12_codes 60 = .ok (.iload 7, 2) := by decide +kernel
theorem dX12_codes_62 : decode cX12_codes 62 = .ok (.iload_n 2, 1) := by decide +kernel
theorem dX12_codes_63 : decode cX12_codes 63 = .ok (.iload 6, 2) := by decide +kernel
theorem dX12_codes_65 : decode cX12_codes 65 = .ok (.invokevirtual 328, 3) := by decide +kernel
theorem dX12_codes_68 : decode cX12_codes 68 = .ok (.ifCond .ne 16, 3) := by decide +kernel
theorem dX12_codes_71 : decode cX12_codes 71 = .ok (.aload_n 0, 1) := by decide +kernel
theorem dX12_codes_72 : decode cX12_codes 72 = .ok (.iload_n 2, 1) := by decide +kernel
theorem dX12_codes_73 : decode cX12_codes 73 = .ok (.iload 6, 2) := by decide +kernel
theorem dX12_codes_75 : decode cX12_codes 75 = .ok (.iload_n 2, 1) := by decide +kernel
theorem dX12_codes_76 : decode cX12_codes 76 = .ok (.iload 7, 2) := by decide +kernel
theorem dX12_codes_78 : decode cX12_codes 78 = .ok (.invokevirtual 328, 3) := by decide +kernel
theorem dX12_codes_81 : decode cX12_codes 81 = .ok (.ifCond .eq 7, 3) := by decide +kernel
theorem dX12_codes_84 : decode cX12_codes 84 = .ok (.iconst 1, 1) := by decide +kernel
theorem dX12_codes_85 : decode cX12_codes 85 = .ok (.goto 4, 3) := by decide +kernel
theorem dX12_codes_88 : decode cX12_codes 88 = .ok (.iconst 0, 1) := by decide +kernel
theorem dX12_codes_89 : decode cX12_codes 89 = .ok (.iadd, 1) := by decide +kernel
theorem dX12_codes_90 : decode cX12_codes 90 = .ok (.istore 5, 2) := by decide +kernel
theorem dX12_codes_92 : decode cX12_codes 92 = .ok (.aload_n 0, 1) := by decide +kernel
theorem dX12_codes_93 : decode cX12_codes 93 = .ok (.getfield 7, 3) := by decide +kernel
theorem dX12_codes_96 : decode cX12_codes 96 = .ok (.aload_n 0, 1) := by decide +kernel
theorem dX12_codes_97 : decode cX12_codes 97 = .ok (.iload_n 2, 1) := by decide +kernel
theorem dX12_codes_98 : decode cX12_codes 98 = .ok (.iload 7, 2) := by decide +kernel
theorem dX12_codes_100 : decode cX12_codes 100 = .ok (.invokevirtual 215, 3) := by decide +kernel
theorem dX12_codes_103 : decode cX12_codes 103 = .ok (.iaload, 1) := by decide +kernel
theorem dX12_codes_104 : decode cX12_codes 104 = .ok (.aload_n 0, 1) := by decide +kernel
theorem dX12_codes_105 : decode cX12_codes 105 = .ok (.getfield 7, 3) := by decide +kernel
theorem dX12_codes_108 : decode cX12_codes 108 = .ok (.aload_n 0, 1) := by decide +kernel
theorem dX12_codes_109 : decode cX12_codes 109 = .ok (.iload_n 2, 1) := by decide +kernel
theorem dX12_codes_110 : decode cX12_codes 110 = .ok (.iload 6, 2) := by decide +kernel
theorem dX12_codes_112 : decode cX12_codes 112 = .ok (.invokevirtual 215, 3) := by decide +kernel
theorem dX12_codes_115 : decode cX12_codes 115 = .ok (.iaload, 1) := by decide +kernel
theorem dX12_codes_116 : decode cX12_codes 116 = .ok (.if_icmp .eq 37, 3) := by decide +kernel
theorem dX12_codes_119 : decode cX12_codes 119 = .ok (.iload 4, 2) := by decide +kernel
theorem dX12_codes_121 : decode cX12_codes 121 = .ok (.iconst (-1), 1) := by decide +kernel
theorem dX12_codes_122 : decode cX12_codes 122 = .ok (.if_icmp .ne 15, 3) := by decide +kernel
theorem dX12_codes_125 : decode cX12_codes 125 = .ok (.aload_n 0, 1) := by decide +kernel
theorem dX12_codes_126 : decode cX12_codes 126 = .ok (.iload_n 2, 1) := by decide +kernel
theorem dX12_codes_127 : decode cX12_codes 127 = .ok (.iload 7, 2) := by decide +kernel
theorem dX12_codes_129 : decode cX12_codes 129 = .ok (.iload 6, 2) := by decide +kernel
theorem dX12_codes_131 : decode cX12_codes 131 = .ok (.invokevirtual 325, 3) := by decide +kernel
theorem dX12_codes_134 : decode cX12_codes 134 = .ok (.goto 17, 3) := by decide +kernel
theorem dX12_codes_137 : decode cX12_codes 137 = .ok (.iload 4, 2) := by decide +kernel
theorem dX12_codes_139 : decode cX12_codes 139 = .ok (.aload_n 0, 1) := by decide +kernel
theorem dX12_codes_140 : decode cX12_codes 140 = .ok (.iload_n 2, 1) := by decide +kernel
theorem dX12_codes_141 : decode cX12_codes 141 = .ok (.iload 7, 2) := by decide +kernel
theorem dX12_codes_143 : decode cX12_codes 143 = .ok (.iload 6, 2) := by decide +kernel
theorem dX12_codes_145 : decode cX12_codes 145 = .ok (.invokevirtual 325, 3) := by decide +kernel
theorem dX12_codes_148 : decode cX12_codes 148 = .ok (.invokestatic 320, 3) := by decide +kernel
theorem dX12_codes_151 : decode cX12_codes 151 = .ok (.istore 4, 2) := by decide +kernel
theorem dX12_codes_153 : decode cX12_codes 153 = .ok (.iinc 7 1, 3) := by decide +kernel
theorem dX12_codes_156 : decode cX12_codes 156 = .ok (.goto (-107), 3) := by decide +kernel
theorem dX12_codes_159 : decode cX12_codes 159 = .ok (.iinc 6 1, 3) := by decide +kernel
theorem dX12_codes_162 : decode cX12_codes 162 = .ok (.goto (-126), 3) := by decide +kernel
theorem dX12_codes_165 : decode cX12_codes 165 = .ok (.iload_n 3, 1) := by decide +kernel
theorem dX12_codes_166 : decode cX12_codes 166 = .ok (.ifCond .ne 8, 3) := by decide +kernel
theorem dX12_codes_169 : decode cX12_codes 169 = .ok (.iload 4, 2) := by decide +kernel
theorem dX12_codes_171 : decode cX12_codes 171 = .ok (.goto 5, 3) := by decide +kernel
theorem dX12_codes_174 : decode cX12_codes 174 = .ok (.iload 5, 2) := by decide +kernel
theorem dX12_codes_176 : decode cX12_codes 176 = .ok (.ireturn, 1) := by decide +kernel
theorem dX12_shared_0 : decode cX12_shared 0 = .ok (.aload_n 0, 1) := by decide +kernel
theorem dX12_shared_1 : decode cX12_shared 1 = .ok (.iload_n 1, 1) := by decide +kernel
theorem dX12_shared_2 : decode cX12_shared 2 = .ok (.invokevirtual 224, 3) := by decide +kernel
theorem dX12_shared_5 : decode cX12_shared 5 = .ok (.ifCond .eq 8, 3) := by decide +kernel
theorem dX12_shared_8 : decode cX12_shared 8 = .ok (.iload_n 2, 1) := by decide +kernel
theorem dX12_shared_9 : decode cX12_shared 9 = .ok (.iconst (-1), 1) := by decide +kernel
theorem dX12_shared_10 : decode cX12_shared 10 = .ok (.if_icmp .ge 5, 3) := by decide +kernel
theorem dX12_shared_13 : decode cX12_shared 13 = .ok (.iconst (-1), 1) := by decide +kernel
theorem dX12_shared_14 : decode cX12_shared 14 = .ok (.ireturn, 1) := by decide +kernel
theorem dX12_shared_15 : decode cX12_shared 15 = .ok (.iconst 0, 1) := by decide +kernel
theorem dX12_shared_16 : decode cX12_shared 16 = .ok (.istore_n 3, 1) := by decide +kernel
theorem dX12_shared_17 : decode cX12_shared 17 = .ok (.iconst 0, 1) := by decide +kernel
theorem dX12_shared_18 : decode cX12_shared 18 = .ok (.istore 4, 2) := by decide +kernel
theorem dX12_shared_20 : decode cX12_shared 20 = .ok (.iload 4, 2) := by decide +kernel
theorem dX12_shared_22 : decode cX12_shared 22 = .ok (.bipush 36, 2) := by decide +kernel
theorem dX12_shared_24 : decode cX12_shared 24 = .ok (.if_icmp .ge 87, 3) := by decide +kernel
theorem dX12_shared_27 : decode cX12_shared 27 = .ok (.iload 4, 2) := by decide +kernel
theorem dX12_shared_29 : decode cX12_shared 29 = .ok (.bipush 6, 2) := by decide +kernel
theorem dX12_shared_31 : decode cX12_shared 31 = .ok (.idiv, 1) := by decide +kernel
theorem dX12_shared_32 : decode cX12_shared 32 = .ok (.istore 5, 2) := by decide +kernel
theorem dX12_shared_34 : decode cX12_shared 34 = .ok (.iload 4, 2) := by decide +kernel
theorem dX12_shared_36 : decode cX12_shared 36 = .ok (.bipush 6, 2) := by decide +kernel
theorem dX12_shared_38 : decode cX12_shared 38 = .ok (.irem, 1) := by decide +kernel
theorem dX12_shared_39 : decode cX12_shared 39 = .ok (.istore 6, 2) := by decide +kernel
theorem dX12_shared_41 : decode cX12_shared 41 = .ok (.iload 5, 2) := by decide +kernel
theorem dX12_shared_43 : decode cX12_shared 43 = .ok (.aload_n 0, 1) := by decide +kernel
theorem dX12_shared_44 : decode cX12_shared 44 = .ok (.iconst 0, 1) := by decide +kernel
theorem dX12_shared_45 : decode cX12_shared 45 = .ok (.invokevirtual 221, 3) := by decide +kernel
theorem dX12_shared_48 : decode cX12_shared 48 = .ok (.if_icmp .ge 57, 3) := by decide +kernel
theorem dX12_shared_51 : decode cX12_shared 51 = .ok (.iload 6, 2) := by decide +kernel
theorem dX12_shared_53 : decode cX12_shared 53 = .ok (.aload_n 0, 1) := by decide +kernel
theorem dX12_shared_54 : decode cX12_shared 54 = .ok (.iconst 1, 1) := by decide +kernel
theorem dX12_shared_55 : decode cX12_shared 55 = .ok (.invokevirtual 221, 3) := by decide +kernel
theorem dX12_shared_58 : decode cX12_shared 58 = .ok (.if_icmp .ge 47, 3) := by decide +kernel
theorem dX12_shared_61 : decode cX12_shared 61 = .ok (.aload_n 0, 1) := by decide +kernel
theorem dX12_shared_62 : decode cX12_shared 62 = .ok (.iconst 0, 1) := by decide +kernel
theorem dX12_shared_63 : decode cX12_shared 63 = .ok (.iload 5, 2) := by decide +kernel
theorem dX12_shared_65 : decode cX12_shared 65 = .ok (.invokevirtual 230, 3) := by decide +kernel
theorem dX12_shared_68 : decode cX12_shared 68 = .ok (.aload_n 0, 1) := by decide +kernel
theorem dX12_shared_69 : decode cX12_shared 69 = .ok (.iconst 1, 1) := by decide +kernel
theorem dX12_shared_70 : decode cX12_shared 70 = .ok (.iload 6, 2) := by decide +kernel
theorem dX12_shared_72 : decode cX12_shared 72 = .ok (.invokevirtual 230, 3) := by decide +kernel
theorem dX12_shared_75 : decode cX12_shared 75 = .ok (.if_icmp .ne 30, 3) := by decide +kernel
theorem dX12_shared_78 : decode cX12_shared 78 = .ok (.aload_n 0, 1) := by decide +kernel
theorem dX12_shared_79 : decode cX12_shared 79 = .ok (.iconst 0, 1) := by decide +kernel
theorem dX12_shared_80 : decode cX12_shared 80 = .ok (.iload 5, 2) := by decide +kernel
theorem dX12_shared_82 : decode cX12_shared 82 = .ok (.iconst 1, 1) := by decide +kernel
theorem dX12_shared_83 : decode cX12_shared 83 = .ok (.iload 6, 2) := by decide +kernel
theorem dX12_shared_85 : decode cX12_shared 85 = .ok (.invokevirtual 328, 3) := by decide +kernel
theorem dX12_shared_88 : decode cX12_shared 88 = .ok (.ifCond .ne 6, 3) := by decide +kernel
theorem dX12_shared_91 : decode cX12_shared 91 = .ok (.goto 14, 3) := by decide +kernel
theorem dX12_shared_94 : decode cX12_shared 94 = .ok (.iload_n 3, 1) := by decide +kernel
theorem dX12_shared_95 : decode cX12_shared 95 = .ok (.iload_n 2, 1) := by decide +kernel
theorem dX12_shared_96 : decode cX12_shared 96 = .ok (.if_icmp .ne 6, 3) := by decide +kernel
theorem dX12_shared_99 : decode cX12_shared 99 = .ok (.iload 4, 2) := by decide +kernel
theorem dX12_shared_101 : decode cX12_shared 101 = .ok (.ireturn, 1) := by decide +kernel
theorem dX12_shared_102 : decode cX12_shared 102 = .ok (.iinc 3 1, 3) := by decide +kernel
theorem dX12_shared_105 : decode cX12_shared 105 = .ok (.iinc 4 1, 3) := by decide +kernel
theorem dX12_shared_108 : decode cX12_shared 108 = .ok (.goto (-88), 3) := by decide +kernel
theorem dX12_shared_111 : decode cX12_shared 111 = .ok (.iload_n 2, 1) := by decide +kernel
theorem dX12_shared_112 : decode cX12_shared 112 = .ok (.iconst (-1), 1) := by decide +kernel
theorem dX12_shared_113 : decode cX12_shared 113 = .ok (.if_icmp .ne 7, 3) := by decide +kernel
theorem dX12_shared_116 : decode cX12_shared 116 = .ok (.iload_n 3, 1) := by decide +kernel
theorem dX12_shared_117 : decode cX12_shared 117 = .ok (.goto 4, 3) := by decide +kernel
theorem dX12_shared_120 : decode cX12_shared 120 = .ok (.iconst (-1), 1) := by decide +kernel
theorem dX12_shared_121 : decode cX12_shared 121 = .ok (.ireturn, 1) := by decide +kernel
theorem dX12_villageOf_0 : decode cX12_villageOf 0 = .ok (.aload_n 0, 1) := by decide +kernel
theorem dX12_villageOf_1 : decode cX12_villageOf 1 = .ok (.getfield 7, 3) := by decide +kernel
theorem dX12_villageOf_4 : decode cX12_villageOf 4 = .ok (.aload_n 0, 1) := by decide +kernel
theorem dX12_villageOf_5 : decode cX12_villageOf 5 = .ok (.getfield 331, 3) := by decide +kernel
theorem dX12_villageOf_8 : decode cX12_villageOf 8 = .ok (.iconst 1, 1) := by decide +kernel
theorem dX12_villageOf_9 : decode cX12_villageOf 9 = .ok (.iadd, 1) := by decide +kernel
theorem dX12_villageOf_10 : decode cX12_villageOf 10 = .ok (.iconst 4, 1) := by decide +kernel
theorem dX12_villageOf_11 : decode cX12_villageOf 11 = .ok (.iload_n 1, 1) := by decide +kernel
theorem dX12_villageOf_12 : decode cX12_villageOf 12 = .ok (.imul, 1) := by decide +kernel
theorem dX12_villageOf_13 : decode cX12_villageOf 13 = .ok (.iadd, 1) := by decide +kernel
theorem dX12_villageOf_14 : decode cX12_villageOf 14 = .ok (.iload_n 2, 1) := by decide +kernel
theorem dX12_villageOf_15 : decode cX12_villageOf 15 = .ok (.iadd, 1) := by decide +kernel
theorem dX12_villageOf_16 : decode cX12_villageOf 16 = .ok (.iaload, 1) := by decide +kernel
theorem dX12_villageOf_17 : decode cX12_villageOf 17 = .ok (.ireturn, 1) := by decide +kernel
theorem dX12_areVillages_0 : decode cX12_areVillages 0 = .ok (.aload_n 0, 1) := by decide +kernel
theorem dX12_areVillages_1 : decode cX12_areVillages 1 = .ok (.iconst 3, 1) := by decide +kernel
theorem dX12_areVillages_2 : decode cX12_areVillages 2 = .ok (.iload_n 1, 1) := by decide +kernel
theorem dX12_areVillages_3 : decode cX12_areVillages 3 = .ok (.invokevirtual 183, 3) := by decide +kernel
theorem dX12_areVillages_6 : decode cX12_areVillages 6 = .ok (.ifCond .ne 5, 3) := by decide +kernel
theorem dX12_areVillages_9 : decode cX12_areVillages 9 = .ok (.iconst 0, 1) := by decide +kernel
theorem dX12_areVillages_10 : decode cX12_areVillages 10 = .ok (.ireturn, 1) := by decide +kernel
theorem dX12_areVillages_11 : decode cX12_areVillages 11 = .ok (.aload_n 0, 1) := by decide +kernel
theorem dX12_areVillages_12 : decode cX12_areVillages 12 = .ok (.iconst 3, 1) := by decide +kernel
theorem dX12_areVillages_13 : decode cX12_areVillages 13 = .ok (.iload_n 1, 1) := by decide +kernel
theorem dX12_areVillages_14 : decode cX12_areVillages 14 = .ok (.invokestatic 206, 3) := by decide +kernel
theorem dX12_areVillages_17 : decode cX12_areVillages 17 = .ok (.putfield 331, 3) := by decide +kernel
theorem dX12_areVillages_20 : decode cX12_areVillages 20 = .ok (.iconst 1, 1) := by decide +kernel
theorem dX12_areVillages_21 : decode cX12_areVillages 21 = .ok (.ireturn, 1) := by decide +kernel
theorem dX12_depthOf_0 : decode cX12_depthOf 0 = .ok (.iconst 1, 1) := by decide +kernel
theorem dX12_depthOf_1 : decode cX12_depthOf 1 = .ok (.istore_n 2, 1) := by decide +kernel
theorem dX12_depthOf_2 : decode cX12_depthOf 2 = .ok (.aload_n 0, 1) := by decide +kernel
theorem dX12_depthOf_3 : decode cX12_depthOf 3 = .ok (.iload_n 1, 1) := by decide +kernel
theorem dX12_depthOf_4 : decode cX12_depthOf 4 = .ok (.iconst 0, 1) := by decide +kernel
theorem dX12_depthOf_5 : decode cX12_depthOf 5 = .ok (.invokevirtual 334, 3) := by decide +kernel
theorem dX12_depthOf_8 : decode cX12_depthOf 8 = .ok (.istore_n 3, 1) := by decide +kernel
theorem dX12_depthOf_9 : decode cX12_depthOf 9 = .ok (.iload_n 3, 1) := by decide +kernel
theorem dX12_depthOf_10 : decode cX12_depthOf 10 = .ok (.bipush 8, 2) := by decide +kernel
theorem dX12_depthOf_12 : decode cX12_depthOf 12 = .ok (.if_icmp .eq 16, 3) := by decide +kernel
theorem dX12_depthOf_15 : decode cX12_depthOf 15 = .ok (.iinc 2 1, 3) := by decide +kernel
theorem dX12_depthOf_18 : decode cX12_depthOf 18 = .ok (.aload_n 0, 1) := by decide +kernel
theorem dX12_depthOf_19 : decode cX12_depthOf 19 = .ok (.iload_n 3, 1) := by decide +kernel
theorem dX12_depthOf_20 : decode cX12_depthOf 20 = .ok (.iconst 0, 1) := by decide +kernel
theorem dX12_depthOf_21 : decode cX12_depthOf 21 = .ok (.invokevirtual 334, 3) := by decide +kernel
theorem dX12_depthOf_24 : decode cX12_depthOf 24 = .ok (.istore_n 3, 1) := by decide +kernel
theorem dX12_depthOf_25 : decode cX12_depthOf 25 = .ok (.goto (-16), 3) := by decide +kernel
theorem dX12_depthOf_28 : decode cX12_depthOf 28 = .ok (.iload_n 2, 1) := by decide +kernel
theorem dX12_depthOf_29 : decode cX12_depthOf 29 = .ok (.ireturn, 1) := by decide +kernel
theorem dX12_village_0 : decode cX12_village 0 = .ok (.aload_n 0, 1) := by decide +kernel
theorem dX12_village_1 : decode cX12_village 1 = .ok (.iload_n 1, 1) := by decide +kernel
theorem dX12_village_2 : decode cX12_village 2 = .ok (.invokevirtual 337, 3) := by decide +kernel
theorem dX12_village_5 : decode cX12_village 5 = .ok (.ifCond .ne 6, 3) := by decide +kernel
theorem dX12_village_8 : decode cX12_village 8 = .ok (.bipush (-2), 2) := by decide +kernel
theorem dX12_village_10 : decode cX12_village 10 = .ok (.ireturn, 1) := by decide +kernel
theorem dX12_village_11 : decode cX12_village 11 = .ok (.iload_n 2, 1) := by decide +kernel
theorem dX12_village_12 : decode cX12_village 12 = .ok (.iconst (-1), 1) := by decide +kernel
theorem dX12_village_13 : decode cX12_village 13 = .ok (.if_icmp .ne 22, 3) := by decide +kernel
theorem dX12_village_16 : decode cX12_village 16 = .ok (.iload_n 3, 1) := by decide +kernel
theorem dX12_village_17 : decode cX12_village 17 = .ok (.ifCond .ne 15, 3) := by decide +kernel
theorem dX12_village_20 : decode cX12_village 20 = .ok (.aload_n 0, 1) := by decide +kernel
theorem dX12_village_21 : decode cX12_village 21 = .ok (.getfield 7, 3) := by decide +kernel
theorem dX12_village_24 : decode cX12_village 24 = .ok (.aload_n 0, 1) := by decide +kernel
theorem dX12_village_25 : decode cX12_village 25 = .ok (.getfield 331, 3) := by decide +kernel
theorem dX12_village_28 : decode cX12_village 28 = .ok (.iaload, 1) := by decide +kernel
theorem dX12_village_29 : decode cX12_village 29 = .ok (.goto 5, 3) := by decide +kernel
theorem dX12_village_32 : decode cX12_village 32 = .ok (.bipush (-2), 2) := by decide +kernel
theorem dX12_village_34 : decode cX12_village 34 = .ok (.ireturn, 1) := by decide +kernel
theorem dX12_village_35 : decode cX12_village 35 = .ok (.iload_n 2, 1) := by decide +kernel
theorem dX12_village_36 : decode cX12_village 36 = .ok (.iconst 0, 1) := by decide +kernel
theorem dX12_village_37 : decode cX12_village 37 = .ok (.aload_n 0, 1) := by decide +kernel
theorem dX12_village_38 : decode cX12_village 38 = .ok (.getfield 7, 3) := by decide +kernel
theorem dX12_village_41 : decode cX12_village 41 = .ok (.aload_n 0, 1) := by decide +kernel
theorem dX12_village_42 : decode cX12_village 42 = .ok (.getfield 331, 3) := by decide +kernel
theorem dX12_village_45 : decode cX12_village 45 = .ok (.iaload, 1) := by decide +kernel
theorem dX12_village_46 : decode cX12_village 46 = .ok (.iconst 1, 1) := by decide +kernel
theorem dX12_village_47 : decode cX12_village 47 = .ok (.isub, 1) := by decide +kernel
theorem dX12_village_48 : decode cX12_village 48 = .ok (.invokestatic 145, 3) := by decide +kernel
theorem dX12_village_51 : decode cX12_village 51 = .ok (.ifCond .ne 6, 3) := by decide +kernel
theorem dX12_village_54 : decode cX12_village 54 = .ok (.bipush (-2), 2) := by decide +kernel
theorem dX12_village_56 : decode cX12_village 56 = .ok (.ireturn, 1) := by decide +kernel
theorem dX12_village_57 : decode cX12_village 57 = .ok (.iload_n 3, 1) := by decide +kernel
theorem dX12_village_58 : decode cX12_village 58 = .ok (.iconst 0, 1) := by decide +kernel
theorem dX12_village_59 : decode cX12_village 59 = .ok (.iconst 3, 1) := by decide +kernel
theorem dX12_village_60 : decode cX12_village 60 = .ok (.invokestatic 145, 3) := by decide +kernel
theorem dX12_village_63 : decode cX12_village 63 = .ok (.ifCond .eq 12, 3) := by decide +kernel
theorem dX12_village_66 : decode cX12_village 66 = .ok (.aload_n 0, 1) := by decide +kernel
theorem dX12_village_67 : decode cX12_village 67 = .ok (.iload_n 2, 1) := by decide +kernel
theorem dX12_village_68 : decode cX12_village 68 = .ok (.iload_n 3, 1) := by decide +kernel
theorem dX12_village_69 : decode cX12_village 69 = .ok (.invokevirtual 334, 3) := by decide +kernel
theorem dX12_village_72 : decode cX12_village 72 = .ok (.goto 18, 3) := by decide +kernel
theorem dX12_village_75 : decode cX12_village 75 = .ok (.iload_n 3, 1) := by decide +kernel
theorem dX12_village_76 : decode cX12_village 76 = .ok (.iconst 4, 1) := by decide +kernel
theorem dX12_village_77 : decode cX12_village 77 = .ok (.if_icmp .ne 11, 3) := by decide +kernel
theorem dX12_village_80 : decode cX12_village 80 = .ok (.aload_n 0, 1) := by decide +kernel
theorem dX12_village_81 : decode cX12_village 81 = .ok (.iload_n 2, 1) := by decide +kernel
theorem dX12_village_82 : decode cX12_village 82 = .ok (.invokevirtual 340, 3) := by decide +kernel
theorem dX12_village_85 : decode cX12_village 85 = .ok (.goto 5, 3) := by decide +kernel
theorem dX12_village_88 : decode cX12_village 88 = .ok (.bipush (-2), 2) := by decide +kernel
theorem dX12_village_90 : decode cX12_village 90 = .ok (.ireturn, 1) := by decide +kernel
theorem dX12_repeats_0 : decode cX12_repeats 0 = .ok (.iload_n 1, 1) := by decide +kernel
theorem dX12_repeats_1 : decode cX12_repeats 1 = .ok (.bipush 8, 2) := by decide +kernel
theorem dX12_repeats_3 : decode cX12_repeats 3 = .ok (.if_icmp .ne 10, 3) := by decide +kernel
theorem dX12_repeats_6 : decode cX12_repeats 6 = .ok (.aload_n 0, 1) := by decide +kernel
theorem dX12_repeats_7 : decode cX12_repeats 7 = .ok (.getfield 243, 3) := by decide +kernel
theorem dX12_repeats_10 : decode cX12_repeats 10 = .ok (.goto 9, 3) := by decide +kernel
theorem dX12_repeats_13 : decode cX12_repeats 13 = .ok (.aload_n 0, 1) := by decide +kernel
theorem dX12_repeats_14 : decode cX12_repeats 14 = .ok (.getfield 68, 3) := by decide +kernel
theorem dX12_repeats_17 : decode cX12_repeats 17 = .ok (.iload_n 1, 1) := by decide +kernel
theorem dX12_repeats_18 : decode cX12_repeats 18 = .ok (.iaload, 1) := by decide +kernel
theorem dX12_repeats_19 : decode cX12_repeats 19 = .ok (.istore_n 2, 1) := by decide +kernel
theorem dX12_repeats_20 : decode cX12_repeats 20 = .ok (.iconst 0, 1) := by decide +kernel
theorem dX12_repeats_21 : decode cX12_repeats 21 = .ok (.istore_n 3, 1) := by decide +kernel
theorem dX12_repeats_22 : decode cX12_repeats 22 = .ok (.iload_n 3, 1) := by decide +kernel
theorem dX12_repeats_23 : decode cX12_repeats 23 = .ok (.iload_n 2, 1) := by decide +kernel
theorem dX12_repeats_24 : decode cX12_repeats 24 = .ok (.if_icmp .ge 41, 3) := by decide +kernel
theorem dX12_repeats_27 : decode cX12_repeats 27 = .ok (.aload_n 0, 1) := by decide +kernel
theorem dX12_repeats_28 : decode cX12_repeats 28 = .ok (.getfield 71, 3) := by decide +kernel
theorem dX12_repeats_31 : decode cX12_repeats 31 = .ok (.iload_n 3, 1) := by decide +kernel
theorem dX12_repeats_32 : decode cX12_repeats 32 = .ok (.iload_n 1, 1) := by decide +kernel
theorem dX12_repeats_33 : decode cX12_repeats 33 = .ok (.bipush 8, 2) := by decide +kernel
theorem dX12_repeats_35 : decode cX12_repeats 35 = .ok (.if_icmp .ne 12, 3) := by decide +kernel
theorem dX12_repeats_38 : decode cX12_repeats 38 = .ok (.aload_n 0, 1) := by decide +kernel
theorem dX12_repeats_39 : decode cX12_repeats 39 = .ok (.getfield 32, 3) := by decide +kernel
theorem dX12_repeats_42 : decode cX12_repeats 42 = .ok (.iload_n 3, 1) := by decide +kernel
theorem dX12_repeats_43 : decode cX12_repeats 43 = .ok (.iaload, 1) := by decide +kernel
theorem dX12_repeats_44 : decode cX12_repeats 44 = .ok (.goto 14, 3) := by decide +kernel
theorem dX12_repeats_47 : decode cX12_repeats 47 = .ok (.aload_n 0, 1) := by decide +kernel
theorem dX12_repeats_48 : decode cX12_repeats 48 = .ok (.getfield 65, 3) := by decide +kernel
theorem dX12_repeats_51 : decode cX12_repeats 51 = .ok (.bipush 60, 2) := by decide +kernel
theorem dX12_repeats_53 : decode cX12_repeats 53 = .ok (.iload_n 1, 1) := by decide +kernel
theorem dX12_repeats_54 : decode cX12_repeats 54 = .ok (.imul, 1) := by decide +kernel
theorem dX12_repeats_55 : decode cX12_repeats 55 = .ok (.iload_n 3, 1) := by decide +kernel
theorem dX12_repeats_56 : decode cX12_repeats 56 = .ok (.iadd, 1) := by decide +kernel
theorem dX12_repeats_57 : decode cX12_repeats 57 = .ok (.iaload, 1) := by decide +kernel
theorem dX12_repeats_58 : decode cX12_repeats 58 = .ok (.iastore, 1) := by decide +kernel
theorem dX12_repeats_59 : decode cX12_repeats 59 = .ok (.iinc 3 1, 3) := by decide +kernel
theorem dX12_repeats_62 : decode cX12_repeats 62 = .ok (.goto (-40), 3) := by decide +kernel
theorem dX12_repeats_65 : decode cX12_repeats 65 = .ok (.iload_n 2, 1) := by decide +kernel
theorem dX12_repeats_66 : decode cX12_repeats 66 = .ok (.ireturn, 1) := by decide +kernel
theorem dX12_adds_0 : decode cX12_adds 0 = .ok (.aload_n 0, 1) := by decide +kernel
theorem dX12_adds_1 : decode cX12_adds 1 = .ok (.getfield 68, 3) := by decide +kernel
theorem dX12_adds_4 : decode cX12_adds 4 = .ok (.iload_n 1, 1) := by decide +kernel
theorem dX12_adds_5 : decode cX12_adds 5 = .ok (.iaload, 1) := by decide +kernel
theorem dX12_adds_6 : decode cX12_adds 6 = .ok (.bipush 60, 2) := by decide +kernel
theorem dX12_adds_8 : decode cX12_adds 8 = .ok (.if_icmp .lt 4, 3) := by decide +kernel
theorem dX12_adds_11 : decode cX12_adds 11 = .ok (.return_, 1) := by decide +kernel
theorem dX12_adds_12 : decode cX12_adds 12 = .ok (.aload_n 0, 1) := by decide +kernel
theorem dX12_adds_13 : decode cX12_adds 13 = .ok (.getfield 65, 3) := by decide +kernel
theorem dX12_adds_16 : decode cX12_adds 16 = .ok (.bipush 60, 2) := by decide +kernel
theorem dX12_adds_18 : decode cX12_adds 18 = .ok (.iload_n 1, 1) := by decide +kernel
theorem dX12_adds_19 : decode cX12_adds 19 = .ok (.imul, 1) := by decide +kernel
theorem dX12_adds_20 : decode cX12_adds 20 = .ok (.aload_n 0, 1) := by decide +kernel
theorem dX12_adds_21 : decode cX12_adds 21 = .ok (.getfield 68, 3) := by decide +kernel
theorem dX12_adds_24 : decode cX12_adds 24 = .ok (.iload_n 1, 1) := by decide +kernel
theorem dX12_adds_25 : decode cX12_adds 25 = .ok (.iaload, 1) := by decide +kernel
theorem dX12_adds_26 : decode cX12_adds 26 = .ok (.iadd, 1) := by decide +kernel
theorem dX12_adds_27 : decode cX12_adds 27 = .ok (.iload_n 2, 1) := by decide +kernel
theorem dX12_adds_28 : decode cX12_adds 28 = .ok (.iastore, 1) := by decide +kernel
theorem dX12_adds_29 : decode cX12_adds 29 = .ok (.aload_n 0, 1) := by decide +kernel
theorem dX12_adds_30 : decode cX12_adds 30 = .ok (.getfield 68, 3) := by decide +kernel
theorem dX12_adds_33 : decode cX12_adds 33 = .ok (.iload_n 1, 1) := by decide +kernel
theorem dX12_adds_34 : decode cX12_adds 34 = .ok (.dup2, 1) := by decide +kernel
theorem dX12_adds_35 : decode cX12_adds 35 = .ok (.iaload, 1) := by decide +kernel
theorem dX12_adds_36 : decode cX12_adds 36 = .ok (.iconst 1, 1) := by decide +kernel
theorem dX12_adds_37 : decode cX12_adds 37 = .ok (.iadd, 1) := by decide +kernel
theorem dX12_adds_38 : decode cX12_adds 38 = .ok (.iastore, 1) := by decide +kernel
theorem dX12_adds_39 : decode cX12_adds 39 = .ok (.return_, 1) := by decide +kernel
theorem dX12_changes_0 : decode cX12_changes 0 = .ok (.aload_n 0, 1) := by decide +kernel
theorem dX12_changes_1 : decode cX12_changes 1 = .ok (.aload_n 0, 1) := by decide +kernel
theorem dX12_changes_2 : decode cX12_changes 2 = .ok (.iload_n 1, 1) := by decide +kernel
theorem dX12_changes_3 : decode cX12_changes 3 = .ok (.iconst 0, 1) := by decide +kernel
theorem dX12_changes_4 : decode cX12_changes 4 = .ok (.invokevirtual 334, 3) := by decide +kernel
theorem dX12_changes_7 : decode cX12_changes 7 = .ok (.invokevirtual 343, 3) := by decide +kernel
theorem dX12_changes_10 : decode cX12_changes 10 = .ok (.istore_n 2, 1) := by decide +kernel
theorem dX12_changes_11 : decode cX12_changes 11 = .ok (.aload_n 0, 1) := by decide +kernel
theorem dX12_changes_12 : decode cX12_changes 12 = .ok (.iload_n 1, 1) := by decide +kernel
theorem dX12_changes_13 : decode cX12_changes 13 = .ok (.iconst 1, 1) := by decide +kernel
theorem dX12_changes_14 : decode cX12_changes 14 = .ok (.invokevirtual 334, 3) := by decide +kernel
theorem dX12_changes_17 : decode cX12_changes 17 = .ok (.istore_n 3, 1) := by decide +kernel
theorem dX12_changes_18 : decode cX12_changes 18 = .ok (.aload_n 0, 1) := by decide +kernel
theorem dX12_changes_19 : decode cX12_changes 19 = .ok (.iload_n 1, 1) := by decide +kernel
theorem dX12_changes_20 : decode cX12_changes 20 = .ok (.iconst 2, 1) := by decide +kernel
theorem dX12_changes_21 : decode cX12_changes 21 = .ok (.invokevirtual 334, 3) := by decide +kernel
theorem dX12_changes_24 : decode cX12_changes 24 = .ok (.istore 4, 2) := by decide +kernel
theorem dX12_changes_26 : decode cX12_changes 26 = .ok (.aload_n 0, 1) := by decide +kernel
theorem dX12_changes_27 : decode cX12_changes 27 = .ok (.iload_n 1, 1) := by decide +kernel
theorem dX12_changes_28 : decode cX12_changes 28 = .ok (.iconst 3, 1) := by decide +kernel
theorem dX12_changes_29 : decode cX12_changes 29 = .ok (.invokevirtual 334, 3) := by decide +kernel
theorem dX12_changes_32 : decode cX12_changes 32 = .ok (.istore 5, 2) := by decide +kernel
theorem dX12_changes_34 : decode cX12_changes 34 = .ok (.aload_n 0, 1) := by decide +kernel
theorem dX12_changes_35 : decode cX12_changes 35 = .ok (.getfield 68, 3) := by decide +kernel
theorem dX12_changes_38 : decode cX12_changes 38 = .ok (.iload_n 1, 1) := by decide +kernel
theorem dX12_changes_39 : decode cX12_changes 39 = .ok (.iconst 0, 1) := by decide +kernel
theorem dX12_changes_40 : decode cX12_changes 40 = .ok (.iastore, 1) := by decide +kernel
theorem dX12_changes_41 : decode cX12_changes 41 = .ok (.iconst 0, 1) := by decide +kernel
theorem dX12_changes_42 : decode cX12_changes 42 = .ok (.istore 6, 2) := by decide +kernel
theorem dX12_changes_44 : decode cX12_changes 44 = .ok (.iload 6, 2) := by decide +kernel
theorem dX12_changes_46 : decode cX12_changes 46 = .ok (.iload_n 2, 1) := by decide +kernel
theorem dX12_changes_47 : decode cX12_changes 47 = .ok (.if_icmp .ge 108, 3) := by decide +kernel
theorem dX12_changes_50 : decode cX12_changes 50 = .ok (.aload_n 0, 1) := by decide +kernel
theorem dX12_changes_51 : decode cX12_changes 51 = .ok (.getfield 71, 3) := by decide +kernel
theorem dX12_changes_54 : decode cX12_changes 54 = .ok (.iload 6, 2) := by decide +kernel
theorem dX12_changes_56 : decode cX12_changes 56 = .ok (.iaload, 1) := by decide +kernel
theorem dX12_changes_57 : decode cX12_changes 57 = .ok (.istore 7, 2) := by decide +kernel
theorem dX12_changes_59 : decode cX12_changes 59 = .ok (.iload_n 3, 1) := by decide +kernel
theorem dX12_changes_60 : decode cX12_changes 60 = .ok (.ifCond .ne 13, 3) := by decide +kernel
theorem dX12_changes_63 : decode cX12_changes 63 = .ok (.iload 6, 2) := by decide +kernel
theorem dX12_changes_65 : decode cX12_changes 65 = .ok (.iconst 1, 1) := by decide +kernel
theorem dX12_changes_66 : decode cX12_changes 66 = .ok (.iadd, 1) := by decide +kernel
theorem dX12_changes_67 : decode cX12_changes 67 = .ok (.iload 4, 2) := by decide +kernel
theorem dX12_changes_69 : decode cX12_changes 69 = .ok (.irem, 1) := by decide +kernel
theorem dX12_changes_70 : decode cX12_changes 70 = .ok (.ifCond .eq 79, 3) := by decide +kernel
theorem dX12_changes_73 : decode cX12_changes 73 = .ok (.iload_n 3, 1) := by decide +kernel
theorem dX12_changes_74 : decode cX12_changes 74 = .ok (.iconst 3, 1) := by decide +kernel
theorem dX12_changes_75 : decode cX12_changes 75 = .ok (.if_icmp .ne 14, 3) := by decide +kernel
theorem dX12_changes_78 : decode cX12_changes 78 = .ok (.iload 6, 2) := by decide +kernel
theorem dX12_changes_80 : decode cX12_changes 80 = .ok (.iload_n 2, 1) := by decide +kernel
theorem dX12_changes_81 : decode cX12_changes 81 = .ok (.iconst 1, 1) := by decide +kernel
theorem dX12_changes_82 : decode cX12_changes 82 = .ok (.isub, 1) := by decide +kernel
theorem dX12_changes_83 : decode cX12_changes 83 = .ok (.if_icmp .ne 6, 3) := by decide +kernel
theorem dX12_changes_86 : decode cX12_changes 86 = .ok (.goto 63, 3) := by decide +kernel
theorem dX12_changes_89 : decode cX12_changes 89 = .ok (.aload_n 0, 1) := by decide +kernel
theorem dX12_changes_90 : decode cX12_changes 90 = .ok (.iload_n 1, 1) := by decide +kernel
theorem dX12_changes_91 : decode cX12_changes 91 = .ok (.iload_n 3, 1) := by decide +kernel
theorem dX12_changes_92 : decode cX12_changes 92 = .ok (.iconst 1, 1) := by decide +kernel
theorem dX12_changes_93 : decode cX12_changes 93 = .ok (.if_icmp .ne 15, 3) := by decide +kernel
theorem dX12_changes_96 : decode cX12_changes 96 = .ok (.iload 7, 2) := by decide +kernel
theorem dX12_changes_98 : decode cX12_changes 98 = .ok (.iload 4, 2) := by decide +kernel
theorem dX12_changes_100 : decode cX12_changes 100 = .ok (.if_icmp .ne 8, 3) := by decide +kernel
theorem dX12_changes_103 : decode cX12_changes 103 = .ok (.iload 5, 2) := by decide +kernel
theorem dX12_changes_105 : decode cX12_changes 105 = .ok (.goto 22, 3) := by decide +kernel
theorem dX12_changes_108 : decode cX12_changes 108 = .ok (.iload_n 3, 1) := by decide +kernel
theorem dX12_changes_109 : decode cX12_changes 109 = .ok (.iconst 1, 1) := by decide +kernel
theorem dX12_changes_110 : decode cX12_changes 110 = .ok (.if_icmp .ne 15, 3) := by decide +kernel
theorem dX12_changes_113 : decode cX12_changes 113 = .ok (.iload 7, 2) := by decide +kernel
theorem dX12_changes_115 : decode cX12_changes 115 = .ok (.iload 5, 2) := by decide +kernel
theorem dX12_changes_117 : decode cX12_changes 117 = .ok (.if_icmp .ne 8, 3) := by decide +kernel
theorem dX12_changes_120 : decode cX12_changes 120 = .ok (.iload 4, 2) := by decide +kernel
theorem dX12_changes_122 : decode cX12_changes 122 = .ok (.goto 5, 3) := by decide +kernel
theorem dX12_changes_125 : decode cX12_changes 125 = .ok (.iload 7, 2) := by decide +kernel
theorem dX12_changes_127 : decode cX12_changes 127 = .ok (.invokevirtual 346, 3) := by decide +kernel
theorem dX12_changes_130 : decode cX12_changes 130 = .ok (.iload_n 3, 1) := by decide +kernel
theorem dX12_changes_131 : decode cX12_changes 131 = .ok (.iconst 2, 1) := by decide +kernel
theorem dX12_changes_132 : decode cX12_changes 132 = .ok (.if_icmp .ne 17, 3) := by decide +kernel
theorem dX12_changes_135 : decode cX12_changes 135 = .ok (.iload 7, 2) := by decide +kernel
theorem dX12_changes_137 : decode cX12_changes 137 = .ok (.iload 4, 2) := by decide +kernel
theorem dX12_changes_139 : decode cX12_changes 139 = .ok (.if_icmp .ne 10, 3) := by decide +kernel
theorem dX12_changes_142 : decode cX12_changes 142 = .ok (.aload_n 0, 1) := by decide +kernel
theorem dX12_changes_143 : decode cX12_changes 143 = .ok (.iload_n 1, 1) := by decide +kernel
theorem dX12_changes_144 : decode cX12_changes 144 = .ok (.iload 7, 2) := by decide +kernel
theorem dX12_changes_146 : decode cX12_changes 146 = .ok (.invokevirtual 346, 3) := by decide +kernel
theorem dX12_changes_149 : decode cX12_changes 149 = .ok (.iinc 6 1, 3) := by decide +kernel
theorem dX12_changes_152 : decode cX12_changes 152 = .ok (.goto (-108), 3) := by decide +kernel
theorem dX12_changes_155 : decode cX12_changes 155 = .ok (.return_, 1) := by decide +kernel
theorem dX12_areTold_0 : decode cX12_areTold 0 = .ok (.aload_n 0, 1) := by decide +kernel
theorem dX12_areTold_1 : decode cX12_areTold 1 = .ok (.iload_n 1, 1) := by decide +kernel
theorem dX12_areTold_2 : decode cX12_areTold 2 = .ok (.iload_n 2, 1) := by decide +kernel
theorem dX12_areTold_3 : decode cX12_areTold 3 = .ok (.invokevirtual 255, 3) := by decide +kernel
theorem dX12_areTold_6 : decode cX12_areTold 6 = .ok (.ifCond .eq 31, 3) := by decide +kernel
theorem dX12_areTold_9 : decode cX12_areTold 9 = .ok (.aload_n 0, 1) := by decide +kernel
theorem dX12_areTold_10 : decode cX12_areTold 10 = .ok (.iload_n 3, 1) := by decide +kernel
theorem dX12_areTold_11 : decode cX12_areTold 11 = .ok (.invokevirtual 337, 3) := by decide +kernel
theorem dX12_areTold_14 : decode cX12_areTold 14 = .ok (.ifCond .eq 23, 3) := by decide +kernel
theorem dX12_areTold_17 : decode cX12_areTold 17 = .ok (.iload 4, 2) := by decide +kernel
theorem dX12_areTold_19 : decode cX12_areTold 19 = .ok (.iconst 0, 1) := by decide +kernel
theorem dX12_areTold_20 : decode cX12_areTold 20 = .ok (.aload_n 0, 1) := by decide +kernel
theorem dX12_areTold_21 : decode cX12_areTold 21 = .ok (.getfield 7, 3) := by decide +kernel
theorem dX12_areTold_24 : decode cX12_areTold 24 = .ok (.aload_n 0, 1) := by decide +kernel
theorem dX12_areTold_25 : decode cX12_areTold 25 = .ok (.getfield 331, 3) := by decide +kernel
theorem dX12_areTold_28 : decode cX12_areTold 28 = .ok (.iaload, 1) := by decide +kernel
theorem dX12_areTold_29 : decode cX12_areTold 29 = .ok (.iconst 1, 1) := by decide +kernel
theorem dX12_areTold_30 : decode cX12_areTold 30 = .ok (.isub, 1) := by decide +kernel
theorem dX12_areTold_31 : decode cX12_areTold 31 = .ok (.invokestatic 145, 3) := by decide +kernel
theorem dX12_areTold_34 : decode cX12_areTold 34 = .ok (.ifCond .ne 5, 3) := by decide +kernel
theorem dX12_areTold_37 : decode cX12_areTold 37 = .ok (.iconst 0, 1) := by decide +kernel
theorem dX12_areTold_38 : decode cX12_areTold 38 = .ok (.ireturn, 1) := by decide +kernel
theorem dX12_areTold_39 : decode cX12_areTold 39 = .ok (.iconst 0, 1) := by decide +kernel
theorem dX12_areTold_40 : decode cX12_areTold 40 = .ok (.istore 5, 2) := by decide +kernel
theorem dX12_areTold_42 : decode cX12_areTold 42 = .ok (.iload 5, 2) := by decide +kernel
theorem dX12_areTold_44 : decode cX12_areTold 44 = .ok (.aload_n 0, 1) := by decide +kernel
theorem dX12_areTold_45 : decode cX12_areTold 45 = .ok (.getfield 7, 3) := by decide +kernel
theorem dX12_areTold_48 : decode cX12_areTold 48 = .ok (.aload_n 0, 1) := by decide +kernel
theorem dX12_areTold_49 : decode cX12_areTold 49 = .ok (.getfield 331, 3) := by decide +kernel
theorem dX12_areTold_52 : decode cX12_areTold 52 = .ok (.iaload, 1) := by decide +kernel
theorem dX12_areTold_53 : decode cX12_areTold 53 = .ok (.if_icmp .ge 15, 3) := by decide +kernel
theorem dX12_areTold_56 : decode cX12_areTold 56 = .ok (.aload_n 0, 1) := by decide +kernel
theorem dX12_areTold_57 : decode cX12_areTold 57 = .ok (.iload 5, 2) := by decide +kernel
theorem dX12_areTold_59 : decode cX12_areTold 59 = .ok (.invokevirtual 349, 3) := by decide +kernel
theorem dX12_areTold_62 : decode cX12_areTold 62 = .ok (.iinc 5 1, 3) := by decide +kernel
theorem dX12_areTold_65 : decode cX12_areTold 65 = .ok (.goto (-23), 3) := by decide +kernel
theorem dX12_areTold_68 : decode cX12_areTold 68 = .ok (.iconst 1, 1) := by decide +kernel
theorem dX12_areTold_69 : decode cX12_areTold 69 = .ok (.ireturn, 1) := by decide +kernel
theorem dX12_version_0 : decode cX12_version 0 = .ok (.aload_n 0, 1) := by decide +kernel
theorem dX12_version_1 : decode cX12_version 1 = .ok (.iload_n 1, 1) := by decide +kernel
theorem dX12_version_2 : decode cX12_version 2 = .ok (.iload_n 2, 1) := by decide +kernel
theorem dX12_version_3 : decode cX12_version 3 = .ok (.iload_n 3, 1) := by decide +kernel
theorem dX12_version_4 : decode cX12_version 4 = .ok (.iload 4, 2) := by decide +kernel
theorem dX12_version_6 : decode cX12_version 6 = .ok (.invokevirtual 352, 3) := by decide +kernel
theorem dX12_version_9 : decode cX12_version 9 = .ok (.ifCond .ne 5, 3) := by decide +kernel
theorem dX12_version_12 : decode cX12_version 12 = .ok (.iconst (-1), 1) := by decide +kernel
theorem dX12_version_13 : decode cX12_version 13 = .ok (.ireturn, 1) := by decide +kernel
theorem dX12_version_14 : decode cX12_version 14 = .ok (.iload 5, 2) := by decide +kernel
theorem dX12_version_16 : decode cX12_version 16 = .ok (.iconst (-1), 1) := by decide +kernel
theorem dX12_version_17 : decode cX12_version 17 = .ok (.if_icmp .ne 13, 3) := by decide +kernel
theorem dX12_version_20 : decode cX12_version 20 = .ok (.aload_n 0, 1) := by decide +kernel
theorem dX12_version_21 : decode cX12_version 21 = .ok (.getfield 68, 3) := by decide +kernel
theorem dX12_version_24 : decode cX12_version 24 = .ok (.iload 4, 2) := by decide +kernel
theorem dX12_version_26 : decode cX12_version 26 = .ok (.iaload, 1) := by decide +kernel
theorem dX12_version_27 : decode cX12_version 27 = .ok (.goto 38, 3) := by decide +kernel
theorem dX12_version_30 : decode cX12_version 30 = .ok (.iload 5, 2) := by decide +kernel
theorem dX12_version_32 : decode cX12_version 32 = .ok (.iconst 0, 1) := by decide +kernel
theorem dX12_version_33 : decode cX12_version 33 = .ok (.aload_n 0, 1) := by decide +kernel
theorem dX12_version_34 : decode cX12_version 34 = .ok (.getfield 68, 3) := by decide +kernel
theorem dX12_version_37 : decode cX12_version 37 = .ok (.iload 4, 2) := by decide +kernel
theorem dX12_version_39 : decode cX12_version 39 = .ok (.iaload, 1) := by decide +kernel
theorem dX12_version_40 : decode cX12_version 40 = .ok (.iconst 1, 1) := by decide +kernel
theorem dX12_version_41 : decode cX12_version 41 = .ok (.isub, 1) := by decide +kernel
theorem dX12_version_42 : decode cX12_version 42 = .ok (.invokestatic 145, 3) := by decide +kernel
theorem dX12_version_45 : decode cX12_version 45 = .ok (.ifCond .eq 19, 3) := by decide +kernel
theorem dX12_version_48 : decode cX12_version 48 = .ok (.aload_n 0, 1) := by decide +kernel
theorem dX12_version_49 : decode cX12_version 49 = .ok (.getfield 65, 3) := by decide +kernel
theorem dX12_version_52 : decode cX12_version 52 = .ok (.bipush 60, 2) := by decide +kernel
theorem dX12_version_54 : decode cX12_version 54 = .ok (.iload 4, 2) := by decide +kernel
theorem dX12_version_56 : decode cX12_version 56 = .ok (.imul, 1) := by decide +kernel
theorem dX12_version_57 : decode cX12_version 57 = .ok (.iload 5, 2) := by decide +kernel
theorem dX12_version_59 : decode cX12_version 59 = .ok (.iadd, 1) := by decide +kernel
theorem dX12_version_60 : decode cX12_version 60 = .ok (.iaload, 1) := by decide +kernel
theorem dX12_version_61 : decode cX12_version 61 = .ok (.goto 4, 3) := by decide +kernel
theorem dX12_version_64 : decode cX12_version 64 = .ok (.iconst (-1), 1) := by decide +kernel
theorem dX12_version_65 : decode cX12_version 65 = .ok (.ireturn, 1) := by decide +kernel
theorem dX12_areAlike_0 : decode cX12_areAlike 0 = .ok (.aload_n 0, 1) := by decide +kernel
theorem dX12_areAlike_1 : decode cX12_areAlike 1 = .ok (.getfield 68, 3) := by decide +kernel
theorem dX12_areAlike_4 : decode cX12_areAlike 4 = .ok (.iload_n 1, 1) := by decide +kernel
theorem dX12_areAlike_5 : decode cX12_areAlike 5 = .ok (.iaload, 1) := by decide +kernel
theorem dX12_areAlike_6 : decode cX12_areAlike 6 = .ok (.aload_n 0, 1) := by decide +kernel
theorem dX12_areAlike_7 : decode cX12_areAlike 7 = .ok (.getfield 68, 3) := by decide +kernel
theorem dX12_areAlike_10 : decode cX12_areAlike 10 = .ok (.iload_n 2, 1) := by decide +kernel
theorem dX12_areAlike_11 : decode cX12_areAlike 11 = .ok (.iaload, 1) := by decide +kernel
theorem dX12_areAlike_12 : decode cX12_areAlike 12 = .ok (.if_icmp .ne 7, 3) := by decide +kernel
theorem dX12_areAlike_15 : decode cX12_areAlike 15 = .ok (.iconst 1, 1) := by decide +kernel
theorem dX12_areAlike_16 : decode cX12_areAlike 16 = .ok (.goto 4, 3) := by decide +kernel
theorem dX12_areAlike_19 : decode cX12_areAlike 19 = .ok (.iconst 0, 1) := by decide +kernel
theorem dX12_areAlike_20 : decode cX12_areAlike 20 = .ok (.istore_n 3, 1) := by decide +kernel
theorem dX12_areAlike_21 : decode cX12_areAlike 21 = .ok (.iconst 0, 1) := by decide +kernel
theorem dX12_areAlike_22 : decode cX12_areAlike 22 = .ok (.istore 4, 2) := by decide +kernel
theorem dX12_areAlike_24 : decode cX12_areAlike 24 = .ok (.iload 4, 2) := by decide +kernel
theorem dX12_areAlike_26 : decode cX12_areAlike 26 = .ok (.aload_n 0, 1) := by decide +kernel
theorem dX12_areAlike_27 : decode cX12_areAlike 27 = .ok (.getfield 68, 3) := by decide +kernel
theorem dX12_areAlike_30 : decode cX12_areAlike 30 = .ok (.iload_n 1, 1) := by decide +kernel
theorem dX12_areAlike_31 : decode cX12_areAlike 31 = .ok (.iaload, 1) := by decide +kernel
theorem dX12_areAlike_32 : decode cX12_areAlike 32 = .ok (.if_icmp .ge 46, 3) := by decide +kernel
theorem dX12_areAlike_35 : decode cX12_areAlike 35 = .ok (.iload_n 3, 1) := by decide +kernel
theorem dX12_areAlike_36 : decode cX12_areAlike 36 = .ok (.ifCond .eq 42, 3) := by decide +kernel
theorem dX12_areAlike_39 : decode cX12_areAlike 39 = .ok (.aload_n 0, 1) := by decide +kernel
theorem dX12_areAlike_40 : decode cX12_areAlike 40 = .ok (.getfield 65, 3) := by decide +kernel
theorem dX12_areAlike_43 : decode cX12_areAlike 43 = .ok (.bipush 60, 2) := by decide +kernel
theorem dX12_areAlike_45 : decode cX12_areAlike 45 = .ok (.iload_n 1, 1) := by decide +kernel
theorem dX12_areAlike_46 : decode cX12_areAlike 46 = .ok (.imul, 1) := by decide +kernel
theorem dX12_areAlike_47 : decode cX12_areAlike 47 = .ok (.iload 4, 2) := by decide +kernel
theorem dX12_areAlike_49 : decode cX12_areAlike 49 = .ok (.iadd, 1) := by decide +kernel
theorem dX12_areAlike_50 : decode cX12_areAlike 50 = .ok (.iaload, 1) := by decide +kernel
theorem dX12_areAlike_51 : decode cX12_areAlike 51 = .ok (.aload_n 0, 1) := by decide +kernel
theorem dX12_areAlike_52 : decode cX12_areAlike 52 = .ok (.getfield 65, 3) := by decide +kernel
theorem dX12_areAlike_55 : decode cX12_areAlike 55 = .ok (.bipush 60, 2) := by decide +kernel
theorem dX12_areAlike_57 : decode cX12_areAlike 57 = .ok (.iload_n 2, 1) := by decide +kernel
theorem dX12_areAlike_58 : decode cX12_areAlike 58 = .ok (.imul, 1) := by decide +kernel
theorem dX12_areAlike_59 : decode cX12_areAlike 59 = .ok (.iload 4, 2) := by decide +kernel
theorem dX12_areAlike_61 : decode cX12_areAlike 61 = .ok (.iadd, 1) := by decide +kernel
theorem dX12_areAlike_62 : decode cX12_areAlike 62 = .ok (.iaload, 1) := by decide +kernel
theorem dX12_areAlike_63 : decode cX12_areAlike 63 = .ok (.if_icmp .ne 7, 3) := by decide +kernel
theorem dX12_areAlike_66 : decode cX12_areAlike 66 = .ok (.iconst 1, 1) := by decide +kernel
theorem dX12_areAlike_67 : decode cX12_areAlike 67 = .ok (.goto 4, 3) := by decide +kernel
theorem dX12_areAlike_70 : decode cX12_areAlike 70 = .ok (.iconst 0, 1) := by decide +kernel
theorem dX12_areAlike_71 : decode cX12_areAlike 71 = .ok (.istore_n 3, 1) := by decide +kernel
theorem dX12_areAlike_72 : decode cX12_areAlike 72 = .ok (.iinc 4 1, 3) := by decide +kernel
theorem dX12_areAlike_75 : decode cX12_areAlike 75 = .ok (.goto (-51), 3) := by decide +kernel
theorem dX12_areAlike_78 : decode cX12_areAlike 78 = .ok (.iload_n 3, 1) := by decide +kernel
theorem dX12_areAlike_79 : decode cX12_areAlike 79 = .ok (.ireturn, 1) := by decide +kernel
theorem dX12_tale_0 : decode cX12_tale 0 = .ok (.aload_n 0, 1) := by decide +kernel
theorem dX12_tale_1 : decode cX12_tale 1 = .ok (.iload_n 1, 1) := by decide +kernel
theorem dX12_tale_2 : decode cX12_tale 2 = .ok (.iload_n 2, 1) := by decide +kernel
theorem dX12_tale_3 : decode cX12_tale 3 = .ok (.iload_n 3, 1) := by decide +kernel
theorem dX12_tale_4 : decode cX12_tale 4 = .ok (.iload 4, 2) := by decide +kernel
theorem dX12_tale_6 : decode cX12_tale 6 = .ok (.invokevirtual 352, 3) := by decide +kernel
theorem dX12_tale_9 : decode cX12_tale 9 = .ok (.ifCond .ne 5, 3) := by decide +kernel
theorem dX12_tale_12 : decode cX12_tale 12 = .ok (.iconst (-1), 1) := by decide +kernel
theorem dX12_tale_13 : decode cX12_tale 13 = .ok (.ireturn, 1) := by decide +kernel
theorem dX12_tale_14 : decode cX12_tale 14 = .ok (.iload 5, 2) := by decide +kernel
theorem dX12_tale_16 : decode cX12_tale 16 = .ok (.ifCond .eq 56, 3) := by decide +kernel
theorem dX12_tale_19 : decode cX12_tale 19 = .ok (.iconst 0, 1) := by decide +kernel
theorem dX12_tale_20 : decode cX12_tale 20 = .ok (.istore 6, 2) := by decide +kernel
theorem dX12_tale_22 : decode cX12_tale 22 = .ok (.iconst 0, 1) := by decide +kernel
theorem dX12_tale_23 : decode cX12_tale 23 = .ok (.istore 7, 2) := by decide +kernel
theorem dX12_tale_25 : decode cX12_tale 25 = .ok (.iload 7, 2) := by decide +kernel
theorem dX12_tale_27 : decode cX12_tale 27 = .ok (.aload_n 0, 1) := by decide +kernel
theorem dX12_tale_28 : decode cX12_tale 28 = .ok (.getfield 7, 3) := by decide +kernel
theorem dX12_tale_31 : decode cX12_tale 31 = .ok (.aload_n 0, 1) := by decide +kernel
theorem dX12_tale_32 : decode cX12_tale 32 = .ok (.getfield 331, 3) := by decide +kernel
theorem dX12_tale_35 : decode cX12_tale 35 = .ok (.iaload, 1) := by decide +kernel
theorem dX12_tale_36 : decode cX12_tale 36 = .ok (.if_icmp .ge 33, 3) := by decide +kernel
theorem dX12_tale_39 : decode cX12_tale 39 = .ok (.iload 6, 2) := by decide +kernel
theorem dX12_tale_41 : decode cX12_tale 41 = .ok (.aload_n 0, 1) := by decide +kernel
theorem dX12_tale_42 : decode cX12_tale 42 = .ok (.iload 7, 2) := by decide +kernel
theorem dX12_tale_44 : decode cX12_tale 44 = .ok (.iload 4, 2) := by decide +kernel
theorem dX12_tale_46 : decode cX12_tale 46 = .ok (.invokevirtual 355, 3) := by decide +kernel
theorem dX12_tale_49 : decode cX12_tale 49 = .ok (.ifCond .eq 10, 3) := by decide +kernel
theorem dX12_tale_52 : decode cX12_tale 52 = .ok (.iconst 1, 1) := by decide +kernel
theorem dX12_tale_53 : decode cX12_tale 53 = .ok (.iload 7, 2) := by decide +kernel
theorem dX12_tale_55 : decode cX12_tale 55 = .ok (.ishl, 1) := by decide +kernel
theorem dX12_tale_56 : decode cX12_tale 56 = .ok (.goto 4, 3) := by decide +kernel
theorem dX12_tale_59 : decode cX12_tale 59 = .ok (.iconst 0, 1) := by decide +kernel
theorem dX12_tale_60 : decode cX12_tale 60 = .ok (.ior, 1) := by decide +kernel
theorem dX12_tale_61 : decode cX12_tale 61 = .ok (.istore 6, 2) := by decide +kernel
theorem dX12_tale_63 : decode cX12_tale 63 = .ok (.iinc 7 1, 3) := by decide +kernel
theorem dX12_tale_66 : decode cX12_tale 66 = .ok (.goto (-41), 3) := by decide +kernel
theorem dX12_tale_69 : decode cX12_tale 69 = .ok (.iload 6, 2) := by decide +kernel
theorem dX12_tale_71 : decode cX12_tale 71 = .ok (.ireturn, 1) := by decide +kernel
theorem dX12_tale_72 : decode cX12_tale 72 = .ok (.iconst 0, 1) := by decide +kernel
theorem dX12_tale_73 : decode cX12_tale 73 = .ok (.istore 6, 2) := by decide +kernel
theorem dX12_tale_75 : decode cX12_tale 75 = .ok (.iload 6, 2) := by decide +kernel
theorem dX12_tale_77 : decode cX12_tale 77 = .ok (.aload_n 0, 1) := by decide +kernel
theorem dX12_tale_78 : decode cX12_tale 78 = .ok (.getfield 68, 3) := by decide +kernel
theorem dX12_tale_81 : decode cX12_tale 81 = .ok (.iload 4, 2) := by decide +kernel
theorem dX12_tale_83 : decode cX12_tale 83 = .ok (.iaload, 1) := by decide +kernel
theorem dX12_tale_84 : decode cX12_tale 84 = .ok (.if_icmp .ge 29, 3) := by decide +kernel
theorem dX12_tale_87 : decode cX12_tale 87 = .ok (.aload_n 0, 1) := by decide +kernel
theorem dX12_tale_88 : decode cX12_tale 88 = .ok (.getfield 56, 3) := by decide +kernel
theorem dX12_tale_91 : decode cX12_tale 91 = .ok (.iload 6, 2) := by decide +kernel
theorem dX12_tale_93 : decode cX12_tale 93 = .ok (.aload_n 0, 1) := by decide +kernel
theorem dX12_tale_94 : decode cX12_tale 94 = .ok (.getfield 65, 3) := by decide +kernel
theorem dX12_tale_97 : decode cX12_tale 97 = .ok (.bipush 60, 2) := by decide +kernel
theorem dX12_tale_99 : decode cX12_tale 99 = .ok (.iload 4, 2) := by decide +kernel
theorem dX12_tale_101 : decode cX12_tale 101 = .ok (.imul, 1) := by decide +kernel
theorem dX12_tale_102 : decode cX12_tale 102 = .ok (.iload 6, 2) := by decide +kernel
theorem dX12_tale_104 : decode cX12_tale 104 = .ok (.iadd, 1) := by decide +kernel
theorem dX12_tale_105 : decode cX12_tale 105 = .ok (.iaload, 1) := by decide +kernel
theorem dX12_tale_106 : decode cX12_tale 106 = .ok (.iastore, 1) := by decide +kernel
theorem dX12_tale_107 : decode cX12_tale 107 = .ok (.iinc 6 1, 3) := by decide +kernel
theorem dX12_tale_110 : decode cX12_tale 110 = .ok (.goto (-35), 3) := by decide +kernel
theorem dX12_tale_113 : decode cX12_tale 113 = .ok (.iconst 0, 1) := by decide +kernel
theorem dX12_tale_114 : decode cX12_tale 114 = .ok (.istore 6, 2) := by decide +kernel
theorem dX12_tale_116 : decode cX12_tale 116 = .ok (.iload 6, 2) := by decide +kernel
theorem dX12_tale_118 : decode cX12_tale 118 = .ok (.aload_n 0, 1) := by decide +kernel
theorem dX12_tale_119 : decode cX12_tale 119 = .ok (.getfield 243, 3) := by decide +kernel
theorem dX12_tale_122 : decode cX12_tale 122 = .ok (.if_icmp .ge 23, 3) := by decide +kernel
theorem dX12_tale_125 : decode cX12_tale 125 = .ok (.aload_n 0, 1) := by decide +kernel
theorem dX12_tale_126 : decode cX12_tale 126 = .ok (.getfield 59, 3) := by decide +kernel
theorem dX12_tale_129 : decode cX12_tale 129 = .ok (.iload 6, 2) := by decide +kernel
theorem dX12_tale_131 : decode cX12_tale 131 = .ok (.aload_n 0, 1) := by decide +kernel
theorem dX12_tale_132 : decode cX12_tale 132 = .ok (.getfield 32, 3) := by decide +kernel
theorem dX12_tale_135 : decode cX12_tale 135 = .ok (.iload 6, 2) := by decide +kernel
theorem dX12_tale_137 : decode cX12_tale 137 = .ok (.iaload, 1) := by decide +kernel
theorem dX12_tale_138 : decode cX12_tale 138 = .ok (.iastore, 1) := by decide +kernel
theorem dX12_tale_139 : decode cX12_tale 139 = .ok (.iinc 6 1, 3) := by decide +kernel
theorem dX12_tale_142 : decode cX12_tale 142 = .ok (.goto (-26), 3) := by decide +kernel
theorem dX12_tale_145 : decode cX12_tale 145 = .ok (.aload_n 0, 1) := by decide +kernel
theorem dX12_tale_146 : decode cX12_tale 146 = .ok (.aload_n 0, 1) := by decide +kernel
theorem dX12_tale_147 : decode cX12_tale 147 = .ok (.getfield 68, 3) := by decide +kernel
theorem dX12_tale_150 : decode cX12_tale 150 = .ok (.iload 4, 2) := by decide +kernel
theorem dX12_tale_152 : decode cX12_tale 152 = .ok (.iaload, 1) := by decide +kernel
theorem dX12_tale_153 : decode cX12_tale 153 = .ok (.aload_n 0, 1) := by decide +kernel
theorem dX12_tale_154 : decode cX12_tale 154 = .ok (.getfield 243, 3) := by decide +kernel
theorem dX12_tale_157 : decode cX12_tale 157 = .ok (.invokevirtual 323, 3) := by decide +kernel
theorem dX12_tale_160 : decode cX12_tale 160 = .ok (.ireturn, 1) := by decide +kernel
theorem dX12_below_0 : decode cX12_below 0 = .ok (.aload_n 0, 1) := by decide +kernel
theorem dX12_below_1 : decode cX12_below 1 = .ok (.aload_n 0, 1) := by decide +kernel
theorem dX12_below_2 : decode cX12_below 2 = .ok (.getfield 358, 3) := by decide +kernel
theorem dX12_below_5 : decode cX12_below 5 = .ok (.ldc_w 361, 3) := by decide +kernel
theorem dX12_below_8 : decode cX12_below 8 = .ok (.imul, 1) := by decide +kernel
theorem dX12_below_9 : decode cX12_below 9 = .ok (.sipush 12345, 3) := by decide +kernel
theorem dX12_below_12 : decode cX12_below 12 = .ok (.iadd, 1) := by decide +kernel
theorem dX12_below_13 : decode cX12_below 13 = .ok (.putfield 358, 3) := by decide +kernel
theorem dX12_below_16 : decode cX12_below 16 = .ok (.aload_n 0, 1) := by decide +kernel
theorem dX12_below_17 : decode cX12_below 17 = .ok (.getfield 358, 3) := by decide +kernel
theorem dX12_below_20 : decode cX12_below 20 = .ok (.bipush 16, 2) := by decide +kernel
theorem dX12_below_22 : decode cX12_below 22 = .ok (.iushr, 1) := by decide +kernel
theorem dX12_below_23 : decode cX12_below 23 = .ok (.iload_n 1, 1) := by decide +kernel
theorem dX12_below_24 : decode cX12_below 24 = .ok (.irem, 1) := by decide +kernel
theorem dX12_below_25 : decode cX12_below 25 = .ok (.ireturn, 1) := by decide +kernel
theorem dX12_madeAlike_0 : decode cX12_madeAlike 0 = .ok (.aload_n 0, 1) := by decide +kernel
theorem dX12_madeAlike_1 : decode cX12_madeAlike 1 = .ok (.getfield 47, 3) := by decide +kernel
theorem dX12_madeAlike_4 : decode cX12_madeAlike 4 = .ok (.iconst 0, 1) := by decide +kernel
theorem dX12_madeAlike_5 : decode cX12_madeAlike 5 = .ok (.iaload, 1) := by decide +kernel
theorem dX12_madeAlike_6 : decode cX12_madeAlike 6 = .ok (.aload_n 0, 1) := by decide +kernel
theorem dX12_madeAlike_7 : decode cX12_madeAlike 7 = .ok (.getfield 47, 3) := by decide +kernel
theorem dX12_madeAlike_10 : decode cX12_madeAlike 10 = .ok (.iconst 1, 1) := by decide +kernel
theorem dX12_madeAlike_11 : decode cX12_madeAlike 11 = .ok (.iaload, 1) := by decide +kernel
theorem dX12_madeAlike_12 : decode cX12_madeAlike 12 = .ok (.if_icmp .ne 7, 3) := by decide +kernel
theorem dX12_madeAlike_15 : decode cX12_madeAlike 15 = .ok (.iconst 1, 1) := by decide +kernel
theorem dX12_madeAlike_16 : decode cX12_madeAlike 16 = .ok (.goto 4, 3) := by decide +kernel
theorem dX12_madeAlike_19 : decode cX12_madeAlike 19 = .ok (.iconst 0, 1) := by decide +kernel
theorem dX12_madeAlike_20 : decode cX12_madeAlike 20 = .ok (.istore_n 1, 1) := by decide +kernel
theorem dX12_madeAlike_21 : decode cX12_madeAlike 21 = .ok (.iconst 0, 1) := by decide +kernel
theorem dX12_madeAlike_22 : decode cX12_madeAlike 22 = .ok (.istore_n 2, 1) := by decide +kernel
theorem dX12_madeAlike_23 : decode cX12_madeAlike 23 = .ok (.iload_n 2, 1) := by decide +kernel
theorem dX12_madeAlike_24 : decode cX12_madeAlike 24 = .ok (.aload_n 0, 1) := by decide +kernel
theorem dX12_madeAlike_25 : decode cX12_madeAlike 25 = .ok (.getfield 47, 3) := by decide +kernel
theorem dX12_madeAlike_28 : decode cX12_madeAlike 28 = .ok (.iconst 0, 1) := by decide +kernel
theorem dX12_madeAlike_29 : decode cX12_madeAlike 29 = .ok (.iaload, 1) := by decide +kernel
theorem dX12_madeAlike_30 : decode cX12_madeAlike 30 = .ok (.if_icmp .ge 37, 3) := by decide +kernel
theorem dX12_madeAlike_33 : decode cX12_madeAlike 33 = .ok (.iload_n 1, 1) := by decide +kernel
theorem dX12_madeAlike_34 : decode cX12_madeAlike 34 = .ok (.ifCond .eq 33, 3) := by decide +kernel
theorem dX12_madeAlike_37 : decode cX12_madeAlike 37 = .ok (.aload_n 0, 1) := by decide +kernel
theorem dX12_madeAlike_38 : decode cX12_madeAlike 38 = .ok (.getfield 38, 3) := by decide +kernel
theorem dX12_madeAlike_41 : decode cX12_madeAlike 41 = .ok (.iload_n 2, 1) := by decide +kernel
theorem dX12_madeAlike_42 : decode cX12_madeAlike 42 = .ok (.iaload, 1) := by decide +kernel
theorem dX12_madeAlike_43 : decode cX12_madeAlike 43 = .ok (.aload_n 0, 1) := by decide +kernel
theorem dX12_madeAlike_44 : decode cX12_madeAlike 44 = .ok (.getfield 38, 3) := by decide +kernel
theorem dX12_madeAlike_47 : decode cX12_madeAlike 47 = .ok (.bipush 24, 2) := by decide +kernel
theorem dX12_madeAlike_49 : decode cX12_madeAlike 49 = .ok (.iload_n 2, 1) := by decide +kernel
theorem dX12_madeAlike_50 : decode cX12_madeAlike 50 = .ok (.iadd, 1) := by decide +kernel
theorem dX12_madeAlike_51 : decode cX12_madeAlike 51 = .ok (.iaload, 1) := by decide +kernel
theorem dX12_madeAlike_52 : decode cX12_madeAlike 52 = .ok (.if_icmp .ne 7, 3) := by decide +kernel
theorem dX12_madeAlike_55 : decode cX12_madeAlike 55 = .ok (.iconst 1, 1) := by decide +kernel
theorem dX12_madeAlike_56 : decode cX12_madeAlike 56 = .ok (.goto 4, 3) := by decide +kernel
theorem dX12_madeAlike_59 : decode cX12_madeAlike 59 = .ok (.iconst 0, 1) := by decide +kernel
theorem dX12_madeAlike_60 : decode cX12_madeAlike 60 = .ok (.istore_n 1, 1) := by decide +kernel
theorem dX12_madeAlike_61 : decode cX12_madeAlike 61 = .ok (.iinc 2 1, 3) := by decide +kernel
theorem dX12_madeAlike_64 : decode cX12_madeAlike 64 = .ok (.goto (-41), 3) := by decide +kernel
theorem dX12_madeAlike_67 : decode cX12_madeAlike 67 = .ok (.iload_n 1, 1) := by decide +kernel
theorem dX12_madeAlike_68 : decode cX12_madeAlike 68 = .ok (.ireturn, 1) := by decide +kernel
theorem dX12_drawn_0 : decode cX12_drawn 0 = .ok (.aload_n 0, 1) := by decide +kernel
theorem dX12_drawn_1 : decode cX12_drawn 1 = .ok (.iload_n 1, 1) := by decide +kernel
theorem dX12_drawn_2 : decode cX12_drawn 2 = .ok (.iload_n 2, 1) := by decide +kernel
theorem dX12_drawn_3 : decode cX12_drawn 3 = .ok (.invokevirtual 255, 3) := by decide +kernel
theorem dX12_drawn_6 : decode cX12_drawn 6 = .ok (.ifCond .eq 48, 3) := by decide +kernel
theorem dX12_drawn_9 : decode cX12_drawn 9 = .ok (.iload 4, 2) := by decide +kernel
theorem dX12_drawn_11 : decode cX12_drawn 11 = .ok (.iconst 0, 1) := by decide +kernel
theorem dX12_drawn_12 : decode cX12_drawn 12 = .ok (.bipush 40, 2) := by decide +kernel
theorem dX12_drawn_14 : decode cX12_drawn 14 = .ok (.invokestatic 145, 3) := by decide +kernel
theorem dX12_drawn_17 : decode cX12_drawn 17 = .ok (.ifCond .eq 37, 3) := by decide +kernel
theorem dX12_drawn_20 : decode cX12_drawn 20 = .ok (.iload 5, 2) := by decide +kernel
theorem dX12_drawn_22 : decode cX12_drawn 22 = .ok (.iconst 0, 1) := by decide +kernel
theorem dX12_drawn_23 : decode cX12_drawn 23 = .ok (.iconst 1, 1) := by decide +kernel
theorem dX12_drawn_24 : decode cX12_drawn 24 = .ok (.invokestatic 145, 3) := by decide +kernel
theorem dX12_drawn_27 : decode cX12_drawn 27 = .ok (.ifCond .ne 29, 3) := by decide +kernel
theorem dX12_drawn_30 : decode cX12_drawn 30 = .ok (.iload 5, 2) := by decide +kernel
theorem dX12_drawn_32 : decode cX12_drawn 32 = .ok (.bipush 10, 2) := by decide +kernel
theorem dX12_drawn_34 : decode cX12_drawn 34 = .ok (.bipush 14, 2) := by decide +kernel
theorem dX12_drawn_36 : decode cX12_drawn 36 = .ok (.invokestatic 145, 3) := by decide +kernel
theorem dX12_drawn_39 : decode cX12_drawn 39 = .ok (.ifCond .ne 17, 3) := by decide +kernel
theorem dX12_drawn_42 : decode cX12_drawn 42 = .ok (.iload 5, 2) := by decide +kernel
theorem dX12_drawn_44 : decode cX12_drawn 44 = .ok (.bipush 20, 2) := by decide +kernel
theorem dX12_drawn_46 : decode cX12_drawn 46 = .ok (.bipush 24, 2) := by decide +kernel
theorem dX12_drawn_48 : decode cX12_drawn 48 = .ok (.invokestatic 145, 3) := by decide +kernel
theorem dX12_drawn_51 : decode cX12_drawn 51 = .ok (.ifCond .ne 5, 3) := by decide +kernel
theorem dX12_drawn_54 : decode cX12_drawn 54 = .ok (.iconst (-1), 1) := by decide +kernel
theorem dX12_drawn_55 : decode cX12_drawn 55 = .ok (.ireturn, 1) := by decide +kernel
theorem dX12_drawn_56 : decode cX12_drawn 56 = .ok (.aload_n 0, 1) := by decide +kernel
theorem dX12_drawn_57 : decode cX12_drawn 57 = .ok (.iload_n 3, 1) := by decide +kernel
theorem dX12_drawn_58 : decode cX12_drawn 58 = .ok (.putfield 358, 3) := by decide +kernel
theorem dX12_drawn_61 : decode cX12_drawn 61 = .ok (.iconst 0, 1) := by decide +kernel
theorem dX12_drawn_62 : decode cX12_drawn 62 = .ok (.istore 6, 2) := by decide +kernel
theorem dX12_drawn_64 : decode cX12_drawn 64 = .ok (.iconst 0, 1) := by decide +kernel
theorem dX12_drawn_65 : decode cX12_drawn 65 = .ok (.istore 7, 2) := by decide +kernel
theorem dX12_drawn_67 : decode cX12_drawn 67 = .ok (.iconst 0, 1) := by decide +kernel
theorem dX12_drawn_68 : decode cX12_drawn 68 = .ok (.istore 8, 2) := by decide +kernel
theorem dX12_drawn_70 : decode cX12_drawn 70 = .ok (.iload 8, 2) := by decide +kernel
theorem dX12_drawn_72 : decode cX12_drawn 72 = .ok (.bipush 10, 2) := by decide +kernel
theorem dX12_drawn_74 : decode cX12_drawn 74 = .ok (.if_icmp .ge 17, 3) := by decide +kernel
theorem dX12_drawn_77 : decode cX12_drawn 77 = .ok (.aload_n 0, 1) := by decide +kernel
theorem dX12_drawn_78 : decode cX12_drawn 78 = .ok (.getfield 74, 3) := by decide +kernel
theorem dX12_drawn_81 : decode cX12_drawn 81 = .ok (.iload 8, 2) := by decide +kernel
theorem dX12_drawn_83 : decode cX12_drawn 83 = .ok (.iconst 0, 1) := by decide +kernel
theorem dX12_drawn_84 : decode cX12_drawn 84 = .ok (.iastore, 1) := by decide +kernel
theorem dX12_drawn_85 : decode cX12_drawn 85 = .ok (.iinc 8 1, 3) := by decide +kernel
theorem dX12_drawn_88 : decode cX12_drawn 88 = .ok (.goto (-18), 3) := by decide +kernel
theorem dX12_drawn_91 : decode cX12_drawn 91 = .ok (.iconst 0, 1) := by decide +kernel
theorem dX12_drawn_92 : decode cX12_drawn 92 = .ok (.istore 8, 2) := by decide +kernel
theorem dX12_drawn_94 : decode cX12_drawn 94 = .ok (.iload 8, 2) := by decide +kernel
theorem dX12_drawn_96 : decode cX12_drawn 96 = .ok (.iload 4, 2) := by decide +kernel
theorem dX12_drawn_98 : decode cX12_drawn 98 = .ok (.if_icmp .ge 156, 3) := by decide +kernel
theorem dX12_drawn_101 : decode cX12_drawn 101 = .ok (.iconst 0, 1) := by decide +kernel
theorem dX12_drawn_102 : decode cX12_drawn 102 = .ok (.istore 9, 2) := by decide +kernel
theorem dX12_drawn_104 : decode cX12_drawn 104 = .ok (.iconst 0, 1) := by decide +kernel
theorem dX12_drawn_105 : decode cX12_drawn 105 = .ok (.istore 10, 2) := by decide +kernel
theorem dX12_drawn_107 : decode cX12_drawn 107 = .ok (.iload 10, 2) := by decide +kernel
theorem dX12_drawn_109 : decode cX12_drawn 109 = .ok (.aload_n 0, 1) := by decide +kernel
theorem dX12_drawn_110 : decode cX12_drawn 110 = .ok (.getfield 243, 3) := by decide +kernel
theorem dX12_drawn_113 : decode cX12_drawn 113 = .ok (.if_icmp .ge 31, 3) := by decide +kernel
theorem dX12_drawn_116 : decode cX12_drawn 116 = .ok (.iload 9, 2) := by decide +kernel
theorem dX12_drawn_118 : decode cX12_drawn 118 = .ok (.aload_n 0, 1) := by decide +kernel
theorem dX12_drawn_119 : decode cX12_drawn 119 = .ok (.bipush 8, 2) := by decide +kernel
theorem dX12_drawn_121 : decode cX12_drawn 121 = .ok (.invokevirtual 362, 3) := by decide +kernel
theorem dX12_drawn_124 : decode cX12_drawn 124 = .ok (.ifCond .ne 10, 3) := by decide +kernel
theorem dX12_drawn_127 : decode cX12_drawn 127 = .ok (.iconst 1, 1) := by decide +kernel
theorem dX12_drawn_128 : decode cX12_drawn 128 = .ok (.iload 10, 2) := by decide +kernel
theorem dX12_drawn_130 : decode cX12_drawn 130 = .ok (.ishl, 1) := by decide +kernel
theorem dX12_drawn_131 : decode cX12_drawn 131 = .ok (.goto 4, 3) := by decide +kernel
theorem dX12_drawn_134 : decode cX12_drawn 134 = .ok (.iconst 0, 1) := by decide +kernel
theorem dX12_drawn_135 : decode cX12_drawn 135 = .ok (.ior, 1) := by decide +kernel
theorem dX12_drawn_136 : decode cX12_drawn 136 = .ok (.istore 9, 2) := by decide +kernel
theorem dX12_drawn_138 : decode cX12_drawn 138 = .ok (.iinc 10 1, 3) := by decide +kernel
theorem dX12_drawn_141 : decode cX12_drawn 141 = .ok (.goto (-34), 3) := by decide +kernel
theorem dX12_drawn_144 : decode cX12_drawn 144 = .ok (.aload_n 0, 1) := by decide +kernel
theorem dX12_drawn_145 : decode cX12_drawn 145 = .ok (.iload 9, 2) := by decide +kernel
theorem dX12_drawn_147 : decode cX12_drawn 147 = .ok (.invokevirtual 252, 3) := by decide +kernel
theorem dX12_drawn_150 : decode cX12_drawn 150 = .ok (.iload 7, 2) := by decide +kernel
theorem dX12_drawn_152 : decode cX12_drawn 152 = .ok (.aload_n 0, 1) := by decide +kernel
theorem dX12_drawn_153 : decode cX12_drawn 153 = .ok (.invokevirtual 291, 3) := by decide +kernel
theorem dX12_drawn_156 : decode cX12_drawn 156 = .ok (.iconst (-1), 1) := by decide +kernel
theorem dX12_drawn_157 : decode cX12_drawn 157 = .ok (.if_icmp .ne 7, 3) := by decide +kernel
theorem dX12_drawn_160 : decode cX12_drawn 160 = .ok (.iconst 0, 1) := by decide +kernel
theorem dX12_drawn_161 : decode cX12_drawn 161 = .ok (.goto 4, 3) := by decide +kernel
theorem dX12_drawn_164 : decode cX12_drawn 164 = .ok (.iconst 1, 1) := by decide +kernel
theorem dX12_drawn_165 : decode cX12_drawn 165 = .ok (.iadd, 1) := by decide +kernel
theorem dX12_drawn_166 : decode cX12_drawn 166 = .ok (.istore 7, 2) := by decide +kernel
theorem dX12_drawn_168 : decode cX12_drawn 168 = .ok (.iload 6, 2) := by decide +kernel
theorem dX12_drawn_170 : decode cX12_drawn 170 = .ok (.aload_n 0, 1) := by decide +kernel
theorem dX12_drawn_171 : decode cX12_drawn 171 = .ok (.invokevirtual 365, 3) := by decide +kernel
theorem dX12_drawn_174 : decode cX12_drawn 174 = .ok (.ifCond .eq 7, 3) := by decide +kernel
theorem dX12_drawn_177 : decode cX12_drawn 177 = .ok (.iconst 1, 1) := by decide +kernel
theorem dX12_drawn_178 : decode cX12_drawn 178 = .ok (.goto 4, 3) := by decide +kernel
theorem dX12_drawn_181 : decode cX12_drawn 181 = .ok (.iconst 0, 1) := by decide +kernel
theorem dX12_drawn_182 : decode cX12_drawn 182 = .ok (.iadd, 1) := by decide +kernel
theorem dX12_drawn_183 : decode cX12_drawn 183 = .ok (.istore 6, 2) := by decide +kernel
theorem dX12_drawn_185 : decode cX12_drawn 185 = .ok (.iconst 0, 1) := by decide +kernel
theorem dX12_drawn_186 : decode cX12_drawn 186 = .ok (.istore 10, 2) := by decide +kernel
theorem dX12_drawn_188 : decode cX12_drawn 188 = .ok (.iload 10, 2) := by decide +kernel
theorem dX12_drawn_190 : decode cX12_drawn 190 = .ok (.iconst 2, 1) := by decide +kernel
theorem dX12_drawn_191 : decode cX12_drawn 191 = .ok (.if_icmp .ge 57, 3) := by decide +kernel
theorem dX12_drawn_194 : decode cX12_drawn 194 = .ok (.iconst 0, 1) := by decide +kernel
theorem dX12_drawn_195 : decode cX12_drawn 195 = .ok (.istore 11, 2) := by decide +kernel
theorem dX12_drawn_197 : decode cX12_drawn 197 = .ok (.iload 11, 2) := by decide +kernel
theorem dX12_drawn_199 : decode cX12_drawn 199 = .ok (.aload_n 0, 1) := by decide +kernel
theorem dX12_drawn_200 : decode cX12_drawn 200 = .ok (.getfield 47, 3) := by decide +kernel
theorem dX12_drawn_203 : decode cX12_drawn 203 = .ok (.iload 10, 2) := by decide +kernel
theorem dX12_drawn_205 : decode cX12_drawn 205 = .ok (.iaload, 1) := by decide +kernel
theorem dX12_drawn_206 : decode cX12_drawn 206 = .ok (.if_icmp .ge 36, 3) := by decide +kernel
theorem dX12_drawn_209 : decode cX12_drawn 209 = .ok (.aload_n 0, 1) := by decide +kernel
theorem dX12_drawn_210 : decode cX12_drawn 210 = .ok (.getfield 74, 3) := by decide +kernel
theorem dX12_drawn_213 : decode cX12_drawn 213 = .ok (.iconst 5, 1) := by decide +kernel
theorem dX12_drawn_214 : decode cX12_drawn 214 = .ok (.iload 10, 2) := by decide +kernel
theorem dX12_drawn_216 : decode cX12_drawn 216 = .ok (.imul, 1) := by decide +kernel
theorem dX12_drawn_217 : decode cX12_drawn 217 = .ok (.aload_n 0, 1) := by decide +kernel
theorem dX12_drawn_218 : decode cX12_drawn 218 = .ok (.getfield 38, 3) := by decide +kernel
theorem dX12_drawn_221 : decode cX12_drawn 221 = .ok (.bipush 24, 2) := by decide +kernel
theorem dX12_drawn_223 : decode cX12_drawn 223 = .ok (.iload 10, 2) := by decide +kernel
theorem dX12_drawn_225 : decode cX12_drawn 225 = .ok (.imul, 1) := by decide +kernel
theorem dX12_drawn_226 : decode cX12_drawn 226 = .ok (.iload 11, 2) := by decide +kernel
theorem dX12_drawn_228 : decode cX12_drawn 228 = .ok (.iadd, 1) := by decide +kernel
theorem dX12_drawn_229 : decode cX12_drawn 229 = .ok (.iaload, 1) := by decide +kernel
theorem dX12_drawn_230 : decode cX12_drawn 230 = .ok (.iadd, 1) := by decide +kernel
theorem dX12_drawn_231 : decode cX12_drawn 231 = .ok (.dup2, 1) := by decide +kernel
theorem dX12_drawn_232 : decode cX12_drawn 232 = .ok (.iaload, 1) := by decide +kernel
theorem dX12_drawn_233 : decode cX12_drawn 233 = .ok (.iconst 1, 1) := by decide +kernel
theorem dX12_drawn_234 : decode cX12_drawn 234 = .ok (.iadd, 1) := by decide +kernel
theorem dX12_drawn_235 : decode cX12_drawn 235 = .ok (.iastore, 1) := by decide +kernel
theorem dX12_drawn_236 : decode cX12_drawn 236 = .ok (.iinc 11 1, 3) := by decide +kernel
theorem dX12_drawn_239 : decode cX12_drawn 239 = .ok (.goto (-42), 3) := by decide +kernel
theorem dX12_drawn_242 : decode cX12_drawn 242 = .ok (.iinc 10 1, 3) := by decide +kernel
theorem dX12_drawn_245 : decode cX12_drawn 245 = .ok (.goto (-57), 3) := by decide +kernel
theorem dX12_drawn_248 : decode cX12_drawn 248 = .ok (.iinc 8 1, 3) := by decide +kernel
theorem dX12_drawn_251 : decode cX12_drawn 251 = .ok (.goto (-157), 3) := by decide +kernel
theorem dX12_drawn_254 : decode cX12_drawn 254 = .ok (.iload 5, 2) := by decide +kernel
theorem dX12_drawn_256 : decode cX12_drawn 256 = .ok (.ifCond .ne 8, 3) := by decide +kernel
theorem dX12_drawn_259 : decode cX12_drawn 259 = .ok (.iload 6, 2) := by decide +kernel
theorem dX12_drawn_261 : decode cX12_drawn 261 = .ok (.goto 34, 3) := by decide +kernel
theorem dX12_drawn_264 : decode cX12_drawn 264 = .ok (.iload 5, 2) := by decide +kernel
theorem dX12_drawn_266 : decode cX12_drawn 266 = .ok (.iconst 1, 1) := by decide +kernel
theorem dX12_drawn_267 : decode cX12_drawn 267 = .ok (.if_icmp .ne 8, 3) := by decide +kernel
theorem dX12_drawn_270 : decode cX12_drawn 270 = .ok (.iload 7, 2) := by decide +kernel
theorem dX12_drawn_272 : decode cX12_drawn 272 = .ok (.goto 23, 3) := by decide +kernel
theorem dX12_drawn_275 : decode cX12_drawn 275 = .ok (.aload_n 0, 1) := by decide +kernel
theorem dX12_drawn_276 : decode cX12_drawn 276 = .ok (.getfield 74, 3) := by decide +kernel
theorem dX12_drawn_279 : decode cX12_drawn 279 = .ok (.iconst 5, 1) := by decide +kernel
theorem dX12_drawn_280 : decode cX12_drawn 280 = .ok (.iload 5, 2) := by decide +kernel
theorem dX12_drawn_282 : decode cX12_drawn 282 = .ok (.bipush 10, 2) := by decide +kernel
theorem dX12_drawn_284 : decode cX12_drawn 284 = .ok (.idiv, 1) := by decide +kernel
theorem dX12_drawn_285 : decode cX12_drawn 285 = .ok (.iconst 1, 1) := by decide +kernel
theorem dX12_drawn_286 : decode cX12_drawn 286 = .ok (.isub, 1) := by decide +kernel
theorem dX12_drawn_287 : decode cX12_drawn 287 = .ok (.imul, 1) := by decide +kernel
theorem dX12_drawn_288 : decode cX12_drawn 288 = .ok (.iload 5, 2) := by decide +kernel
theorem dX12_drawn_290 : decode cX12_drawn 290 = .ok (.bipush 10, 2) := by decide +kernel
theorem dX12_drawn_292 : decode cX12_drawn 292 = .ok (.irem, 1) := by decide +kernel
theorem dX12_drawn_293 : decode cX12_drawn 293 = .ok (.iadd, 1) := by decide +kernel
theorem dX12_drawn_294 : decode cX12_drawn 294 = .ok (.iaload, 1) := by decide +kernel
theorem dX12_drawn_295 : decode cX12_drawn 295 = .ok (.ireturn, 1) := by decide +kernel
theorem dX12_alikeFrom_0 : decode cX12_alikeFrom 0 = .ok (.iconst 0, 1) := by decide +kernel
theorem dX12_alikeFrom_1 : decode cX12_alikeFrom 1 = .ok (.istore_n 3, 1) := by decide +kernel
theorem dX12_alikeFrom_2 : decode cX12_alikeFrom 2 = .ok (.iload_n 1, 1) := by decide +kernel
theorem dX12_alikeFrom_3 : decode cX12_alikeFrom 3 = .ok (.iload_n 3, 1) := by decide +kernel
theorem dX12_alikeFrom_4 : decode cX12_alikeFrom 4 = .ok (.iadd, 1) := by decide +kernel
theorem dX12_alikeFrom_5 : decode cX12_alikeFrom 5 = .ok (.aload_n 0, 1) := by decide +kernel
theorem dX12_alikeFrom_6 : decode cX12_alikeFrom 6 = .ok (.iconst 0, 1) := by decide +kernel
theorem dX12_alikeFrom_7 : decode cX12_alikeFrom 7 = .ok (.invokevirtual 261, 3) := by decide +kernel
theorem dX12_alikeFrom_10 : decode cX12_alikeFrom 10 = .ok (.if_icmp .ge 39, 3) := by decide +kernel
theorem dX12_alikeFrom_13 : decode cX12_alikeFrom 13 = .ok (.iload_n 2, 1) := by decide +kernel
theorem dX12_alikeFrom_14 : decode cX12_alikeFrom 14 = .ok (.iload_n 3, 1) := by decide +kernel
theorem dX12_alikeFrom_15 : decode cX12_alikeFrom 15 = .ok (.iadd, 1) := by decide +kernel
theorem dX12_alikeFrom_16 : decode cX12_alikeFrom 16 = .ok (.aload_n 0, 1) := by decide +kernel
theorem dX12_alikeFrom_17 : decode cX12_alikeFrom 17 = .ok (.iconst 1, 1) := by decide +kernel
theorem dX12_alikeFrom_18 : decode cX12_alikeFrom 18 = .ok (.invokevirtual 261, 3) := by decide +kernel
theorem dX12_alikeFrom_21 : decode cX12_alikeFrom 21 = .ok (.if_icmp .ge 28, 3) := by decide +kernel
theorem dX12_alikeFrom_24 : decode cX12_alikeFrom 24 = .ok (.aload_n 0, 1) := by decide +kernel
theorem dX12_alikeFrom_25 : decode cX12_alikeFrom 25 = .ok (.iconst 0, 1) := by decide +kernel
theorem dX12_alikeFrom_26 : decode cX12_alikeFrom 26 = .ok (.iload_n 1, 1) := by decide +kernel
theorem dX12_alikeFrom_27 : decode cX12_alikeFrom 27 = .ok (.iload_n 3, 1) := by decide +kernel
theorem dX12_alikeFrom_28 : decode cX12_alikeFrom 28 = .ok (.iadd, 1) := by decide +kernel
theorem dX12_alikeFrom_29 : decode cX12_alikeFrom 29 = .ok (.invokevirtual 264, 3) := by decide +kernel
theorem dX12_alikeFrom_32 : decode cX12_alikeFrom 32 = .ok (.aload_n 0, 1) := by decide +kernel
theorem dX12_alikeFrom_33 : decode cX12_alikeFrom 33 = .ok (.iconst 1, 1) := by decide +kernel
theorem dX12_alikeFrom_34 : decode cX12_alikeFrom 34 = .ok (.iload_n 2, 1) := by decide +kernel
theorem dX12_alikeFrom_35 : decode cX12_alikeFrom 35 = .ok (.iload_n 3, 1) := by decide +kernel
theorem dX12_alikeFrom_36 : decode cX12_alikeFrom 36 = .ok (.iadd, 1) := by decide +kernel
theorem dX12_alikeFrom_37 : decode cX12_alikeFrom 37 = .ok (.invokevirtual 264, 3) := by decide +kernel
theorem dX12_alikeFrom_40 : decode cX12_alikeFrom 40 = .ok (.if_icmp .ne 9, 3) := by decide +kernel
theorem dX12_alikeFrom_43 : decode cX12_alikeFrom 43 = .ok (.iinc 3 1, 3) := by decide +kernel
theorem dX12_alikeFrom_46 : decode cX12_alikeFrom 46 = .ok (.goto (-44), 3) := by decide +kernel
theorem dX12_alikeFrom_49 : decode cX12_alikeFrom 49 = .ok (.iload_n 3, 1) := by decide +kernel
theorem dX12_alikeFrom_50 : decode cX12_alikeFrom 50 = .ok (.ireturn, 1) := by decide +kernel
theorem dX12_period_0 : decode cX12_period 0 = .ok (.iconst 1, 1) := by decide +kernel
theorem dX12_period_1 : decode cX12_period 1 = .ok (.istore_n 1, 1) := by decide +kernel
theorem dX12_period_2 : decode cX12_period 2 = .ok (.iload_n 1, 1) := by decide +kernel
theorem dX12_period_3 : decode cX12_period 3 = .ok (.aload_n 0, 1) := by decide +kernel
theorem dX12_period_4 : decode cX12_period 4 = .ok (.getfield 243, 3) := by decide +kernel
theorem dX12_period_7 : decode cX12_period 7 = .ok (.if_icmp .ge 62, 3) := by decide +kernel
theorem dX12_period_10 : decode cX12_period 10 = .ok (.iconst 1, 1) := by decide +kernel
theorem dX12_period_11 : decode cX12_period 11 = .ok (.istore_n 2, 1) := by decide +kernel
theorem dX12_period_12 : decode cX12_period 12 = .ok (.iconst 0, 1) := by decide +kernel
theorem dX12_period_13 : decode cX12_period 13 = .ok (.istore_n 3, 1) := by decide +kernel
theorem dX12_period_14 : decode cX12_period 14 = .ok (.iload_n 3, 1) := by decide +kernel
theorem dX12_period_15 : decode cX12_period 15 = .ok (.iload_n 1, 1) := by decide +kernel
theorem dX12_period_16 : decode cX12_period 16 = .ok (.iadd, 1) := by decide +kernel
theorem dX12_period_17 : decode cX12_period 17 = .ok (.aload_n 0, 1) := by decide +kernel
theorem dX12_period_18 : decode cX12_period 18 = .ok (.getfield 243, 3) := by decide +kernel
theorem dX12_period_21 : decode cX12_period 21 = .ok (.if_icmp .ge 36, 3) := by decide +kernel
theorem dX12_period_24 : decode cX12_period 24 = .ok (.iload_n 2, 1) := by decide +kernel
theorem dX12_period_25 : decode cX12_period 25 = .ok (.ifCond .eq 24, 3) := by decide +kernel
theorem dX12_period_28 : decode cX12_period 28 = .ok (.aload_n 0, 1) := by decide +kernel
theorem dX12_period_29 : decode cX12_period 29 = .ok (.getfield 32, 3) := by decide +kernel
theorem dX12_period_32 : decode cX12_period 32 = .ok (.iload_n 3, 1) := by decide +kernel
theorem dX12_period_33 : decode cX12_period 33 = .ok (.iaload, 1) := by decide +kernel
theorem dX12_period_34 : decode cX12_period 34 = .ok (.aload_n 0, 1) := by decide +kernel
theorem dX12_period_35 : decode cX12_period 35 = .ok (.getfield 32, 3) := by decide +kernel
theorem dX12_period_38 : decode cX12_period 38 = .ok (.iload_n 3, 1) := by decide +kernel
theorem dX12_period_39 : decode cX12_period 39 = .ok (.iload_n 1, 1) := by decide +kernel
theorem dX12_period_40 : decode cX12_period 40 = .ok (.iadd, 1) := by decide +kernel
theorem dX12_period_41 : decode cX12_period 41 = .ok (.iaload, 1) := by decide +kernel
theorem dX12_period_42 : decode cX12_period 42 = .ok (.if_icmp .ne 7, 3) := by decide +kernel
theorem dX12_period_45 : decode cX12_period 45 = .ok (.iconst 1, 1) := by decide +kernel
theorem dX12_period_46 : decode cX12_period 46 = .ok (.goto 4, 3) := by decide +kernel
theorem dX12_period_49 : decode cX12_period 49 = .ok (.iconst 0, 1) := by decide +kernel
theorem dX12_period_50 : decode cX12_period 50 = .ok (.istore_n 2, 1) := by decide +kernel
theorem dX12_period_51 : decode cX12_period 51 = .ok (.iinc 3 1, 3) := by decide +kernel
theorem dX12_period_54 : decode cX12_period 54 = .ok (.goto (-40), 3) := by decide +kernel
theorem dX12_period_57 : decode cX12_period 57 = .ok (.iload_n 2, 1) := by decide +kernel
theorem dX12_period_58 : decode cX12_period 58 = .ok (.ifCond .eq 5, 3) := by decide +kernel
theorem dX12_period_61 : decode cX12_period 61 = .ok (.iload_n 1, 1) := by decide +kernel
theorem dX12_period_62 : decode cX12_period 62 = .ok (.ireturn, 1) := by decide +kernel
theorem dX12_period_63 : decode cX12_period 63 = .ok (.iinc 1 1, 3) := by decide +kernel
theorem dX12_period_66 : decode cX12_period 66 = .ok (.goto (-64), 3) := by decide +kernel
theorem dX12_period_69 : decode cX12_period 69 = .ok (.aload_n 0, 1) := by decide +kernel
theorem dX12_period_70 : decode cX12_period 70 = .ok (.getfield 243, 3) := by decide +kernel
theorem dX12_period_73 : decode cX12_period 73 = .ok (.ireturn, 1) := by decide +kernel
theorem dX12_common_0 : decode cX12_common 0 = .ok (.aload_n 0, 1) := by decide +kernel
theorem dX12_common_1 : decode cX12_common 1 = .ok (.iload_n 1, 1) := by decide +kernel
theorem dX12_common_2 : decode cX12_common 2 = .ok (.iload_n 2, 1) := by decide +kernel
theorem dX12_common_3 : decode cX12_common 3 = .ok (.invokevirtual 255, 3) := by decide +kernel
theorem dX12_common_6 : decode cX12_common 6 = .ok (.ifCond .eq 12, 3) := by decide +kernel
theorem dX12_common_9 : decode cX12_common 9 = .ok (.iload_n 3, 1) := by decide +kernel
theorem dX12_common_10 : decode cX12_common 10 = .ok (.iconst 0, 1) := by decide +kernel
theorem dX12_common_11 : decode cX12_common 11 = .ok (.iconst 2, 1) := by decide +kernel
theorem dX12_common_12 : decode cX12_common 12 = .ok (.invokestatic 145, 3) := by decide +kernel
theorem dX12_common_15 : decode cX12_common 15 = .ok (.ifCond .ne 5, 3) := by decide +kernel
theorem dX12_common_18 : decode cX12_common 18 = .ok (.iconst (-1), 1) := by decide +kernel
theorem dX12_common_19 : decode cX12_common 19 = .ok (.ireturn, 1) := by decide +kernel
theorem dX12_common_20 : decode cX12_common 20 = .ok (.iload_n 3, 1) := by decide +kernel
theorem dX12_common_21 : decode cX12_common 21 = .ok (.iconst 2, 1) := by decide +kernel
theorem dX12_common_22 : decode cX12_common 22 = .ok (.if_icmp .ne 8, 3) := by decide +kernel
theorem dX12_common_25 : decode cX12_common 25 = .ok (.aload_n 0, 1) := by decide +kernel
theorem dX12_common_26 : decode cX12_common 26 = .ok (.invokevirtual 368, 3) := by decide +kernel
theorem dX12_common_29 : decode cX12_common 29 = .ok (.ireturn, 1) := by decide +kernel
theorem dX12_common_30 : decode cX12_common 30 = .ok (.iconst 0, 1) := by decide +kernel
theorem dX12_common_31 : decode cX12_common 31 = .ok (.istore 4, 2) := by decide +kernel
theorem dX12_common_33 : decode cX12_common 33 = .ok (.iconst 0, 1) := by decide +kernel
theorem dX12_common_34 : decode cX12_common 34 = .ok (.istore 5, 2) := by decide +kernel
theorem dX12_common_36 : decode cX12_common 36 = .ok (.iconst 0, 1) := by decide +kernel
theorem dX12_common_37 : decode cX12_common 37 = .ok (.istore 6, 2) := by decide +kernel
theorem dX12_common_39 : decode cX12_common 39 = .ok (.iload 6, 2) := by decide +kernel
theorem dX12_common_41 : decode cX12_common 41 = .ok (.aload_n 0, 1) := by decide +kernel
theorem dX12_common_42 : decode cX12_common 42 = .ok (.iconst 0, 1) := by decide +kernel
theorem dX12_common_43 : decode cX12_common 43 = .ok (.invokevirtual 261, 3) := by decide +kernel
theorem dX12_common_46 : decode cX12_common 46 = .ok (.if_icmp .ge 58, 3) := by decide +kernel
theorem dX12_common_49 : decode cX12_common 49 = .ok (.iconst 0, 1) := by decide +kernel
theorem dX12_common_50 : decode cX12_common 50 = .ok (.istore 7, 2) := by decide +kernel
theorem dX12_common_52 : decode cX12_common 52 = .ok (.iload 7, 2) := by decide +kernel
theorem dX12_common_54 : decode cX12_common 54 = .ok (.aload_n 0, 1) := by decide +kernel
theorem dX12_common_55 : decode cX12_common 55 = .ok (.iconst 1, 1) := by decide +kernel
theorem dX12_common_56 : decode cX12_common 56 = .ok (.invokevirtual 261, 3) := by decide +kernel
theorem dX12_common_59 : decode cX12_common 59 = .ok (.if_icmp .ge 39, 3) := by decide +kernel
theorem dX12_common_62 : decode cX12_common 62 = .ok (.aload_n 0, 1) := by decide +kernel
theorem dX12_common_63 : decode cX12_common 63 = .ok (.iload 6, 2) := by decide +kernel
theorem dX12_common_65 : decode cX12_common 65 = .ok (.iload 7, 2) := by decide +kernel
theorem dX12_common_67 : decode cX12_common 67 = .ok (.invokevirtual 371, 3) := by decide +kernel
theorem dX12_common_70 : decode cX12_common 70 = .ok (.iload 4, 2) := by decide +kernel
theorem dX12_common_72 : decode cX12_common 72 = .ok (.if_icmp .gt 6, 3) := by decide +kernel
theorem dX12_common_75 : decode cX12_common 75 = .ok (.goto 17, 3) := by decide +kernel
theorem dX12_common_78 : decode cX12_common 78 = .ok (.aload_n 0, 1) := by decide +kernel
theorem dX12_common_79 : decode cX12_common 79 = .ok (.iload 6, 2) := by decide +kernel
theorem dX12_common_81 : decode cX12_common 81 = .ok (.iload 7, 2) := by decide +kernel
theorem dX12_common_83 : decode cX12_common 83 = .ok (.invokevirtual 371, 3) := by decide +kernel
theorem dX12_common_86 : decode cX12_common 86 = .ok (.istore 4, 2) := by decide +kernel
theorem dX12_common_88 : decode cX12_common 88 = .ok (.iload 6, 2) := by decide +kernel
theorem dX12_common_90 : decode cX12_common 90 = .ok (.istore 5, 2) := by decide +kernel
theorem dX12_common_92 : decode cX12_common 92 = .ok (.iinc 7 1, 3) := by decide +kernel
theorem dX12_common_95 : decode cX12_common 95 = .ok (.goto (-43), 3) := by decide +kernel
theorem dX12_common_98 : decode cX12_common 98 = .ok (.iinc 6 1, 3) := by decide +kernel
theorem dX12_common_101 : decode cX12_common 101 = .ok (.goto (-62), 3) := by decide +kernel
theorem dX12_common_104 : decode cX12_common 104 = .ok (.iload_n 3, 1) := by decide +kernel
theorem dX12_common_105 : decode cX12_common 105 = .ok (.ifCond .ne 8, 3) := by decide +kernel
theorem dX12_common_108 : decode cX12_common 108 = .ok (.iload 4, 2) := by decide +kernel
theorem dX12_common_110 : decode cX12_common 110 = .ok (.goto 5, 3) := by decide +kernel
theorem dX12_common_113 : decode cX12_common 113 = .ok (.iload 5, 2) := by decide +kernel
theorem dX12_common_115 : decode cX12_common 115 = .ok (.ireturn, 1) := by decide +kernel
theorem dX12_readings_0 : decode cX12_readings 0 = .ok (.aload_n 0, 1) := by decide +kernel
theorem dX12_readings_1 : decode cX12_readings 1 = .ok (.iload_n 1, 1) := by decide +kernel
theorem dX12_readings_2 : decode cX12_readings 2 = .ok (.iload_n 2, 1) := by decide +kernel
theorem dX12_readings_3 : decode cX12_readings 3 = .ok (.invokevirtual 255, 3) := by decide +kernel
theorem dX12_readings_6 : decode cX12_readings 6 = .ok (.ifCond .eq 10, 3) := by decide +kernel
theorem dX12_readings_9 : decode cX12_readings 9 = .ok (.iload_n 3, 1) := by decide +kernel
theorem dX12_readings_10 : decode cX12_readings 10 = .ok (.invokestatic 218, 3) := by decide +kernel
theorem dX12_readings_13 : decode cX12_readings 13 = .ok (.ifCond .ne 7, 3) := by decide +kernel
theorem dX12_readings_16 : decode cX12_readings 16 = .ok (.ldc2_w 374, 3) := by decide +kernel
theorem dX12_readings_19 : decode cX12_readings 19 = .ok (.lreturn, 1) := by decide +kernel
theorem dX12_readings_20 : decode cX12_readings 20 = .ok (.aload_n 0, 1) := by decide +kernel
theorem dX12_readings_21 : decode cX12_readings 21 = .ok (.iload_n 3, 1) := by decide +kernel
theorem dX12_readings_22 : decode cX12_readings 22 = .ok (.invokevirtual 261, 3) := by decide +kernel
theorem dX12_readings_25 : decode cX12_readings 25 = .ok (.istore 5, 2) := by decide +kernel
theorem dX12_readings_27 : decode cX12_readings 27 = .ok (.aload_n 0, 1) := by decide +kernel
theorem dX12_readings_28 : decode cX12_readings 28 = .ok (.getfield 77, 3) := by decide +kernel
theorem dX12_readings_31 : decode cX12_readings 31 = .ok (.iload 5, 2) := by decide +kernel
theorem dX12_readings_33 : decode cX12_readings 33 = .ok (.lconst 1, 1) := by decide +kernel
theorem dX12_readings_34 : decode cX12_readings 34 = .ok (.lastore, 1) := by decide +kernel
theorem dX12_readings_35 : decode cX12_readings 35 = .ok (.aload_n 0, 1) := by decide +kernel
theorem dX12_readings_36 : decode cX12_readings 36 = .ok (.getfield 81, 3) := by decide +kernel
theorem dX12_readings_39 : decode cX12_readings 39 = .ok (.iload 5, 2) := by decide +kernel
theorem dX12_readings_41 : decode cX12_readings 41 = .ok (.iconst 0, 1) := by decide +kernel
theorem dX12_readings_42 : decode cX12_readings 42 = .ok (.iastore, 1) := by decide +kernel
theorem dX12_readings_43 : decode cX12_readings 43 = .ok (.iload 5, 2) := by decide +kernel
theorem dX12_readings_45 : decode cX12_readings 45 = .ok (.iconst 1, 1) := by decide +kernel
theorem dX12_readings_46 : decode cX12_readings 46 = .ok (.isub, 1) := by decide +kernel
theorem dX12_readings_47 : decode cX12_readings 47 = .ok (.istore 6, 2) := by decide +kernel
theorem dX12_readings_49 : decode cX12_readings 49 = .ok (.iload 6, 2) := by decide +kernel
theorem dX12_readings_51 : decode cX12_readings 51 = .ok (.ifCond .lt 120, 3) := by decide +kernel
theorem dX12_readings_54 : decode cX12_readings 54 = .ok (.aload_n 0, 1) := by decide +kernel
theorem dX12_readings_55 : decode cX12_readings 55 = .ok (.getfield 77, 3) := by decide +kernel
theorem dX12_readings_58 : decode cX12_readings 58 = .ok (.iload 6, 2) := by decide +kernel
theorem dX12_readings_60 : decode cX12_readings 60 = .ok (.lconst 0, 1) := by decide +kernel
theorem dX12_readings_61 : decode cX12_readings 61 = .ok (.lastore, 1) := by decide +kernel
theorem dX12_readings_62 : decode cX12_readings 62 = .ok (.aload_n 0, 1) := by decide +kernel
theorem dX12_readings_63 : decode cX12_readings 63 = .ok (.getfield 81, 3) := by decide +kernel
theorem dX12_readings_66 : decode cX12_readings 66 = .ok (.iload 6, 2) := by decide +kernel
theorem dX12_readings_68 : decode cX12_readings 68 = .ok (.sipush 999, 3) := by decide +kernel
theorem dX12_readings_71 : decode cX12_readings 71 = .ok (.iastore, 1) := by decide +kernel
theorem dX12_readings_72 : decode cX12_readings 72 = .ok (.iconst 0, 1) := by decide +kernel
theorem dX12_readings_73 : decode cX12_readings 73 = .ok (.istore 7, 2) := by decide +kernel
theorem dX12_readings_75 : decode cX12_readings 75 = .ok (.iload 7, 2) := by decide +kernel
theorem dX12_readings_77 : decode cX12_readings 77 = .ok (.aload_n 0, 1) := by decide +kernel
theorem dX12_readings_78 : decode cX12_readings 78 = .ok (.iload_n 3, 1) := by decide +kernel
theorem dX12_readings_79 : decode cX12_readings 79 = .ok (.invokevirtual 221, 3) := by decide +kernel
theorem dX12_readings_82 : decode cX12_readings 82 = .ok (.if_icmp .ge 83, 3) := by decide +kernel
theorem dX12_readings_85 : decode cX12_readings 85 = .ok (.aload_n 0, 1) := by decide +kernel
theorem dX12_readings_86 : decode cX12_readings 86 = .ok (.iload_n 3, 1) := by decide +kernel
theorem dX12_readings_87 : decode cX12_readings 87 = .ok (.iload 7, 2) := by decide +kernel
theorem dX12_readings_89 : decode cX12_readings 89 = .ok (.iload 6, 2) := by decide +kernel
theorem dX12_readings_91 : decode cX12_readings 91 = .ok (.invokevirtual 267, 3) := by decide +kernel
theorem dX12_readings_94 : decode cX12_readings 94 = .ok (.ifCond .ne 6, 3) := by decide +kernel
theorem dX12_readings_97 : decode cX12_readings 97 = .ok (.goto 62, 3) := by decide +kernel
theorem dX12_readings_100 : decode cX12_readings 100 = .ok (.aload_n 0, 1) := by decide +kernel
theorem dX12_readings_101 : decode cX12_readings 101 = .ok (.getfield 77, 3) := by decide +kernel
theorem dX12_readings_104 : decode cX12_readings 104 = .ok (.iload 6, 2) := by decide +kernel
theorem dX12_readings_106 : decode cX12_readings 106 = .ok (.dup2, 1) := by decide +kernel
theorem dX12_readings_107 : decode cX12_readings 107 = .ok (.laload, 1) := by decide +kernel
theorem dX12_readings_108 : decode cX12_readings 108 = .ok (.aload_n 0, 1) := by decide +kernel
theorem dX12_readings_109 : decode cX12_readings 109 = .ok (.getfield 77, 3) := by decide +kernel
theorem dX12_readings_112 : decode cX12_readings 112 = .ok (.iload 6, 2) := by decide +kernel
theorem dX12_readings_114 : decode cX12_readings 114 = .ok (.aload_n 0, 1) := by decide +kernel
theorem dX12_readings_115 : decode cX12_readings 115 = .ok (.iload_n 3, 1) := by decide +kernel
theorem dX12_readings_116 : decode cX12_readings 116 = .ok (.iload 7, 2) := by decide +kernel
theorem dX12_readings_118 : decode cX12_readings 118 = .ok (.invokevirtual 230, 3) := by decide +kernel
theorem dX12_readings_121 : decode cX12_readings 121 = .ok (.iadd, 1) := by decide +kernel
theorem dX12_readings_122 : decode cX12_readings 122 = .ok (.laload, 1) := by decide +kernel
theorem dX12_readings_123 : decode cX12_readings 123 = .ok (.ladd, 1) := by decide +kernel
theorem dX12_readings_124 : decode cX12_readings 124 = .ok (.lastore, 1) := by decide +kernel
theorem dX12_readings_125 : decode cX12_readings 125 = .ok (.aload_n 0, 1) := by decide +kernel
theorem dX12_readings_126 : decode cX12_readings 126 = .ok (.getfield 81, 3) := by decide +kernel
theorem dX12_readings_129 : decode cX12_readings 129 = .ok (.iload 6, 2) := by decide +kernel
theorem dX12_readings_131 : decode cX12_readings 131 = .ok (.aload_n 0, 1) := by decide +kernel
theorem dX12_readings_132 : decode cX12_readings 132 = .ok (.getfield 81, 3) := by decide +kernel
theorem dX12_readings_135 : decode cX12_readings 135 = .ok (.iload 6, 2) := by decide +kernel
theorem dX12_readings_137 : decode cX12_readings 137 = .ok (.iaload, 1) := by decide +kernel
theorem dX12_readings_138 : decode cX12_readings 138 = .ok (.iconst 1, 1) := by decide +kernel
theorem dX12_readings_139 : decode cX12_readings 139 = .ok (.aload_n 0, 1) := by decide +kernel
theorem dX12_readings_140 : decode cX12_readings 140 = .ok (.getfield 81, 3) := by decide +kernel
theorem dX12_readings_143 : decode cX12_readings 143 = .ok (.iload 6, 2) := by decide +kernel
theorem dX12_readings_145 : decode cX12_readings 145 = .ok (.aload_n 0, 1) := by decide +kernel
theorem dX12_readings_146 : decode cX12_readings 146 = .ok (.iload_n 3, 1) := by decide +kernel
theorem dX12_readings_147 : decode cX12_readings 147 = .ok (.iload 7, 2) := by decide +kernel
theorem dX12_readings_149 : decode cX12_readings 149 = .ok (.invokevirtual 230, 3) := by decide +kernel
theorem dX12_readings_152 : decode cX12_readings 152 = .ok (.iadd, 1) := by decide +kernel
theorem dX12_readings_153 : decode cX12_readings 153 = .ok (.iaload, 1) := by decide +kernel
theorem dX12_readings_154 : decode cX12_readings 154 = .ok (.iadd, 1) := by decide +kernel
theorem dX12_readings_155 : decode cX12_readings 155 = .ok (.invokestatic 320, 3) := by decide +kernel
theorem dX12_readings_158 : decode cX12_readings 158 = .ok (.iastore, 1) := by decide +kernel
theorem dX12_readings_159 : decode cX12_readings 159 = .ok (.iinc 7 1, 3) := by decide +kernel
theorem dX12_readings_162 : decode cX12_readings 162 = .ok (.goto (-87), 3) := by decide +kernel
theorem dX12_readings_165 : decode cX12_readings 165 = .ok (.iinc 6 (-1), 3) := by decide +kernel
theorem dX12_readings_168 : decode cX12_readings 168 = .ok (.goto (-119), 3) := by decide +kernel
theorem dX12_readings_171 : decode cX12_readings 171 = .ok (.iload 4, 2) := by decide +kernel
theorem dX12_readings_173 : decode cX12_readings 173 = .ok (.ifCond .ne 12, 3) := by decide +kernel
theorem dX12_readings_176 : decode cX12_readings 176 = .ok (.aload_n 0, 1) := by decide +kernel
theorem dX12_readings_177 : decode cX12_readings 177 = .ok (.getfield 77, 3) := by decide +kernel
theorem dX12_readings_180 : decode cX12_readings 180 = .ok (.iconst 0, 1) := by decide +kernel
theorem dX12_readings_181 : decode cX12_readings 181 = .ok (.laload, 1) := by decide +kernel
theorem dX12_readings_182 : decode cX12_readings 182 = .ok (.goto 27, 3) := by decide +kernel
theorem dX12_readings_185 : decode cX12_readings 185 = .ok (.aload_n 0, 1) := by decide +kernel
theorem dX12_readings_186 : decode cX12_readings 186 = .ok (.getfield 77, 3) := by decide +kernel
theorem dX12_readings_189 : decode cX12_readings 189 = .ok (.iconst 0, 1) := by decide +kernel
theorem dX12_readings_190 : decode cX12_readings 190 = .ok (.laload, 1) := by decide +kernel
theorem dX12_readings_191 : decode cX12_readings 191 = .ok (.lconst 0, 1) := by decide +kernel
theorem dX12_readings_192 : decode cX12_readings 192 = .ok (.lcmp, 1) := by decide +kernel
theorem dX12_readings_193 : decode cX12_readings 193 = .ok (.ifCond .ne 9, 3) := by decide +kernel
theorem dX12_readings_196 : decode cX12_readings 196 = .ok (.ldc2_w 376, 3) := by decide +kernel
theorem dX12_readings_199 : decode cX12_readings 199 = .ok (.goto 10, 3) := by decide +kernel
theorem dX12_readings_202 : decode cX12_readings 202 = .ok (.aload_n 0, 1) := by decide +kernel
theorem dX12_readings_203 : decode cX12_readings 203 = .ok (.getfield 81, 3) := by decide +kernel
theorem dX12_readings_206 : decode cX12_readings 206 = .ok (.iconst 0, 1) := by decide +kernel
theorem dX12_readings_207 : decode cX12_readings 207 = .ok (.iaload, 1) := by decide +kernel
theorem dX12_readings_208 : decode cX12_readings 208 = .ok (.i2l, 1) := by decide +kernel
theorem dX12_readings_209 : decode cX12_readings 209 = .ok (.lreturn, 1) := by decide +kernel
theorem dX12_goesInto_0 : decode cX12_goesInto 0 = .ok (.aload_n 0, 1) := by decide +kernel
theorem dX12_goesInto_1 : decode cX12_goesInto 1 = .ok (.iload_n 1, 1) := by decide +kernel
theorem dX12_goesInto_2 : decode cX12_goesInto 2 = .ok (.iload_n 2, 1) := by decide +kernel
theorem dX12_goesInto_3 : decode cX12_goesInto 3 = .ok (.invokevirtual 230, 3) := by decide +kernel
theorem dX12_goesInto_6 : decode cX12_goesInto 6 = .ok (.iload_n 3, 1) := by decide +kernel
theorem dX12_goesInto_7 : decode cX12_goesInto 7 = .ok (.isub, 1) := by decide +kernel
theorem dX12_goesInto_8 : decode cX12_goesInto 8 = .ok (.aload_n 0, 1) := by decide +kernel
theorem dX12_goesInto_9 : decode cX12_goesInto 9 = .ok (.iload_n 1, 1) := by decide +kernel
theorem dX12_goesInto_10 : decode cX12_goesInto 10 = .ok (.iload 4, 2) := by decide +kernel
theorem dX12_goesInto_12 : decode cX12_goesInto 12 = .ok (.invokevirtual 230, 3) := by decide +kernel
theorem dX12_goesInto_15 : decode cX12_goesInto 15 = .ok (.iload 5, 2) := by decide +kernel
theorem dX12_goesInto_17 : decode cX12_goesInto 17 = .ok (.isub, 1) := by decide +kernel
theorem dX12_goesInto_18 : decode cX12_goesInto 18 = .ok (.if_icmp .gt 7, 3) := by decide +kernel
theorem dX12_goesInto_21 : decode cX12_goesInto 21 = .ok (.iconst 1, 1) := by decide +kernel
theorem dX12_goesInto_22 : decode cX12_goesInto 22 = .ok (.goto 4, 3) := by decide +kernel
theorem dX12_goesInto_25 : decode cX12_goesInto 25 = .ok (.iconst 0, 1) := by decide +kernel
theorem dX12_goesInto_26 : decode cX12_goesInto 26 = .ok (.istore 6, 2) := by decide +kernel
theorem dX12_goesInto_28 : decode cX12_goesInto 28 = .ok (.iconst 0, 1) := by decide +kernel
theorem dX12_goesInto_29 : decode cX12_goesInto 29 = .ok (.istore 7, 2) := by decide +kernel
theorem dX12_goesInto_31 : decode cX12_goesInto 31 = .ok (.iload_n 3, 1) := by decide +kernel
theorem dX12_goesInto_32 : decode cX12_goesInto 32 = .ok (.iload 7, 2) := by decide +kernel
theorem dX12_goesInto_34 : decode cX12_goesInto 34 = .ok (.iadd, 1) := by decide +kernel
theorem dX12_goesInto_35 : decode cX12_goesInto 35 = .ok (.aload_n 0, 1) := by decide +kernel
theorem dX12_goesInto_36 : decode cX12_goesInto 36 = .ok (.iload_n 1, 1) := by decide +kernel
theorem dX12_goesInto_37 : decode cX12_goesInto 37 = .ok (.iload_n 2, 1) := by decide +kernel
theorem dX12_goesInto_38 : decode cX12_goesInto 38 = .ok (.invokevirtual 230, 3) := by decide +kernel
theorem dX12_goesInto_41 : decode cX12_goesInto 41 = .ok (.if_icmp .ge 46, 3) := by decide +kernel
theorem dX12_goesInto_44 : decode cX12_goesInto 44 = .ok (.iload 6, 2) := by decide +kernel
theorem dX12_goesInto_46 : decode cX12_goesInto 46 = .ok (.ifCond .eq 41, 3) := by decide +kernel
theorem dX12_goesInto_49 : decode cX12_goesInto 49 = .ok (.aload_n 0, 1) := by decide +kernel
theorem dX12_goesInto_50 : decode cX12_goesInto 50 = .ok (.iload_n 1, 1) := by decide +kernel
theorem dX12_goesInto_51 : decode cX12_goesInto 51 = .ok (.iload_n 2, 1) := by decide +kernel
theorem dX12_goesInto_52 : decode cX12_goesInto 52 = .ok (.iload_n 3, 1) := by decide +kernel
theorem dX12_goesInto_53 : decode cX12_goesInto 53 = .ok (.iload 7, 2) := by decide +kernel
theorem dX12_goesInto_55 : decode cX12_goesInto 55 = .ok (.iadd, 1) := by decide +kernel
theorem dX12_goesInto_56 : decode cX12_goesInto 56 = .ok (.invokevirtual 233, 3) := by decide +kernel
theorem dX12_goesInto_59 : decode cX12_goesInto 59 = .ok (.aload_n 0, 1) := by decide +kernel
theorem dX12_goesInto_60 : decode cX12_goesInto 60 = .ok (.iload_n 1, 1) := by decide +kernel
theorem dX12_goesInto_61 : decode cX12_goesInto 61 = .ok (.iload 4, 2) := by decide +kernel
theorem dX12_goesInto_63 : decode cX12_goesInto 63 = .ok (.iload 5, 2) := by decide +kernel
theorem dX12_goesInto_65 : decode cX12_goesInto 65 = .ok (.iload 7, 2) := by decide +kernel
theorem dX12_goesInto_67 : decode cX12_goesInto 67 = .ok (.iadd, 1) := by decide +kernel
theorem dX12_goesInto_68 : decode cX12_goesInto 68 = .ok (.invokevirtual 233, 3) := by decide +kernel
theorem dX12_goesInto_71 : decode cX12_goesInto 71 = .ok (.if_icmp .ne 7, 3) := by decide +kernel
theorem dX12_goesInto_74 : decode cX12_goesInto 74 = .ok (.iconst 1, 1) := by decide +kernel
theorem dX12_goesInto_75 : decode cX12_goesInto 75 = .ok (.goto 4, 3) := by decide +kernel
theorem dX12_goesInto_78 : decode cX12_goesInto 78 = .ok (.iconst 0, 1) := by decide +kernel
theorem dX12_goesInto_79 : decode cX12_goesInto 79 = .ok (.istore 6, 2) := by decide +kernel
theorem dX12_goesInto_81 : decode cX12_goesInto 81 = .ok (.iinc 7 1, 3) := by decide +kernel
theorem dX12_goesInto_84 : decode cX12_goesInto 84 = .ok (.goto (-53), 3) := by decide +kernel
theorem dX12_goesInto_87 : decode cX12_goesInto 87 = .ok (.iload 6, 2) := by decide +kernel
theorem dX12_goesInto_89 : decode cX12_goesInto 89 = .ok (.ireturn, 1) := by decide +kernel
theorem dX12_hangsLess_0 : decode cX12_hangsLess 0 = .ok (.iload_n 2, 1) := by decide +kernel
theorem dX12_hangsLess_1 : decode cX12_hangsLess 1 = .ok (.aload_n 0, 1) := by decide +kernel
theorem dX12_hangsLess_2 : decode cX12_hangsLess 2 = .ok (.getfield 84, 3) := by decide +kernel
theorem dX12_hangsLess_5 : decode cX12_hangsLess 5 = .ok (.iload_n 1, 1) := by decide +kernel
theorem dX12_hangsLess_6 : decode cX12_hangsLess 6 = .ok (.iaload, 1) := by decide +kernel
theorem dX12_hangsLess_7 : decode cX12_hangsLess 7 = .ok (.if_icmp .lt 5, 3) := by decide +kernel
theorem dX12_hangsLess_10 : decode cX12_hangsLess 10 = .ok (.iconst 0, 1) := by decide +kernel
theorem dX12_hangsLess_11 : decode cX12_hangsLess 11 = .ok (.ireturn, 1) := by decide +kernel
theorem dX12_hangsLess_12 : decode cX12_hangsLess 12 = .ok (.aload_n 0, 1) := by decide +kernel
theorem dX12_hangsLess_13 : decode cX12_hangsLess 13 = .ok (.getfield 84, 3) := by decide +kernel
theorem dX12_hangsLess_16 : decode cX12_hangsLess 16 = .ok (.iload_n 1, 1) := by decide +kernel
theorem dX12_hangsLess_17 : decode cX12_hangsLess 17 = .ok (.iload_n 2, 1) := by decide +kernel
theorem dX12_hangsLess_18 : decode cX12_hangsLess 18 = .ok (.iastore, 1) := by decide +kernel
theorem dX12_hangsLess_19 : decode cX12_hangsLess 19 = .ok (.iconst 1, 1) := by decide +kernel
theorem dX12_hangsLess_20 : decode cX12_hangsLess 20 = .ok (.ireturn, 1) := by decide +kernel
theorem dX12_hangsOn_0 : decode cX12_hangsOn 0 = .ok (.aload_n 0, 1) := by decide +kernel
theorem dX12_hangsOn_1 : decode cX12_hangsOn 1 = .ok (.getfield 84, 3) := by decide +kernel
theorem dX12_hangsOn_4 : decode cX12_hangsOn 4 = .ok (.iconst 5, 1) := by decide +kernel
theorem dX12_hangsOn_5 : decode cX12_hangsOn 5 = .ok (.iload_n 2, 1) := by decide +kernel
theorem dX12_hangsOn_6 : decode cX12_hangsOn 6 = .ok (.imul, 1) := by decide +kernel
theorem dX12_hangsOn_7 : decode cX12_hangsOn 7 = .ok (.iload_n 3, 1) := by decide +kernel
theorem dX12_hangsOn_8 : decode cX12_hangsOn 8 = .ok (.iadd, 1) := by decide +kernel
theorem dX12_hangsOn_9 : decode cX12_hangsOn 9 = .ok (.iaload, 1) := by decide +kernel
theorem dX12_hangsOn_10 : decode cX12_hangsOn 10 = .ok (.istore 5, 2) := by decide +kernel
theorem dX12_hangsOn_12 : decode cX12_hangsOn 12 = .ok (.iload 5, 2) := by decide +kernel
theorem dX12_hangsOn_14 : decode cX12_hangsOn 14 = .ok (.sipush 9999, 3) := by decide +kernel
theorem dX12_hangsOn_17 : decode cX12_hangsOn 17 = .ok (.if_icmp .ge 13, 3) := by decide +kernel
theorem dX12_hangsOn_20 : decode cX12_hangsOn 20 = .ok (.iload_n 3, 1) := by decide +kernel
theorem dX12_hangsOn_21 : decode cX12_hangsOn 21 = .ok (.aload_n 0, 1) := by decide +kernel
theorem dX12_hangsOn_22 : decode cX12_hangsOn 22 = .ok (.iload_n 1, 1) := by decide +kernel
theorem dX12_hangsOn_23 : decode cX12_hangsOn 23 = .ok (.iload_n 2, 1) := by decide +kernel
theorem dX12_hangsOn_24 : decode cX12_hangsOn 24 = .ok (.invokevirtual 230, 3) := by decide +kernel
theorem dX12_hangsOn_27 : decode cX12_hangsOn 27 = .ok (.if_icmp .ne 5, 3) := by decide +kernel
theorem dX12_hangsOn_30 : decode cX12_hangsOn 30 = .ok (.iconst 0, 1) := by decide +kernel
theorem dX12_hangsOn_31 : decode cX12_hangsOn 31 = .ok (.ireturn, 1) := by decide +kernel
theorem dX12_hangsOn_32 : decode cX12_hangsOn 32 = .ok (.aload_n 0, 1) := by decide +kernel
theorem dX12_hangsOn_33 : decode cX12_hangsOn 33 = .ok (.iload_n 1, 1) := by decide +kernel
theorem dX12_hangsOn_34 : decode cX12_hangsOn 34 = .ok (.iload_n 2, 1) := by decide +kernel
theorem dX12_hangsOn_35 : decode cX12_hangsOn 35 = .ok (.invokevirtual 230, 3) := by decide +kernel
theorem dX12_hangsOn_38 : decode cX12_hangsOn 38 = .ok (.iload_n 3, 1) := by decide +kernel
theorem dX12_hangsOn_39 : decode cX12_hangsOn 39 = .ok (.isub, 1) := by decide +kernel
theorem dX12_hangsOn_40 : decode cX12_hangsOn 40 = .ok (.istore 6, 2) := by decide +kernel
theorem dX12_hangsOn_42 : decode cX12_hangsOn 42 = .ok (.aload_n 0, 1) := by decide +kernel
theorem dX12_hangsOn_43 : decode cX12_hangsOn 43 = .ok (.iload_n 1, 1) := by decide +kernel
theorem dX12_hangsOn_44 : decode cX12_hangsOn 44 = .ok (.iload_n 2, 1) := by decide +kernel
theorem dX12_hangsOn_45 : decode cX12_hangsOn 45 = .ok (.iload_n 3, 1) := by decide +kernel
theorem dX12_hangsOn_46 : decode cX12_hangsOn 46 = .ok (.iload 4, 2) := by decide +kernel
theorem dX12_hangsOn_48 : decode cX12_hangsOn 48 = .ok (.iconst 0, 1) := by decide +kernel
theorem dX12_hangsOn_49 : decode cX12_hangsOn 49 = .ok (.invokevirtual 378, 3) := by decide +kernel
theorem dX12_hangsOn_52 : decode cX12_hangsOn 52 = .ok (.ifCond .eq 28, 3) := by decide +kernel
theorem dX12_hangsOn_55 : decode cX12_hangsOn 55 = .ok (.aload_n 0, 1) := by decide +kernel
theorem dX12_hangsOn_56 : decode cX12_hangsOn 56 = .ok (.iconst 5, 1) := by decide +kernel
theorem dX12_hangsOn_57 : decode cX12_hangsOn 57 = .ok (.iload 4, 2) := by decide +kernel
theorem dX12_hangsOn_59 : decode cX12_hangsOn 59 = .ok (.imul, 1) := by decide +kernel
theorem dX12_hangsOn_60 : decode cX12_hangsOn 60 = .ok (.iload 6, 2) := by decide +kernel
theorem dX12_hangsOn_62 : decode cX12_hangsOn 62 = .ok (.iadd, 1) := by decide +kernel
theorem dX12_hangsOn_63 : decode cX12_hangsOn 63 = .ok (.iload 5, 2) := by decide +kernel
theorem dX12_hangsOn_65 : decode cX12_hangsOn 65 = .ok (.aload_n 0, 1) := by decide +kernel
theorem dX12_hangsOn_66 : decode cX12_hangsOn 66 = .ok (.iload_n 1, 1) := by decide +kernel
theorem dX12_hangsOn_67 : decode cX12_hangsOn 67 = .ok (.iload 4, 2) := by decide +kernel
theorem dX12_hangsOn_69 : decode cX12_hangsOn 69 = .ok (.invokevirtual 230, 3) := by decide +kernel
theorem dX12_hangsOn_72 : decode cX12_hangsOn 72 = .ok (.iadd, 1) := by decide +kernel
theorem dX12_hangsOn_73 : decode cX12_hangsOn 73 = .ok (.iload 6, 2) := by decide +kernel
theorem dX12_hangsOn_75 : decode cX12_hangsOn 75 = .ok (.isub, 1) := by decide +kernel
theorem dX12_hangsOn_76 : decode cX12_hangsOn 76 = .ok (.invokevirtual 382, 3) := by decide +kernel
theorem dX12_hangsOn_79 : decode cX12_hangsOn 79 = .ok (.ireturn, 1) := by decide +kernel
theorem dX12_hangsOn_80 : decode cX12_hangsOn 80 = .ok (.aload_n 0, 1) := by decide +kernel
theorem dX12_hangsOn_81 : decode cX12_hangsOn 81 = .ok (.iload_n 1, 1) := by decide +kernel
theorem dX12_hangsOn_82 : decode cX12_hangsOn 82 = .ok (.iload 4, 2) := by decide +kernel
theorem dX12_hangsOn_84 : decode cX12_hangsOn 84 = .ok (.iconst 0, 1) := by decide +kernel
theorem dX12_hangsOn_85 : decode cX12_hangsOn 85 = .ok (.iload_n 2, 1) := by decide +kernel
theorem dX12_hangsOn_86 : decode cX12_hangsOn 86 = .ok (.iload_n 3, 1) := by decide +kernel
theorem dX12_hangsOn_87 : decode cX12_hangsOn 87 = .ok (.invokevirtual 378, 3) := by decide +kernel
theorem dX12_hangsOn_90 : decode cX12_hangsOn 90 = .ok (.ifCond .eq 29, 3) := by decide +kernel
theorem dX12_hangsOn_93 : decode cX12_hangsOn 93 = .ok (.aload_n 0, 1) := by decide +kernel
theorem dX12_hangsOn_94 : decode cX12_hangsOn 94 = .ok (.iconst 5, 1) := by decide +kernel
theorem dX12_hangsOn_95 : decode cX12_hangsOn 95 = .ok (.iload_n 2, 1) := by decide +kernel
theorem dX12_hangsOn_96 : decode cX12_hangsOn 96 = .ok (.imul, 1) := by decide +kernel
theorem dX12_hangsOn_97 : decode cX12_hangsOn 97 = .ok (.iload_n 3, 1) := by decide +kernel
theorem dX12_hangsOn_98 : decode cX12_hangsOn 98 = .ok (.iadd, 1) := by decide +kernel
theorem dX12_hangsOn_99 : decode cX12_hangsOn 99 = .ok (.aload_n 0, 1) := by decide +kernel
theorem dX12_hangsOn_100 : decode cX12_hangsOn 100 = .ok (.iload_n 1, 1) := by decide +kernel
theorem dX12_hangsOn_101 : decode cX12_hangsOn 101 = .ok (.iload 4, 2) := by decide +kernel
theorem dX12_hangsOn_103 : decode cX12_hangsOn 103 = .ok (.invokevirtual 230, 3) := by decide +kernel
theorem dX12_hangsOn_106 : decode cX12_hangsOn 106 = .ok (.iadd, 1) := by decide +kernel
theorem dX12_hangsOn_107 : decode cX12_hangsOn 107 = .ok (.iload 5, 2) := by decide +kernel
theorem dX12_hangsOn_109 : decode cX12_hangsOn 109 = .ok (.invokevirtual 382, 3) := by decide +kernel
theorem dX12_hangsOn_112 : decode cX12_hangsOn 112 = .ok (.ifCond .eq 7, 3) := by decide +kernel
theorem dX12_hangsOn_115 : decode cX12_hangsOn 115 = .ok (.iconst 1, 1) := by decide +kernel
theorem dX12_hangsOn_116 : decode cX12_hangsOn 116 = .ok (.goto 4, 3) := by decide +kernel
theorem dX12_hangsOn_119 : decode cX12_hangsOn 119 = .ok (.iconst 0, 1) := by decide +kernel
theorem dX12_hangsOn_120 : decode cX12_hangsOn 120 = .ok (.ireturn, 1) := by decide +kernel
theorem dX12_twofold_0 : decode cX12_twofold 0 = .ok (.iconst 0, 1) := by decide +kernel
theorem dX12_twofold_1 : decode cX12_twofold 1 = .ok (.istore_n 2, 1) := by decide +kernel
theorem dX12_twofold_2 : decode cX12_twofold 2 = .ok (.iload_n 2, 1) := by decide +kernel
theorem dX12_twofold_3 : decode cX12_twofold 3 = .ok (.bipush 30, 2) := by decide +kernel
theorem dX12_twofold_5 : decode cX12_twofold 5 = .ok (.if_icmp .ge 18, 3) := by decide +kernel
theorem dX12_twofold_8 : decode cX12_twofold 8 = .ok (.aload_n 0, 1) := by decide +kernel
theorem dX12_twofold_9 : decode cX12_twofold 9 = .ok (.getfield 84, 3) := by decide +kernel
theorem dX12_twofold_12 : decode cX12_twofold 12 = .ok (.iload_n 2, 1) := by decide +kernel
theorem dX12_twofold_13 : decode cX12_twofold 13 = .ok (.sipush 9999, 3) := by decide +kernel
theorem dX12_twofold_16 : decode cX12_twofold 16 = .ok (.iastore, 1) := by decide +kernel
theorem dX12_twofold_17 : decode cX12_twofold 17 = .ok (.iinc 2 1, 3) := by decide +kernel
theorem dX12_twofold_20 : decode cX12_twofold 20 = .ok (.goto (-18), 3) := by decide +kernel
theorem dX12_twofold_23 : decode cX12_twofold 23 = .ok (.iconst 0, 1) := by decide +kernel
theorem dX12_twofold_24 : decode cX12_twofold 24 = .ok (.istore_n 2, 1) := by decide +kernel
theorem dX12_twofold_25 : decode cX12_twofold 25 = .ok (.iload_n 2, 1) := by decide +kernel
theorem dX12_twofold_26 : decode cX12_twofold 26 = .ok (.aload_n 0, 1) := by decide +kernel
theorem dX12_twofold_27 : decode cX12_twofold 27 = .ok (.iload_n 1, 1) := by decide +kernel
theorem dX12_twofold_28 : decode cX12_twofold 28 = .ok (.invokevirtual 221, 3) := by decide +kernel
theorem dX12_twofold_31 : decode cX12_twofold 31 = .ok (.if_icmp .ge 64, 3) := by decide +kernel
theorem dX12_twofold_34 : decode cX12_twofold 34 = .ok (.iconst 0, 1) := by decide +kernel
theorem dX12_twofold_35 : decode cX12_twofold 35 = .ok (.istore_n 3, 1) := by decide +kernel
theorem dX12_twofold_36 : decode cX12_twofold 36 = .ok (.iload_n 3, 1) := by decide +kernel
theorem dX12_twofold_37 : decode cX12_twofold 37 = .ok (.aload_n 0, 1) := by decide +kernel
theorem dX12_twofold_38 : decode cX12_twofold 38 = .ok (.iload_n 1, 1) := by decide +kernel
theorem dX12_twofold_39 : decode cX12_twofold 39 = .ok (.invokevirtual 221, 3) := by decide +kernel
theorem dX12_twofold_42 : decode cX12_twofold 42 = .ok (.if_icmp .ge 47, 3) := by decide +kernel
theorem dX12_twofold_45 : decode cX12_twofold 45 = .ok (.iload_n 2, 1) := by decide +kernel
theorem dX12_twofold_46 : decode cX12_twofold 46 = .ok (.iload_n 3, 1) := by decide +kernel
theorem dX12_twofold_47 : decode cX12_twofold 47 = .ok (.if_icmp .eq 36, 3) := by decide +kernel
theorem dX12_twofold_50 : decode cX12_twofold 50 = .ok (.aload_n 0, 1) := by decide +kernel
theorem dX12_twofold_51 : decode cX12_twofold 51 = .ok (.iload_n 1, 1) := by decide +kernel
theorem dX12_twofold_52 : decode cX12_twofold 52 = .ok (.iload_n 2, 1) := by decide +kernel
theorem dX12_twofold_53 : decode cX12_twofold 53 = .ok (.iconst 0, 1) := by decide +kernel
theorem dX12_twofold_54 : decode cX12_twofold 54 = .ok (.iload_n 3, 1) := by decide +kernel
theorem dX12_twofold_55 : decode cX12_twofold 55 = .ok (.iconst 0, 1) := by decide +kernel
theorem dX12_twofold_56 : decode cX12_twofold 56 = .ok (.invokevirtual 378, 3) := by decide +kernel
theorem dX12_twofold_59 : decode cX12_twofold 59 = .ok (.ifCond .eq 24, 3) := by decide +kernel
theorem dX12_twofold_62 : decode cX12_twofold 62 = .ok (.aload_n 0, 1) := by decide +kernel
theorem dX12_twofold_63 : decode cX12_twofold 63 = .ok (.iconst 5, 1) := by decide +kernel
theorem dX12_twofold_64 : decode cX12_twofold 64 = .ok (.iload_n 3, 1) := by decide +kernel
theorem dX12_twofold_65 : decode cX12_twofold 65 = .ok (.imul, 1) := by decide +kernel
theorem dX12_twofold_66 : decode cX12_twofold 66 = .ok (.aload_n 0, 1) := by decide +kernel
theorem dX12_twofold_67 : decode cX12_twofold 67 = .ok (.iload_n 1, 1) := by decide +kernel
theorem dX12_twofold_68 : decode cX12_twofold 68 = .ok (.iload_n 2, 1) := by decide +kernel
theorem dX12_twofold_69 : decode cX12_twofold 69 = .ok (.invokevirtual 230, 3) := by decide +kernel
theorem dX12_twofold_72 : decode cX12_twofold 72 = .ok (.iadd, 1) := by decide +kernel
theorem dX12_twofold_73 : decode cX12_twofold 73 = .ok (.aload_n 0, 1) := by decide +kernel
theorem dX12_twofold_74 : decode cX12_twofold 74 = .ok (.iload_n 1, 1) := by decide +kernel
theorem dX12_twofold_75 : decode cX12_twofold 75 = .ok (.iload_n 3, 1) := by decide +kernel
theorem dX12_twofold_76 : decode cX12_twofold 76 = .ok (.invokevirtual 230, 3) := by decide +kernel
theorem dX12_twofold_79 : decode cX12_twofold 79 = .ok (.invokevirtual 382, 3) := by decide +kernel
theorem dX12_twofold_82 : decode cX12_twofold 82 = .ok (.pop, 1) := by decide +kernel
theorem dX12_twofold_83 : decode cX12_twofold 83 = .ok (.iinc 3 1, 3) := by decide +kernel
theorem dX12_twofold_86 : decode cX12_twofold 86 = .ok (.goto (-50), 3) := by decide +kernel
theorem dX12_twofold_89 : decode cX12_twofold 89 = .ok (.iinc 2 1, 3) := by decide +kernel
theorem dX12_twofold_92 : decode cX12_twofold 92 = .ok (.goto (-67), 3) := by decide +kernel
theorem dX12_twofold_95 : decode cX12_twofold 95 = .ok (.iconst 1, 1) := by decide +kernel
theorem dX12_twofold_96 : decode cX12_twofold 96 = .ok (.istore_n 2, 1) := by decide +kernel
theorem dX12_twofold_97 : decode cX12_twofold 97 = .ok (.iload_n 2, 1) := by decide +kernel
theorem dX12_twofold_98 : decode cX12_twofold 98 = .ok (.ifCond .eq 78, 3) := by decide +kernel
theorem dX12_twofold_101 : decode cX12_twofold 101 = .ok (.iconst 0, 1) := by decide +kernel
theorem dX12_twofold_102 : decode cX12_twofold 102 = .ok (.istore_n 2, 1) := by decide +kernel
theorem dX12_twofold_103 : decode cX12_twofold 103 = .ok (.iconst 0, 1) := by decide +kernel
theorem dX12_twofold_104 : decode cX12_twofold 104 = .ok (.istore_n 3, 1) := by decide +kernel
theorem dX12_twofold_105 : decode cX12_twofold 105 = .ok (.iload_n 3, 1) := by decide +kernel
theorem dX12_twofold_106 : decode cX12_twofold 106 = .ok (.bipush 30, 2) := by decide +kernel
theorem dX12_twofold_108 : decode cX12_twofold 108 = .ok (.if_icmp .ge 65, 3) := by decide +kernel
theorem dX12_twofold_111 : decode cX12_twofold 111 = .ok (.iconst 0, 1) := by decide +kernel
theorem dX12_twofold_112 : decode cX12_twofold 112 = .ok (.istore 4, 2) := by decide +kernel
theorem dX12_twofold_114 : decode cX12_twofold 114 = .ok (.iload 4, 2) := by decide +kernel
theorem dX12_twofold_116 : decode cX12_twofold 116 = .ok (.aload_n 0, 1) := by decide +kernel
theorem dX12_twofold_117 : decode cX12_twofold 117 = .ok (.iload_n 1, 1) := by decide +kernel
theorem dX12_twofold_118 : decode cX12_twofold 118 = .ok (.invokevirtual 221, 3) := by decide +kernel
theorem dX12_twofold_121 : decode cX12_twofold 121 = .ok (.if_icmp .ge 46, 3) := by decide +kernel
theorem dX12_twofold_124 : decode cX12_twofold 124 = .ok (.iload_n 3, 1) := by decide +kernel
theorem dX12_twofold_125 : decode cX12_twofold 125 = .ok (.iconst 5, 1) := by decide +kernel
theorem dX12_twofold_126 : decode cX12_twofold 126 = .ok (.idiv, 1) := by decide +kernel
theorem dX12_twofold_127 : decode cX12_twofold 127 = .ok (.aload_n 0, 1) := by decide +kernel
theorem dX12_twofold_128 : decode cX12_twofold 128 = .ok (.iload_n 1, 1) := by decide +kernel
theorem dX12_twofold_129 : decode cX12_twofold 129 = .ok (.invokevirtual 221, 3) := by decide +kernel
theorem dX12_twofold_132 : decode cX12_twofold 132 = .ok (.if_icmp .ge 35, 3) := by decide +kernel
theorem dX12_twofold_135 : decode cX12_twofold 135 = .ok (.aload_n 0, 1) := by decide +kernel
theorem dX12_twofold_136 : decode cX12_twofold 136 = .ok (.iload_n 1, 1) := by decide +kernel
theorem dX12_twofold_137 : decode cX12_twofold 137 = .ok (.iload_n 3, 1) := by decide +kernel
theorem dX12_twofold_138 : decode cX12_twofold 138 = .ok (.iconst 5, 1) := by decide +kernel
theorem dX12_twofold_139 : decode cX12_twofold 139 = .ok (.idiv, 1) := by decide +kernel
theorem dX12_twofold_140 : decode cX12_twofold 140 = .ok (.iload_n 3, 1) := by decide +kernel
theorem dX12_twofold_141 : decode cX12_twofold 141 = .ok (.iconst 5, 1) := by decide +kernel
theorem dX12_twofold_142 : decode cX12_twofold 142 = .ok (.irem, 1) := by decide +kernel
theorem dX12_twofold_143 : decode cX12_twofold 143 = .ok (.iload 4, 2) := by decide +kernel
theorem dX12_twofold_145 : decode cX12_twofold 145 = .ok (.invokevirtual 385, 3) := by decide +kernel
theorem dX12_twofold_148 : decode cX12_twofold 148 = .ok (.ifCond .ne 7, 3) := by decide +kernel
theorem dX12_twofold_151 : decode cX12_twofold 151 = .ok (.iload_n 2, 1) := by decide +kernel
theorem dX12_twofold_152 : decode cX12_twofold 152 = .ok (.ifCond .eq 7, 3) := by decide +kernel
theorem dX12_twofold_155 : decode cX12_twofold 155 = .ok (.iconst 1, 1) := by decide +kernel
theorem dX12_twofold_156 : decode cX12_twofold 156 = .ok (.goto 4, 3) := by decide +kernel
theorem dX12_twofold_159 : decode cX12_twofold 159 = .ok (.iconst 0, 1) := by decide +kernel
theorem dX12_twofold_160 : decode cX12_twofold 160 = .ok (.istore_n 2, 1) := by decide +kernel
theorem dX12_twofold_161 : decode cX12_twofold 161 = .ok (.iinc 4 1, 3) := by decide +kernel
theorem dX12_twofold_164 : decode cX12_twofold 164 = .ok (.goto (-50), 3) := by decide +kernel
theorem dX12_twofold_167 : decode cX12_twofold 167 = .ok (.iinc 3 1, 3) := by decide +kernel
theorem dX12_twofold_170 : decode cX12_twofold 170 = .ok (.goto (-65), 3) := by decide +kernel
theorem dX12_twofold_173 : decode cX12_twofold 173 = .ok (.goto (-76), 3) := by decide +kernel
theorem dX12_twofold_176 : decode cX12_twofold 176 = .ok (.sipush 9999, 3) := by decide +kernel
theorem dX12_twofold_179 : decode cX12_twofold 179 = .ok (.istore_n 3, 1) := by decide +kernel
theorem dX12_twofold_180 : decode cX12_twofold 180 = .ok (.iconst 0, 1) := by decide +kernel
theorem dX12_twofold_181 : decode cX12_twofold 181 = .ok (.istore 4, 2) := by decide +kernel
theorem dX12_twofold_183 : decode cX12_twofold 183 = .ok (.iload 4, 2) := by decide +kernel
theorem dX12_twofold_185 : decode cX12_twofold 185 = .ok (.aload_n 0, 1) := by decide +kernel
theorem dX12_twofold_186 : decode cX12_twofold 186 = .ok (.iload_n 1, 1) := by decide +kernel
theorem dX12_twofold_187 : decode cX12_twofold 187 = .ok (.invokevirtual 221, 3) := by decide +kernel
theorem dX12_twofold_190 : decode cX12_twofold 190 = .ok (.if_icmp .ge 31, 3) := by decide +kernel
theorem dX12_twofold_193 : decode cX12_twofold 193 = .ok (.iload_n 3, 1) := by decide +kernel
theorem dX12_twofold_194 : decode cX12_twofold 194 = .ok (.aload_n 0, 1) := by decide +kernel
theorem dX12_twofold_195 : decode cX12_twofold 195 = .ok (.getfield 84, 3) := by decide +kernel
theorem dX12_twofold_198 : decode cX12_twofold 198 = .ok (.iconst 5, 1) := by decide +kernel
theorem dX12_twofold_199 : decode cX12_twofold 199 = .ok (.iload 4, 2) := by decide +kernel
theorem dX12_twofold_201 : decode cX12_twofold 201 = .ok (.imul, 1) := by decide +kernel
theorem dX12_twofold_202 : decode cX12_twofold 202 = .ok (.aload_n 0, 1) := by decide +kernel
theorem dX12_twofold_203 : decode cX12_twofold 203 = .ok (.iload_n 1, 1) := by decide +kernel
theorem dX12_twofold_204 : decode cX12_twofold 204 = .ok (.iload 4, 2) := by decide +kernel
theorem dX12_twofold_206 : decode cX12_twofold 206 = .ok (.invokevirtual 230, 3) := by decide +kernel
theorem dX12_twofold_209 : decode cX12_twofold 209 = .ok (.iadd, 1) := by decide +kernel
theorem dX12_twofold_210 : decode cX12_twofold 210 = .ok (.iaload, 1) := by decide +kernel
theorem dX12_twofold_211 : decode cX12_twofold 211 = .ok (.invokestatic 320, 3) := by decide +kernel
theorem dX12_twofold_214 : decode cX12_twofold 214 = .ok (.istore_n 3, 1) := by decide +kernel
theorem dX12_twofold_215 : decode cX12_twofold 215 = .ok (.iinc 4 1, 3) := by decide +kernel
theorem dX12_twofold_218 : decode cX12_twofold 218 = .ok (.goto (-35), 3) := by decide +kernel
theorem dX12_twofold_221 : decode cX12_twofold 221 = .ok (.iload_n 3, 1) := by decide +kernel
theorem dX12_twofold_222 : decode cX12_twofold 222 = .ok (.sipush 9999, 3) := by decide +kernel
theorem dX12_twofold_225 : decode cX12_twofold 225 = .ok (.if_icmp .ne 7, 3) := by decide +kernel
theorem dX12_twofold_228 : decode cX12_twofold 228 = .ok (.iconst (-1), 1) := by decide +kernel
theorem dX12_twofold_229 : decode cX12_twofold 229 = .ok (.goto 4, 3) := by decide +kernel
theorem dX12_twofold_232 : decode cX12_twofold 232 = .ok (.iload_n 3, 1) := by decide +kernel
theorem dX12_twofold_233 : decode cX12_twofold 233 = .ok (.ireturn, 1) := by decide +kernel
theorem dX12_unique_0 : decode cX12_unique 0 = .ok (.aload_n 0, 1) := by decide +kernel
theorem dX12_unique_1 : decode cX12_unique 1 = .ok (.iload_n 1, 1) := by decide +kernel
theorem dX12_unique_2 : decode cX12_unique 2 = .ok (.invokevirtual 224, 3) := by decide +kernel
theorem dX12_unique_5 : decode cX12_unique 5 = .ok (.ifCond .eq 10, 3) := by decide +kernel
theorem dX12_unique_8 : decode cX12_unique 8 = .ok (.iload_n 2, 1) := by decide +kernel
theorem dX12_unique_9 : decode cX12_unique 9 = .ok (.invokestatic 218, 3) := by decide +kernel
theorem dX12_unique_12 : decode cX12_unique 12 = .ok (.ifCond .ne 6, 3) := by decide +kernel
theorem dX12_unique_15 : decode cX12_unique 15 = .ok (.bipush (-2), 2) := by decide +kernel
theorem dX12_unique_17 : decode cX12_unique 17 = .ok (.ireturn, 1) := by decide +kernel
theorem dX12_unique_18 : decode cX12_unique 18 = .ok (.aload_n 0, 1) := by decide +kernel
theorem dX12_unique_19 : decode cX12_unique 19 = .ok (.iload_n 2, 1) := by decide +kernel
theorem dX12_unique_20 : decode cX12_unique 20 = .ok (.invokevirtual 388, 3) := by decide +kernel
theorem dX12_unique_23 : decode cX12_unique 23 = .ok (.istore 4, 2) := by decide +kernel
theorem dX12_unique_25 : decode cX12_unique 25 = .ok (.iload_n 3, 1) := by decide +kernel
theorem dX12_unique_26 : decode cX12_unique 26 = .ok (.ifCond .eq 8, 3) := by decide +kernel
theorem dX12_unique_29 : decode cX12_unique 29 = .ok (.iload 4, 2) := by decide +kernel
theorem dX12_unique_31 : decode cX12_unique 31 = .ok (.goto 14, 3) := by decide +kernel
theorem dX12_unique_34 : decode cX12_unique 34 = .ok (.iload 4, 2) := by decide +kernel
theorem dX12_unique_36 : decode cX12_unique 36 = .ok (.iconst (-1), 1) := by decide +kernel
theorem dX12_unique_37 : decode cX12_unique 37 = .ok (.if_icmp .ne 7, 3) := by decide +kernel
theorem dX12_unique_40 : decode cX12_unique 40 = .ok (.iconst 1, 1) := by decide +kernel
theorem dX12_unique_41 : decode cX12_unique 41 = .ok (.goto 4, 3) := by decide +kernel
theorem dX12_unique_44 : decode cX12_unique 44 = .ok (.iconst 0, 1) := by decide +kernel
theorem dX12_unique_45 : decode cX12_unique 45 = .ok (.ireturn, 1) := by decide +kernel
theorem dX12_isFixed_0 : decode cX12_isFixed 0 = .ok (.aload_n 0, 1) := by decide +kernel
theorem dX12_isFixed_1 : decode cX12_isFixed 1 = .ok (.getfield 26, 3) := by decide +kernel
theorem dX12_isFixed_4 : decode cX12_isFixed 4 = .ok (.iload_n 3, 1) := by decide +kernel
theorem dX12_isFixed_5 : decode cX12_isFixed 5 = .ok (.iaload, 1) := by decide +kernel
theorem dX12_isFixed_6 : decode cX12_isFixed 6 = .ok (.istore 5, 2) := by decide +kernel
theorem dX12_isFixed_8 : decode cX12_isFixed 8 = .ok (.aload_n 0, 1) := by decide +kernel
theorem dX12_isFixed_9 : decode cX12_isFixed 9 = .ok (.getfield 26, 3) := by decide +kernel
theorem dX12_isFixed_12 : decode cX12_isFixed 12 = .ok (.iload 4, 2) := by decide +kernel
theorem dX12_isFixed_14 : decode cX12_isFixed 14 = .ok (.iaload, 1) := by decide +kernel
theorem dX12_isFixed_15 : decode cX12_isFixed 15 = .ok (.istore 6, 2) := by decide +kernel
theorem dX12_isFixed_17 : decode cX12_isFixed 17 = .ok (.iconst 0, 1) := by decide +kernel
theorem dX12_isFixed_18 : decode cX12_isFixed 18 = .ok (.istore 7, 2) := by decide +kernel
theorem dX12_isFixed_20 : decode cX12_isFixed 20 = .ok (.iconst 0, 1) := by decide +kernel
theorem dX12_isFixed_21 : decode cX12_isFixed 21 = .ok (.istore 8, 2) := by decide +kernel
theorem dX12_isFixed_23 : decode cX12_isFixed 23 = .ok (.iload 8, 2) := by decide +kernel
theorem dX12_isFixed_25 : decode cX12_isFixed 25 = .ok (.bipush 16, 2) := by decide +kernel
theorem dX12_isFixed_27 : decode cX12_isFixed 27 = .ok (.if_icmp .ge 86, 3) := by decide +kernel
theorem dX12_isFixed_30 : decode cX12_isFixed 30 = .ok (.iload 7, 2) := by decide +kernel
theorem dX12_isFixed_32 : decode cX12_isFixed 32 = .ok (.ifCond .ne 81, 3) := by decide +kernel
theorem dX12_isFixed_35 : decode cX12_isFixed 35 = .ok (.iload 8, 2) := by decide +kernel
theorem dX12_isFixed_37 : decode cX12_isFixed 37 = .ok (.iconst 4, 1) := by decide +kernel
theorem dX12_isFixed_38 : decode cX12_isFixed 38 = .ok (.idiv, 1) := by decide +kernel
theorem dX12_isFixed_39 : decode cX12_isFixed 39 = .ok (.iload 5, 2) := by decide +kernel
theorem dX12_isFixed_41 : decode cX12_isFixed 41 = .ok (.if_icmp .eq 66, 3) := by decide +kernel
theorem dX12_isFixed_44 : decode cX12_isFixed 44 = .ok (.iload 8, 2) := by decide +kernel
theorem dX12_isFixed_46 : decode cX12_isFixed 46 = .ok (.iconst 4, 1) := by decide +kernel
theorem dX12_isFixed_47 : decode cX12_isFixed 47 = .ok (.irem, 1) := by decide +kernel
theorem dX12_isFixed_48 : decode cX12_isFixed 48 = .ok (.iload 6, 2) := by decide +kernel
theorem dX12_isFixed_50 : decode cX12_isFixed 50 = .ok (.if_icmp .eq 57, 3) := by decide +kernel
theorem dX12_isFixed_53 : decode cX12_isFixed 53 = .ok (.iload_n 3, 1) := by decide +kernel
theorem dX12_isFixed_54 : decode cX12_isFixed 54 = .ok (.iload 4, 2) := by decide +kernel
theorem dX12_isFixed_56 : decode cX12_isFixed 56 = .ok (.if_icmp .ne 17, 3) := by decide +kernel
theorem dX12_isFixed_59 : decode cX12_isFixed 59 = .ok (.iload 8, 2) := by decide +kernel
theorem dX12_isFixed_61 : decode cX12_isFixed 61 = .ok (.iconst 4, 1) := by decide +kernel
theorem dX12_isFixed_62 : decode cX12_isFixed 62 = .ok (.idiv, 1) := by decide +kernel
theorem dX12_isFixed_63 : decode cX12_isFixed 63 = .ok (.iload 8, 2) := by decide +kernel
theorem dX12_isFixed_65 : decode cX12_isFixed 65 = .ok (.iconst 4, 1) := by decide +kernel
theorem dX12_isFixed_66 : decode cX12_isFixed 66 = .ok (.irem, 1) := by decide +kernel
theorem dX12_isFixed_67 : decode cX12_isFixed 67 = .ok (.if_icmp .eq 6, 3) := by decide +kernel
theorem dX12_isFixed_70 : decode cX12_isFixed 70 = .ok (.goto 37, 3) := by decide +kernel
theorem dX12_isFixed_73 : decode cX12_isFixed 73 = .ok (.aload_n 0, 1) := by decide +kernel
theorem dX12_isFixed_74 : decode cX12_isFixed 74 = .ok (.getfield 26, 3) := by decide +kernel
theorem dX12_isFixed_77 : decode cX12_isFixed 77 = .ok (.iload_n 3, 1) := by decide +kernel
theorem dX12_isFixed_78 : decode cX12_isFixed 78 = .ok (.iload 8, 2) := by decide +kernel
theorem dX12_isFixed_80 : decode cX12_isFixed 80 = .ok (.iconst 4, 1) := by decide +kernel
theorem dX12_isFixed_81 : decode cX12_isFixed 81 = .ok (.idiv, 1) := by decide +kernel
theorem dX12_isFixed_82 : decode cX12_isFixed 82 = .ok (.iastore, 1) := by decide +kernel
theorem dX12_isFixed_83 : decode cX12_isFixed 83 = .ok (.aload_n 0, 1) := by decide +kernel
theorem dX12_isFixed_84 : decode cX12_isFixed 84 = .ok (.getfield 26, 3) := by decide +kernel
theorem dX12_isFixed_87 : decode cX12_isFixed 87 = .ok (.iload 4, 2) := by decide +kernel
theorem dX12_isFixed_89 : decode cX12_isFixed 89 = .ok (.iload 8, 2) := by decide +kernel
theorem dX12_isFixed_91 : decode cX12_isFixed 91 = .ok (.iconst 4, 1) := by decide +kernel
theorem dX12_isFixed_92 : decode cX12_isFixed 92 = .ok (.irem, 1) := by decide +kernel
theorem dX12_isFixed_93 : decode cX12_isFixed 93 = .ok (.iastore, 1) := by decide +kernel
theorem dX12_isFixed_94 : decode cX12_isFixed 94 = .ok (.aload_n 0, 1) := by decide +kernel
theorem dX12_isFixed_95 : decode cX12_isFixed 95 = .ok (.iconst 0, 1) := by decide +kernel
theorem dX12_isFixed_96 : decode cX12_isFixed 96 = .ok (.invokevirtual 252, 3) := by decide +kernel
theorem dX12_isFixed_99 : decode cX12_isFixed 99 = .ok (.aload_n 0, 1) := by decide +kernel
theorem dX12_isFixed_100 : decode cX12_isFixed 100 = .ok (.iload_n 1, 1) := by decide +kernel
theorem dX12_isFixed_101 : decode cX12_isFixed 101 = .ok (.iload_n 2, 1) := by decide +kernel
theorem dX12_isFixed_102 : decode cX12_isFixed 102 = .ok (.invokevirtual 301, 3) := by decide +kernel
theorem dX12_isFixed_105 : decode cX12_isFixed 105 = .ok (.istore 7, 2) := by decide +kernel
theorem dX12_isFixed_107 : decode cX12_isFixed 107 = .ok (.iinc 8 1, 3) := by decide +kernel
theorem dX12_isFixed_110 : decode cX12_isFixed 110 = .ok (.goto (-87), 3) := by decide +kernel
theorem dX12_isFixed_113 : decode cX12_isFixed 113 = .ok (.aload_n 0, 1) := by decide +kernel
theorem dX12_isFixed_114 : decode cX12_isFixed 114 = .ok (.getfield 26, 3) := by decide +kernel
theorem dX12_isFixed_117 : decode cX12_isFixed 117 = .ok (.iload_n 3, 1) := by decide +kernel
theorem dX12_isFixed_118 : decode cX12_isFixed 118 = .ok (.iload 5, 2) := by decide +kernel
theorem dX12_isFixed_120 : decode cX12_isFixed 120 = .ok (.iastore, 1) := by decide +kernel
theorem dX12_isFixed_121 : decode cX12_isFixed 121 = .ok (.aload_n 0, 1) := by decide +kernel
theorem dX12_isFixed_122 : decode cX12_isFixed 122 = .ok (.getfield 26, 3) := by decide +kernel
theorem dX12_isFixed_125 : decode cX12_isFixed 125 = .ok (.iload 4, 2) := by decide +kernel
theorem dX12_isFixed_127 : decode cX12_isFixed 127 = .ok (.iload 6, 2) := by decide +kernel
theorem dX12_isFixed_129 : decode cX12_isFixed 129 = .ok (.iastore, 1) := by decide +kernel
theorem dX12_isFixed_130 : decode cX12_isFixed 130 = .ok (.iload 7, 2) := by decide +kernel
theorem dX12_isFixed_132 : decode cX12_isFixed 132 = .ok (.ireturn, 1) := by decide +kernel
theorem dX12_fix_0 : decode cX12_fix 0 = .ok (.aload_n 0, 1) := by decide +kernel
theorem dX12_fix_1 : decode cX12_fix 1 = .ok (.iload_n 1, 1) := by decide +kernel
theorem dX12_fix_2 : decode cX12_fix 2 = .ok (.iload_n 2, 1) := by decide +kernel
theorem dX12_fix_3 : decode cX12_fix 3 = .ok (.invokevirtual 255, 3) := by decide +kernel
theorem dX12_fix_6 : decode cX12_fix 6 = .ok (.ifCond .eq 20, 3) := by decide +kernel
theorem dX12_fix_9 : decode cX12_fix 9 = .ok (.iload_n 3, 1) := by decide +kernel
theorem dX12_fix_10 : decode cX12_fix 10 = .ok (.invokestatic 218, 3) := by decide +kernel
theorem dX12_fix_13 : decode cX12_fix 13 = .ok (.ifCond .eq 13, 3) := by decide +kernel
theorem dX12_fix_16 : decode cX12_fix 16 = .ok (.iload 4, 2) := by decide +kernel
theorem dX12_fix_18 : decode cX12_fix 18 = .ok (.iconst 0, 1) := by decide +kernel
theorem dX12_fix_19 : decode cX12_fix 19 = .ok (.iconst 4, 1) := by decide +kernel
theorem dX12_fix_20 : decode cX12_fix 20 = .ok (.invokestatic 145, 3) := by decide +kernel
theorem dX12_fix_23 : decode cX12_fix 23 = .ok (.ifCond .ne 5, 3) := by decide +kernel
theorem dX12_fix_26 : decode cX12_fix 26 = .ok (.iconst (-1), 1) := by decide +kernel
theorem dX12_fix_27 : decode cX12_fix 27 = .ok (.ireturn, 1) := by decide +kernel
theorem dX12_fix_28 : decode cX12_fix 28 = .ok (.aload_n 0, 1) := by decide +kernel
theorem dX12_fix_29 : decode cX12_fix 29 = .ok (.iload_n 3, 1) := by decide +kernel
theorem dX12_fix_30 : decode cX12_fix 30 = .ok (.iload 4, 2) := by decide +kernel
theorem dX12_fix_32 : decode cX12_fix 32 = .ok (.invokevirtual 301, 3) := by decide +kernel
theorem dX12_fix_35 : decode cX12_fix 35 = .ok (.ifCond .eq 5, 3) := by decide +kernel
theorem dX12_fix_38 : decode cX12_fix 38 = .ok (.iconst 0, 1) := by decide +kernel
theorem dX12_fix_39 : decode cX12_fix 39 = .ok (.ireturn, 1) := by decide +kernel
theorem dX12_fix_40 : decode cX12_fix 40 = .ok (.iconst 0, 1) := by decide +kernel
theorem dX12_fix_41 : decode cX12_fix 41 = .ok (.istore 6, 2) := by decide +kernel
theorem dX12_fix_43 : decode cX12_fix 43 = .ok (.iload 6, 2) := by decide +kernel
theorem dX12_fix_45 : decode cX12_fix 45 = .ok (.aload_n 0, 1) := by decide +kernel
theorem dX12_fix_46 : decode cX12_fix 46 = .ok (.getfield 243, 3) := by decide +kernel
theorem dX12_fix_49 : decode cX12_fix 49 = .ok (.if_icmp .ge 37, 3) := by decide +kernel
theorem dX12_fix_52 : decode cX12_fix 52 = .ok (.aload_n 0, 1) := by decide +kernel
theorem dX12_fix_53 : decode cX12_fix 53 = .ok (.iload_n 3, 1) := by decide +kernel
theorem dX12_fix_54 : decode cX12_fix 54 = .ok (.iload 4, 2) := by decide +kernel
theorem dX12_fix_56 : decode cX12_fix 56 = .ok (.iload 6, 2) := by decide +kernel
theorem dX12_fix_58 : decode cX12_fix 58 = .ok (.iload 6, 2) := by decide +kernel
theorem dX12_fix_60 : decode cX12_fix 60 = .ok (.invokevirtual 391, 3) := by decide +kernel
theorem dX12_fix_63 : decode cX12_fix 63 = .ok (.ifCond .eq 17, 3) := by decide +kernel
theorem dX12_fix_66 : decode cX12_fix 66 = .ok (.iload 5, 2) := by decide +kernel
theorem dX12_fix_68 : decode cX12_fix 68 = .ok (.ifCond .eq 10, 3) := by decide +kernel
theorem dX12_fix_71 : decode cX12_fix 71 = .ok (.iconst 1, 1) := by decide +kernel
theorem dX12_fix_72 : decode cX12_fix 72 = .ok (.iload 6, 2) := by decide +kernel
theorem dX12_fix_74 : decode cX12_fix 74 = .ok (.ishl, 1) := by decide +kernel
theorem dX12_fix_75 : decode cX12_fix 75 = .ok (.goto 4, 3) := by decide +kernel
theorem dX12_fix_78 : decode cX12_fix 78 = .ok (.iconst 1, 1) := by decide +kernel
theorem dX12_fix_79 : decode cX12_fix 79 = .ok (.ireturn, 1) := by decide +kernel
theorem dX12_fix_80 : decode cX12_fix 80 = .ok (.iinc 6 1, 3) := by decide +kernel
theorem dX12_fix_83 : decode cX12_fix 83 = .ok (.goto (-40), 3) := by decide +kernel
theorem dX12_fix_86 : decode cX12_fix 86 = .ok (.iconst 1, 1) := by decide +kernel
theorem dX12_fix_87 : decode cX12_fix 87 = .ok (.istore 6, 2) := by decide +kernel
theorem dX12_fix_89 : decode cX12_fix 89 = .ok (.iload 6, 2) := by decide +kernel
theorem dX12_fix_91 : decode cX12_fix 91 = .ok (.aload_n 0, 1) := by decide +kernel
theorem dX12_fix_92 : decode cX12_fix 92 = .ok (.getfield 243, 3) := by decide +kernel
theorem dX12_fix_95 : decode cX12_fix 95 = .ok (.if_icmp .ge 58, 3) := by decide +kernel
theorem dX12_fix_98 : decode cX12_fix 98 = .ok (.iconst 0, 1) := by decide +kernel
theorem dX12_fix_99 : decode cX12_fix 99 = .ok (.istore 7, 2) := by decide +kernel
theorem dX12_fix_101 : decode cX12_fix 101 = .ok (.iload 7, 2) := by decide +kernel
theorem dX12_fix_103 : decode cX12_fix 103 = .ok (.iload 6, 2) := by decide +kernel
theorem dX12_fix_105 : decode cX12_fix 105 = .ok (.if_icmp .ge 42, 3) := by decide +kernel
theorem dX12_fix_108 : decode cX12_fix 108 = .ok (.aload_n 0, 1) := by decide +kernel
theorem dX12_fix_109 : decode cX12_fix 109 = .ok (.iload_n 3, 1) := by decide +kernel
theorem dX12_fix_110 : decode cX12_fix 110 = .ok (.iload 4, 2) := by decide +kernel
theorem dX12_fix_112 : decode cX12_fix 112 = .ok (.iload 7, 2) := by decide +kernel
theorem dX12_fix_114 : decode cX12_fix 114 = .ok (.iload 6, 2) := by decide +kernel
theorem dX12_fix_116 : decode cX12_fix 116 = .ok (.invokevirtual 391, 3) := by decide +kernel
theorem dX12_fix_119 : decode cX12_fix 119 = .ok (.ifCond .eq 22, 3) := by decide +kernel
theorem dX12_fix_122 : decode cX12_fix 122 = .ok (.iload 5, 2) := by decide +kernel
theorem dX12_fix_124 : decode cX12_fix 124 = .ok (.ifCond .eq 15, 3) := by decide +kernel
theorem dX12_fix_127 : decode cX12_fix 127 = .ok (.iconst 1, 1) := by decide +kernel
theorem dX12_fix_128 : decode cX12_fix 128 = .ok (.iload 7, 2) := by decide +kernel
theorem dX12_fix_130 : decode cX12_fix 130 = .ok (.ishl, 1) := by decide +kernel
theorem dX12_fix_131 : decode cX12_fix 131 = .ok (.iconst 1, 1) := by decide +kernel
theorem dX12_fix_132 : decode cX12_fix 132 = .ok (.iload 6, 2) := by decide +kernel
theorem dX12_fix_134 : decode cX12_fix 134 = .ok (.ishl, 1) := by decide +kernel
theorem dX12_fix_135 : decode cX12_fix 135 = .ok (.ior, 1) := by decide +kernel
theorem dX12_fix_136 : decode cX12_fix 136 = .ok (.goto 4, 3) := by decide +kernel
theorem dX12_fix_139 : decode cX12_fix 139 = .ok (.iconst 2, 1) := by decide +kernel
theorem dX12_fix_140 : decode cX12_fix 140 = .ok (.ireturn, 1) := by decide +kernel
theorem dX12_fix_141 : decode cX12_fix 141 = .ok (.iinc 7 1, 3) := by decide +kernel
theorem dX12_fix_144 : decode cX12_fix 144 = .ok (.goto (-43), 3) := by decide +kernel
theorem dX12_fix_147 : decode cX12_fix 147 = .ok (.iinc 6 1, 3) := by decide +kernel
theorem dX12_fix_150 : decode cX12_fix 150 = .ok (.goto (-61), 3) := by decide +kernel
theorem dX12_fix_153 : decode cX12_fix 153 = .ok (.iconst (-1), 1) := by decide +kernel
theorem dX12_fix_154 : decode cX12_fix 154 = .ok (.ireturn, 1) := by decide +kernel
theorem dX12_count_0 : decode cX12_count 0 = .ok (.iload_n 1, 1) := by decide +kernel
theorem dX12_count_1 : decode cX12_count 1 = .ok (.iconst 0, 1) := by decide +kernel
theorem dX12_count_2 : decode cX12_count 2 = .ok (.iconst 3, 1) := by decide +kernel
theorem dX12_count_3 : decode cX12_count 3 = .ok (.invokestatic 145, 3) := by decide +kernel
theorem dX12_count_6 : decode cX12_count 6 = .ok (.ifCond .eq 12, 3) := by decide +kernel
theorem dX12_count_9 : decode cX12_count 9 = .ok (.aload_n 0, 1) := by decide +kernel
theorem dX12_count_10 : decode cX12_count 10 = .ok (.getfield 7, 3) := by decide +kernel
theorem dX12_count_13 : decode cX12_count 13 = .ok (.iload_n 1, 1) := by decide +kernel
theorem dX12_count_14 : decode cX12_count 14 = .ok (.iaload, 1) := by decide +kernel
theorem dX12_count_15 : decode cX12_count 15 = .ok (.goto 5, 3) := by decide +kernel
theorem dX12_count_18 : decode cX12_count 18 = .ok (.bipush (-2), 2) := by decide +kernel
theorem dX12_count_20 : decode cX12_count 20 = .ok (.ireturn, 1) := by decide +kernel
theorem dX12_image_0 : decode cX12_image 0 = .ok (.iload_n 1, 1) := by decide +kernel
theorem dX12_image_1 : decode cX12_image 1 = .ok (.iconst 0, 1) := by decide +kernel
theorem dX12_image_2 : decode cX12_image 2 = .ok (.iconst 2, 1) := by decide +kernel
theorem dX12_image_3 : decode cX12_image 3 = .ok (.invokestatic 145, 3) := by decide +kernel
theorem dX12_image_6 : decode cX12_image 6 = .ok (.ifCond .ne 5, 3) := by decide +kernel
theorem dX12_image_9 : decode cX12_image 9 = .ok (.iconst 0, 1) := by decide +kernel
theorem dX12_image_10 : decode cX12_image 10 = .ok (.ireturn, 1) := by decide +kernel
theorem dX12_image_11 : decode cX12_image 11 = .ok (.aload_n 0, 1) := by decide +kernel
theorem dX12_image_12 : decode cX12_image 12 = .ok (.getfield 13, 3) := by decide +kernel
theorem dX12_image_15 : decode cX12_image 15 = .ok (.iload_n 1, 1) := by decide +kernel
theorem dX12_image_16 : decode cX12_image 16 = .ok (.iconst 1, 1) := by decide +kernel
theorem dX12_image_17 : decode cX12_image 17 = .ok (.bastore, 1) := by decide +kernel
theorem dX12_image_18 : decode cX12_image 18 = .ok (.iconst 0, 1) := by decide +kernel
theorem dX12_image_19 : decode cX12_image 19 = .ok (.istore_n 2, 1) := by decide +kernel
theorem dX12_image_20 : decode cX12_image 20 = .ok (.iload_n 2, 1) := by decide +kernel
theorem dX12_image_21 : decode cX12_image 21 = .ok (.sipush 934, 3) := by decide +kernel
theorem dX12_image_24 : decode cX12_image 24 = .ok (.if_icmp .ge 29, 3) := by decide +kernel
theorem dX12_image_27 : decode cX12_image 27 = .ok (.aload_n 0, 1) := by decide +kernel
theorem dX12_image_28 : decode cX12_image 28 = .ok (.getfield 7, 3) := by decide +kernel
theorem dX12_image_31 : decode cX12_image 31 = .ok (.sipush 934, 3) := by decide +kernel
theorem dX12_image_34 : decode cX12_image 34 = .ok (.iload_n 1, 1) := by decide +kernel
theorem dX12_image_35 : decode cX12_image 35 = .ok (.iconst 1, 1) := by decide +kernel
theorem dX12_image_36 : decode cX12_image 36 = .ok (.iadd, 1) := by decide +kernel
theorem dX12_image_37 : decode cX12_image 37 = .ok (.imul, 1) := by decide +kernel
theorem dX12_image_38 : decode cX12_image 38 = .ok (.iload_n 2, 1) := by decide +kernel
theorem dX12_image_39 : decode cX12_image 39 = .ok (.iadd, 1) := by decide +kernel
theorem dX12_image_40 : decode cX12_image 40 = .ok (.aload_n 0, 1) := by decide +kernel
theorem dX12_image_41 : decode cX12_image 41 = .ok (.getfield 7, 3) := by decide +kernel
theorem dX12_image_44 : decode cX12_image 44 = .ok (.iload_n 2, 1) := by decide +kernel
theorem dX12_image_45 : decode cX12_image 45 = .ok (.iaload, 1) := by decide +kernel
theorem dX12_image_46 : decode cX12_image 46 = .ok (.iastore, 1) := by decide +kernel
theorem dX12_image_47 : decode cX12_image 47 = .ok (.iinc 2 1, 3) := by decide +kernel
theorem dX12_image_50 : decode cX12_image 50 = .ok (.goto (-30), 3) := by decide +kernel
theorem dX12_image_53 : decode cX12_image 53 = .ok (.iconst 1, 1) := by decide +kernel
theorem dX12_image_54 : decode cX12_image 54 = .ok (.ireturn, 1) := by decide +kernel
theorem dX12_again_0 : decode cX12_again 0 = .ok (.iload_n 1, 1) := by decide +kernel
theorem dX12_again_1 : decode cX12_again 1 = .ok (.iconst 0, 1) := by decide +kernel
theorem dX12_again_2 : decode cX12_again 2 = .ok (.iconst 2, 1) := by decide +kernel
theorem dX12_again_3 : decode cX12_again 3 = .ok (.invokestatic 145, 3) := by decide +kernel
theorem dX12_again_6 : decode cX12_again 6 = .ok (.ifCond .eq 12, 3) := by decide +kernel
theorem dX12_again_9 : decode cX12_again 9 = .ok (.aload_n 0, 1) := by decide +kernel
theorem dX12_again_10 : decode cX12_again 10 = .ok (.getfield 13, 3) := by decide +kernel
theorem dX12_again_13 : decode cX12_again 13 = .ok (.iload_n 1, 1) := by decide +kernel
theorem dX12_again_14 : decode cX12_again 14 = .ok (.baload, 1) := by decide +kernel
theorem dX12_again_15 : decode cX12_again 15 = .ok (.ifCond .ne 5, 3) := by decide +kernel
theorem dX12_again_18 : decode cX12_again 18 = .ok (.iconst 0, 1) := by decide +kernel
theorem dX12_again_19 : decode cX12_again 19 = .ok (.ireturn, 1) := by decide +kernel
theorem dX12_again_20 : decode cX12_again 20 = .ok (.iconst 0, 1) := by decide +kernel
theorem dX12_again_21 : decode cX12_again 21 = .ok (.istore_n 2, 1) := by decide +kernel
theorem dX12_again_22 : decode cX12_again 22 = .ok (.iload_n 2, 1) := by decide +kernel
theorem dX12_again_23 : decode cX12_again 23 = .ok (.sipush 934, 3) := by decide +kernel
theorem dX12_again_26 : decode cX12_again 26 = .ok (.if_icmp .ge 29, 3) := by decide +kernel
theorem dX12_again_29 : decode cX12_again 29 = .ok (.aload_n 0, 1) := by decide +kernel
theorem dX12_again_30 : decode cX12_again 30 = .ok (.getfield 7, 3) := by decide +kernel
theorem dX12_again_33 : decode cX12_again 33 = .ok (.iload_n 2, 1) := by decide +kernel
theorem dX12_again_34 : decode cX12_again 34 = .ok (.aload_n 0, 1) := by decide +kernel
theorem dX12_again_35 : decode cX12_again 35 = .ok (.getfield 7, 3) := by decide +kernel
theorem dX12_again_38 : decode cX12_again 38 = .ok (.sipush 934, 3) := by decide +kernel
theorem dX12_again_41 : decode cX12_again 41 = .ok (.iload_n 1, 1) := by decide +kernel
theorem dX12_again_42 : decode cX12_again 42 = .ok (.iconst 1, 1) := by decide +kernel
theorem dX12_again_43 : decode cX12_again 43 = .ok (.iadd, 1) := by decide +kernel
theorem dX12_again_44 : decode cX12_again 44 = .ok (.imul, 1) := by decide +kernel
theorem dX12_again_45 : decode cX12_again 45 = .ok (.iload_n 2, 1) := by decide +kernel
theorem dX12_again_46 : decode cX12_again 46 = .ok (.iadd, 1) := by decide +kernel
theorem dX12_again_47 : decode cX12_again 47 = .ok (.iaload, 1) := by decide +kernel
theorem dX12_again_48 : decode cX12_again 48 = .ok (.iastore, 1) := by decide +kernel
theorem dX12_again_49 : decode cX12_again 49 = .ok (.iinc 2 1, 3) := by decide +kernel
theorem dX12_again_52 : decode cX12_again 52 = .ok (.goto (-30), 3) := by decide +kernel
theorem dX12_again_55 : decode cX12_again 55 = .ok (.iconst 1, 1) := by decide +kernel
theorem dX12_again_56 : decode cX12_again 56 = .ok (.ireturn, 1) := by decide +kernel

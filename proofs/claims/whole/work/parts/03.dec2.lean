theorem dX4_guessDigit_16 : decode cX4_guessDigit 16 = .ok (.iadd, 1) := by decide +kernel
theorem dX4_guessDigit_17 : decode cX4_guessDigit 17 = .ok (.istore_n 2, 1) := by decide +kernel
theorem dX4_guessDigit_18 : decode cX4_guessDigit 18 = .ok (.aload_n 0, 1) := by decide +kernel
theorem dX4_guessDigit_19 : decode cX4_guessDigit 19 = .ok (.getfield 9, 3) := by decide +kernel
theorem dX4_guessDigit_22 : decode cX4_guessDigit 22 = .ok (.iload_n 2, 1) := by decide +kernel
theorem dX4_guessDigit_23 : decode cX4_guessDigit 23 = .ok (.iconst 1, 1) := by decide +kernel
theorem dX4_guessDigit_24 : decode cX4_guessDigit 24 = .ok (.isub, 1) := by decide +kernel
theorem dX4_guessDigit_25 : decode cX4_guessDigit 25 = .ok (.iaload, 1) := by decide +kernel
theorem dX4_guessDigit_26 : decode cX4_guessDigit 26 = .ok (.istore_n 3, 1) := by decide +kernel
theorem dX4_guessDigit_27 : decode cX4_guessDigit 27 = .ok (.aload_n 0, 1) := by decide +kernel
theorem dX4_guessDigit_28 : decode cX4_guessDigit 28 = .ok (.getfield 38, 3) := by decide +kernel
theorem dX4_guessDigit_31 : decode cX4_guessDigit 31 = .ok (.iconst 1, 1) := by decide +kernel
theorem dX4_guessDigit_32 : decode cX4_guessDigit 32 = .ok (.if_icmp .le 14, 3) := by decide +kernel
theorem dX4_guessDigit_35 : decode cX4_guessDigit 35 = .ok (.aload_n 0, 1) := by decide +kernel
theorem dX4_guessDigit_36 : decode cX4_guessDigit 36 = .ok (.getfield 9, 3) := by decide +kernel
theorem dX4_guessDigit_39 : decode cX4_guessDigit 39 = .ok (.iload_n 2, 1) := by decide +kernel
theorem dX4_guessDigit_40 : decode cX4_guessDigit 40 = .ok (.iconst 2, 1) := by decide +kernel
theorem dX4_guessDigit_41 : decode cX4_guessDigit 41 = .ok (.isub, 1) := by decide +kernel
theorem dX4_guessDigit_42 : decode cX4_guessDigit 42 = .ok (.iaload, 1) := by decide +kernel
theorem dX4_guessDigit_43 : decode cX4_guessDigit 43 = .ok (.goto 4, 3) := by decide +kernel
theorem dX4_guessDigit_46 : decode cX4_guessDigit 46 = .ok (.iconst 0, 1) := by decide +kernel
theorem dX4_guessDigit_47 : decode cX4_guessDigit 47 = .ok (.istore 4, 2) := by decide +kernel
theorem dX4_guessDigit_49 : decode cX4_guessDigit 49 = .ok (.aload_n 0, 1) := by decide +kernel
theorem dX4_guessDigit_50 : decode cX4_guessDigit 50 = .ok (.getfield 38, 3) := by decide +kernel
theorem dX4_guessDigit_53 : decode cX4_guessDigit 53 = .ok (.iconst 2, 1) := by decide +kernel
theorem dX4_guessDigit_54 : decode cX4_guessDigit 54 = .ok (.if_icmp .le 14, 3) := by decide +kernel
theorem dX4_guessDigit_57 : decode cX4_guessDigit 57 = .ok (.aload_n 0, 1) := by decide +kernel
theorem dX4_guessDigit_58 : decode cX4_guessDigit 58 = .ok (.getfield 9, 3) := by decide +kernel
theorem dX4_guessDigit_61 : decode cX4_guessDigit 61 = .ok (.iload_n 2, 1) := by decide +kernel
theorem dX4_guessDigit_62 : decode cX4_guessDigit 62 = .ok (.iconst 3, 1) := by decide +kernel
theorem dX4_guessDigit_63 : decode cX4_guessDigit 63 = .ok (.isub, 1) := by decide +kernel
theorem dX4_guessDigit_64 : decode cX4_guessDigit 64 = .ok (.iaload, 1) := by decide +kernel
theorem dX4_guessDigit_65 : decode cX4_guessDigit 65 = .ok (.goto 4, 3) := by decide +kernel
theorem dX4_guessDigit_68 : decode cX4_guessDigit 68 = .ok (.iconst 0, 1) := by decide +kernel
theorem dX4_guessDigit_69 : decode cX4_guessDigit 69 = .ok (.istore 5, 2) := by decide +kernel
theorem dX4_guessDigit_71 : decode cX4_guessDigit 71 = .ok (.aload_n 0, 1) := by decide +kernel
theorem dX4_guessDigit_72 : decode cX4_guessDigit 72 = .ok (.getfield 9, 3) := by decide +kernel
theorem dX4_guessDigit_75 : decode cX4_guessDigit 75 = .ok (.iload_n 2, 1) := by decide +kernel
theorem dX4_guessDigit_76 : decode cX4_guessDigit 76 = .ok (.iaload, 1) := by decide +kernel
theorem dX4_guessDigit_77 : decode cX4_guessDigit 77 = .ok (.i2l, 1) := by decide +kernel
theorem dX4_guessDigit_78 : decode cX4_guessDigit 78 = .ok (.bipush 31, 2) := by decide +kernel
theorem dX4_guessDigit_80 : decode cX4_guessDigit 80 = .ok (.lshl, 1) := by decide +kernel
theorem dX4_guessDigit_81 : decode cX4_guessDigit 81 = .ok (.iload_n 3, 1) := by decide +kernel
theorem dX4_guessDigit_82 : decode cX4_guessDigit 82 = .ok (.i2l, 1) := by decide +kernel
theorem dX4_guessDigit_83 : decode cX4_guessDigit 83 = .ok (.lor, 1) := by decide +kernel
theorem dX4_guessDigit_84 : decode cX4_guessDigit 84 = .ok (.aload_n 0, 1) := by decide +kernel
theorem dX4_guessDigit_85 : decode cX4_guessDigit 85 = .ok (.getfield 90, 3) := by decide +kernel
theorem dX4_guessDigit_88 : decode cX4_guessDigit 88 = .ok (.lshl, 1) := by decide +kernel
theorem dX4_guessDigit_89 : decode cX4_guessDigit 89 = .ok (.iload 4, 2) := by decide +kernel
theorem dX4_guessDigit_91 : decode cX4_guessDigit 91 = .ok (.bipush 31, 2) := by decide +kernel
theorem dX4_guessDigit_93 : decode cX4_guessDigit 93 = .ok (.aload_n 0, 1) := by decide +kernel
theorem dX4_guessDigit_94 : decode cX4_guessDigit 94 = .ok (.getfield 90, 3) := by decide +kernel
theorem dX4_guessDigit_97 : decode cX4_guessDigit 97 = .ok (.isub, 1) := by decide +kernel
theorem dX4_guessDigit_98 : decode cX4_guessDigit 98 = .ok (.ishr, 1) := by decide +kernel
theorem dX4_guessDigit_99 : decode cX4_guessDigit 99 = .ok (.i2l, 1) := by decide +kernel
theorem dX4_guessDigit_100 : decode cX4_guessDigit 100 = .ok (.lor, 1) := by decide +kernel
theorem dX4_guessDigit_101 : decode cX4_guessDigit 101 = .ok (.lstore 6, 2) := by decide +kernel
theorem dX4_guessDigit_103 : decode cX4_guessDigit 103 = .ok (.iload 4, 2) := by decide +kernel
theorem dX4_guessDigit_105 : decode cX4_guessDigit 105 = .ok (.i2l, 1) := by decide +kernel
theorem dX4_guessDigit_106 : decode cX4_guessDigit 106 = .ok (.aload_n 0, 1) := by decide +kernel
theorem dX4_guessDigit_107 : decode cX4_guessDigit 107 = .ok (.getfield 90, 3) := by decide +kernel
theorem dX4_guessDigit_110 : decode cX4_guessDigit 110 = .ok (.lshl, 1) := by decide +kernel
theorem dX4_guessDigit_111 : decode cX4_guessDigit 111 = .ok (.iload 5, 2) := by decide +kernel
theorem dX4_guessDigit_113 : decode cX4_guessDigit 113 = .ok (.bipush 31, 2) := by decide +kernel
theorem dX4_guessDigit_115 : decode cX4_guessDigit 115 = .ok (.aload_n 0, 1) := by decide +kernel
theorem dX4_guessDigit_116 : decode cX4_guessDigit 116 = .ok (.getfield 90, 3) := by decide +kernel
theorem dX4_guessDigit_119 : decode cX4_guessDigit 119 = .ok (.isub, 1) := by decide +kernel
theorem dX4_guessDigit_120 : decode cX4_guessDigit 120 = .ok (.ishr, 1) := by decide +kernel
theorem dX4_guessDigit_121 : decode cX4_guessDigit 121 = .ok (.i2l, 1) := by decide +kernel
theorem dX4_guessDigit_122 : decode cX4_guessDigit 122 = .ok (.lor, 1) := by decide +kernel
theorem dX4_guessDigit_123 : decode cX4_guessDigit 123 = .ok (.ldc2_w 15, 3) := by decide +kernel
theorem dX4_guessDigit_126 : decode cX4_guessDigit 126 = .ok (.land, 1) := by decide +kernel
theorem dX4_guessDigit_127 : decode cX4_guessDigit 127 = .ok (.lstore 8, 2) := by decide +kernel
theorem dX4_guessDigit_129 : decode cX4_guessDigit 129 = .ok (.lload 6, 2) := by decide +kernel
theorem dX4_guessDigit_131 : decode cX4_guessDigit 131 = .ok (.aload_n 0, 1) := by decide +kernel
theorem dX4_guessDigit_132 : decode cX4_guessDigit 132 = .ok (.getfield 93, 3) := by decide +kernel
theorem dX4_guessDigit_135 : decode cX4_guessDigit 135 = .ok (.ldiv, 1) := by decide +kernel
theorem dX4_guessDigit_136 : decode cX4_guessDigit 136 = .ok (.lstore 10, 2) := by decide +kernel
theorem dX4_guessDigit_138 : decode cX4_guessDigit 138 = .ok (.lload 6, 2) := by decide +kernel
theorem dX4_guessDigit_140 : decode cX4_guessDigit 140 = .ok (.lload 10, 2) := by decide +kernel
theorem dX4_guessDigit_142 : decode cX4_guessDigit 142 = .ok (.aload_n 0, 1) := by decide +kernel
theorem dX4_guessDigit_143 : decode cX4_guessDigit 143 = .ok (.getfield 93, 3) := by decide +kernel
theorem dX4_guessDigit_146 : decode cX4_guessDigit 146 = .ok (.lmul, 1) := by decide +kernel
theorem dX4_guessDigit_147 : decode cX4_guessDigit 147 = .ok (.lsub, 1) := by decide +kernel
theorem dX4_guessDigit_148 : decode cX4_guessDigit 148 = .ok (.lstore 12, 2) := by decide +kernel
theorem dX4_guessDigit_150 : decode cX4_guessDigit 150 = .ok (.lload 10, 2) := by decide +kernel
theorem dX4_guessDigit_152 : decode cX4_guessDigit 152 = .ok (.ldc2_w 15, 3) := by decide +kernel
theorem dX4_guessDigit_155 : decode cX4_guessDigit 155 = .ok (.lcmp, 1) := by decide +kernel
theorem dX4_guessDigit_156 : decode cX4_guessDigit 156 = .ok (.ifCond .gt 22, 3) := by decide +kernel
theorem dX4_guessDigit_159 : decode cX4_guessDigit 159 = .ok (.lload 10, 2) := by decide +kernel
theorem dX4_guessDigit_161 : decode cX4_guessDigit 161 = .ok (.aload_n 0, 1) := by decide +kernel
theorem dX4_guessDigit_162 : decode cX4_guessDigit 162 = .ok (.getfield 97, 3) := by decide +kernel
theorem dX4_guessDigit_165 : decode cX4_guessDigit 165 = .ok (.lmul, 1) := by decide +kernel
theorem dX4_guessDigit_166 : decode cX4_guessDigit 166 = .ok (.lload 12, 2) := by decide +kernel
theorem dX4_guessDigit_168 : decode cX4_guessDigit 168 = .ok (.bipush 31, 2) := by decide +kernel
theorem dX4_guessDigit_170 : decode cX4_guessDigit 170 = .ok (.lshl, 1) := by decide +kernel
theorem dX4_guessDigit_171 : decode cX4_guessDigit 171 = .ok (.lload 8, 2) := by decide +kernel
theorem dX4_guessDigit_173 : decode cX4_guessDigit 173 = .ok (.lor, 1) := by decide +kernel
theorem dX4_guessDigit_174 : decode cX4_guessDigit 174 = .ok (.lcmp, 1) := by decide +kernel
theorem dX4_guessDigit_175 : decode cX4_guessDigit 175 = .ok (.ifCond .le 10, 3) := by decide +kernel
theorem dX4_guessDigit_178 : decode cX4_guessDigit 178 = .ok (.lload 10, 2) := by decide +kernel
theorem dX4_guessDigit_180 : decode cX4_guessDigit 180 = .ok (.lconst 1, 1) := by decide +kernel
theorem dX4_guessDigit_181 : decode cX4_guessDigit 181 = .ok (.lsub, 1) := by decide +kernel
theorem dX4_guessDigit_182 : decode cX4_guessDigit 182 = .ok (.goto 5, 3) := by decide +kernel
theorem dX4_guessDigit_185 : decode cX4_guessDigit 185 = .ok (.lload 10, 2) := by decide +kernel
theorem dX4_guessDigit_187 : decode cX4_guessDigit 187 = .ok (.lreturn, 1) := by decide +kernel
theorem dX4_subtractTimes_0 : decode cX4_subtractTimes 0 = .ok (.lload_n 2, 1) := by decide +kernel
theorem dX4_subtractTimes_1 : decode cX4_subtractTimes 1 = .ok (.lconst 0, 1) := by decide +kernel
theorem dX4_subtractTimes_2 : decode cX4_subtractTimes 2 = .ok (.lcmp, 1) := by decide +kernel
theorem dX4_subtractTimes_3 : decode cX4_subtractTimes 3 = .ok (.ifCond .ne 5, 3) := by decide +kernel
theorem dX4_subtractTimes_6 : decode cX4_subtractTimes 6 = .ok (.iconst 0, 1) := by decide +kernel
theorem dX4_subtractTimes_7 : decode cX4_subtractTimes 7 = .ok (.ireturn, 1) := by decide +kernel
theorem dX4_subtractTimes_8 : decode cX4_subtractTimes 8 = .ok (.lconst 0, 1) := by decide +kernel
theorem dX4_subtractTimes_9 : decode cX4_subtractTimes 9 = .ok (.lstore 4, 2) := by decide +kernel
theorem dX4_subtractTimes_11 : decode cX4_subtractTimes 11 = .ok (.iconst 0, 1) := by decide +kernel
theorem dX4_subtractTimes_12 : decode cX4_subtractTimes 12 = .ok (.istore 6, 2) := by decide +kernel
theorem dX4_subtractTimes_14 : decode cX4_subtractTimes 14 = .ok (.iload 6, 2) := by decide +kernel
theorem dX4_subtractTimes_16 : decode cX4_subtractTimes 16 = .ok (.aload_n 0, 1) := by decide +kernel
theorem dX4_subtractTimes_17 : decode cX4_subtractTimes 17 = .ok (.getfield 38, 3) := by decide +kernel
theorem dX4_subtractTimes_20 : decode cX4_subtractTimes 20 = .ok (.if_icmp .ge 63, 3) := by decide +kernel
theorem dX4_subtractTimes_23 : decode cX4_subtractTimes 23 = .ok (.aload_n 0, 1) := by decide +kernel
theorem dX4_subtractTimes_24 : decode cX4_subtractTimes 24 = .ok (.getfield 9, 3) := by decide +kernel
theorem dX4_subtractTimes_27 : decode cX4_subtractTimes 27 = .ok (.iload_n 1, 1) := by decide +kernel
theorem dX4_subtractTimes_28 : decode cX4_subtractTimes 28 = .ok (.iload 6, 2) := by decide +kernel
theorem dX4_subtractTimes_30 : decode cX4_subtractTimes 30 = .ok (.iadd, 1) := by decide +kernel
theorem dX4_subtractTimes_31 : decode cX4_subtractTimes 31 = .ok (.iaload, 1) := by decide +kernel
theorem dX4_subtractTimes_32 : decode cX4_subtractTimes 32 = .ok (.i2l, 1) := by decide +kernel
theorem dX4_subtractTimes_33 : decode cX4_subtractTimes 33 = .ok (.lload 4, 2) := by decide +kernel
theorem dX4_subtractTimes_35 : decode cX4_subtractTimes 35 = .ok (.ladd, 1) := by decide +kernel
theorem dX4_subtractTimes_36 : decode cX4_subtractTimes 36 = .ok (.lload_n 2, 1) := by decide +kernel
theorem dX4_subtractTimes_37 : decode cX4_subtractTimes 37 = .ok (.aload_n 0, 1) := by decide +kernel
theorem dX4_subtractTimes_38 : decode cX4_subtractTimes 38 = .ok (.getfield 9, 3) := by decide +kernel
theorem dX4_subtractTimes_41 : decode cX4_subtractTimes 41 = .ok (.aload_n 0, 1) := by decide +kernel
theorem dX4_subtractTimes_42 : decode cX4_subtractTimes 42 = .ok (.getfield 53, 3) := by decide +kernel
theorem dX4_subtractTimes_45 : decode cX4_subtractTimes 45 = .ok (.iload 6, 2) := by decide +kernel
theorem dX4_subtractTimes_47 : decode cX4_subtractTimes 47 = .ok (.iadd, 1) := by decide +kernel
theorem dX4_subtractTimes_48 : decode cX4_subtractTimes 48 = .ok (.iaload, 1) := by decide +kernel
theorem dX4_subtractTimes_49 : decode cX4_subtractTimes 49 = .ok (.i2l, 1) := by decide +kernel
theorem dX4_subtractTimes_50 : decode cX4_subtractTimes 50 = .ok (.lmul, 1) := by decide +kernel
theorem dX4_subtractTimes_51 : decode cX4_subtractTimes 51 = .ok (.lsub, 1) := by decide +kernel
theorem dX4_subtractTimes_52 : decode cX4_subtractTimes 52 = .ok (.lstore 7, 2) := by decide +kernel
theorem dX4_subtractTimes_54 : decode cX4_subtractTimes 54 = .ok (.aload_n 0, 1) := by decide +kernel
theorem dX4_subtractTimes_55 : decode cX4_subtractTimes 55 = .ok (.getfield 9, 3) := by decide +kernel
theorem dX4_subtractTimes_58 : decode cX4_subtractTimes 58 = .ok (.iload_n 1, 1) := by decide +kernel
theorem dX4_subtractTimes_59 : decode cX4_subtractTimes 59 = .ok (.iload 6, 2) := by decide +kernel
theorem dX4_subtractTimes_61 : decode cX4_subtractTimes 61 = .ok (.iadd, 1) := by decide +kernel
theorem dX4_subtractTimes_62 : decode cX4_subtractTimes 62 = .ok (.lload 7, 2) := by decide +kernel
theorem dX4_subtractTimes_64 : decode cX4_subtractTimes 64 = .ok (.ldc2_w 15, 3) := by decide +kernel
theorem dX4_subtractTimes_67 : decode cX4_subtractTimes 67 = .ok (.land, 1) := by decide +kernel
theorem dX4_subtractTimes_68 : decode cX4_subtractTimes 68 = .ok (.l2i, 1) := by decide +kernel
theorem dX4_subtractTimes_69 : decode cX4_subtractTimes 69 = .ok (.iastore, 1) := by decide +kernel
theorem dX4_subtractTimes_70 : decode cX4_subtractTimes 70 = .ok (.lload 7, 2) := by decide +kernel
theorem dX4_subtractTimes_72 : decode cX4_subtractTimes 72 = .ok (.bipush 31, 2) := by decide +kernel
theorem dX4_subtractTimes_74 : decode cX4_subtractTimes 74 = .ok (.lshr, 1) := by decide +kernel
theorem dX4_subtractTimes_75 : decode cX4_subtractTimes 75 = .ok (.lstore 4, 2) := by decide +kernel
theorem dX4_subtractTimes_77 : decode cX4_subtractTimes 77 = .ok (.iinc 6 1, 3) := by decide +kernel
theorem dX4_subtractTimes_80 : decode cX4_subtractTimes 80 = .ok (.goto (-66), 3) := by decide +kernel
theorem dX4_subtractTimes_83 : decode cX4_subtractTimes 83 = .ok (.aload_n 0, 1) := by decide +kernel
theorem dX4_subtractTimes_84 : decode cX4_subtractTimes 84 = .ok (.getfield 9, 3) := by decide +kernel
theorem dX4_subtractTimes_87 : decode cX4_subtractTimes 87 = .ok (.iload_n 1, 1) := by decide +kernel
theorem dX4_subtractTimes_88 : decode cX4_subtractTimes 88 = .ok (.aload_n 0, 1) := by decide +kernel
theorem dX4_subtractTimes_89 : decode cX4_subtractTimes 89 = .ok (.getfield 38, 3) := by decide +kernel
theorem dX4_subtractTimes_92 : decode cX4_subtractTimes 92 = .ok (.iadd, 1) := by decide +kernel
theorem dX4_subtractTimes_93 : decode cX4_subtractTimes 93 = .ok (.iaload, 1) := by decide +kernel
theorem dX4_subtractTimes_94 : decode cX4_subtractTimes 94 = .ok (.i2l, 1) := by decide +kernel
theorem dX4_subtractTimes_95 : decode cX4_subtractTimes 95 = .ok (.lload 4, 2) := by decide +kernel
theorem dX4_subtractTimes_97 : decode cX4_subtractTimes 97 = .ok (.ladd, 1) := by decide +kernel
theorem dX4_subtractTimes_98 : decode cX4_subtractTimes 98 = .ok (.lstore 6, 2) := by decide +kernel
theorem dX4_subtractTimes_100 : decode cX4_subtractTimes 100 = .ok (.aload_n 0, 1) := by decide +kernel
theorem dX4_subtractTimes_101 : decode cX4_subtractTimes 101 = .ok (.getfield 9, 3) := by decide +kernel
theorem dX4_subtractTimes_104 : decode cX4_subtractTimes 104 = .ok (.iload_n 1, 1) := by decide +kernel
theorem dX4_subtractTimes_105 : decode cX4_subtractTimes 105 = .ok (.aload_n 0, 1) := by decide +kernel
theorem dX4_subtractTimes_106 : decode cX4_subtractTimes 106 = .ok (.getfield 38, 3) := by decide +kernel
theorem dX4_subtractTimes_109 : decode cX4_subtractTimes 109 = .ok (.iadd, 1) := by decide +kernel
theorem dX4_subtractTimes_110 : decode cX4_subtractTimes 110 = .ok (.iconst 0, 1) := by decide +kernel
theorem dX4_subtractTimes_111 : decode cX4_subtractTimes 111 = .ok (.iastore, 1) := by decide +kernel
theorem dX4_subtractTimes_112 : decode cX4_subtractTimes 112 = .ok (.lload 6, 2) := by decide +kernel
theorem dX4_subtractTimes_114 : decode cX4_subtractTimes 114 = .ok (.lconst 0, 1) := by decide +kernel
theorem dX4_subtractTimes_115 : decode cX4_subtractTimes 115 = .ok (.lcmp, 1) := by decide +kernel
theorem dX4_subtractTimes_116 : decode cX4_subtractTimes 116 = .ok (.ifCond .lt 6, 3) := by decide +kernel
theorem dX4_subtractTimes_119 : decode cX4_subtractTimes 119 = .ok (.lload_n 2, 1) := by decide +kernel
theorem dX4_subtractTimes_120 : decode cX4_subtractTimes 120 = .ok (.l2i, 1) := by decide +kernel
theorem dX4_subtractTimes_121 : decode cX4_subtractTimes 121 = .ok (.ireturn, 1) := by decide +kernel
theorem dX4_subtractTimes_122 : decode cX4_subtractTimes 122 = .ok (.lconst 0, 1) := by decide +kernel
theorem dX4_subtractTimes_123 : decode cX4_subtractTimes 123 = .ok (.lstore 4, 2) := by decide +kernel
theorem dX4_subtractTimes_125 : decode cX4_subtractTimes 125 = .ok (.iconst 0, 1) := by decide +kernel
theorem dX4_subtractTimes_126 : decode cX4_subtractTimes 126 = .ok (.istore 8, 2) := by decide +kernel
theorem dX4_subtractTimes_128 : decode cX4_subtractTimes 128 = .ok (.iload 8, 2) := by decide +kernel
theorem dX4_subtractTimes_130 : decode cX4_subtractTimes 130 = .ok (.aload_n 0, 1) := by decide +kernel
theorem dX4_subtractTimes_131 : decode cX4_subtractTimes 131 = .ok (.getfield 38, 3) := by decide +kernel
theorem dX4_subtractTimes_134 : decode cX4_subtractTimes 134 = .ok (.if_icmp .ge 61, 3) := by decide +kernel
theorem dX4_subtractTimes_137 : decode cX4_subtractTimes 137 = .ok (.aload_n 0, 1) := by decide +kernel
theorem dX4_subtractTimes_138 : decode cX4_subtractTimes 138 = .ok (.getfield 9, 3) := by decide +kernel
theorem dX4_subtractTimes_141 : decode cX4_subtractTimes 141 = .ok (.iload_n 1, 1) := by decide +kernel
theorem dX4_subtractTimes_142 : decode cX4_subtractTimes 142 = .ok (.iload 8, 2) := by decide +kernel
theorem dX4_subtractTimes_144 : decode cX4_subtractTimes 144 = .ok (.iadd, 1) := by decide +kernel
theorem dX4_subtractTimes_145 : decode cX4_subtractTimes 145 = .ok (.iaload, 1) := by decide +kernel
theorem dX4_subtractTimes_146 : decode cX4_subtractTimes 146 = .ok (.i2l, 1) := by decide +kernel
theorem dX4_subtractTimes_147 : decode cX4_subtractTimes 147 = .ok (.lload 4, 2) := by decide +kernel
theorem dX4_subtractTimes_149 : decode cX4_subtractTimes 149 = .ok (.ladd, 1) := by decide +kernel
theorem dX4_subtractTimes_150 : decode cX4_subtractTimes 150 = .ok (.aload_n 0, 1) := by decide +kernel
theorem dX4_subtractTimes_151 : decode cX4_subtractTimes 151 = .ok (.getfield 9, 3) := by decide +kernel
theorem dX4_subtractTimes_154 : decode cX4_subtractTimes 154 = .ok (.aload_n 0, 1) := by decide +kernel
theorem dX4_subtractTimes_155 : decode cX4_subtractTimes 155 = .ok (.getfield 53, 3) := by decide +kernel
theorem dX4_subtractTimes_158 : decode cX4_subtractTimes 158 = .ok (.iload 8, 2) := by decide +kernel
theorem dX4_subtractTimes_160 : decode cX4_subtractTimes 160 = .ok (.iadd, 1) := by decide +kernel
theorem dX4_subtractTimes_161 : decode cX4_subtractTimes 161 = .ok (.iaload, 1) := by decide +kernel
theorem dX4_subtractTimes_162 : decode cX4_subtractTimes 162 = .ok (.i2l, 1) := by decide +kernel
theorem dX4_subtractTimes_163 : decode cX4_subtractTimes 163 = .ok (.ladd, 1) := by decide +kernel
theorem dX4_subtractTimes_164 : decode cX4_subtractTimes 164 = .ok (.lstore 9, 2) := by decide +kernel
theorem dX4_subtractTimes_166 : decode cX4_subtractTimes 166 = .ok (.aload_n 0, 1) := by decide +kernel
theorem dX4_subtractTimes_167 : decode cX4_subtractTimes 167 = .ok (.getfield 9, 3) := by decide +kernel
theorem dX4_subtractTimes_170 : decode cX4_subtractTimes 170 = .ok (.iload_n 1, 1) := by decide +kernel
theorem dX4_subtractTimes_171 : decode cX4_subtractTimes 171 = .ok (.iload 8, 2) := by decide +kernel
theorem dX4_subtractTimes_173 : decode cX4_subtractTimes 173 = .ok (.iadd, 1) := by decide +kernel
theorem dX4_subtractTimes_174 : decode cX4_subtractTimes 174 = .ok (.lload 9, 2) := by decide +kernel
theorem dX4_subtractTimes_176 : decode cX4_subtractTimes 176 = .ok (.ldc2_w 15, 3) := by decide +kernel
theorem dX4_subtractTimes_179 : decode cX4_subtractTimes 179 = .ok (.land, 1) := by decide +kernel
theorem dX4_subtractTimes_180 : decode cX4_subtractTimes 180 = .ok (.l2i, 1) := by decide +kernel
theorem dX4_subtractTimes_181 : decode cX4_subtractTimes 181 = .ok (.iastore, 1) := by decide +kernel
theorem dX4_subtractTimes_182 : decode cX4_subtractTimes 182 = .ok (.lload 9, 2) := by decide +kernel
theorem dX4_subtractTimes_184 : decode cX4_subtractTimes 184 = .ok (.bipush 31, 2) := by decide +kernel
theorem dX4_subtractTimes_186 : decode cX4_subtractTimes 186 = .ok (.lshr, 1) := by decide +kernel
theorem dX4_subtractTimes_187 : decode cX4_subtractTimes 187 = .ok (.lstore 4, 2) := by decide +kernel
theorem dX4_subtractTimes_189 : decode cX4_subtractTimes 189 = .ok (.iinc 8 1, 3) := by decide +kernel
theorem dX4_subtractTimes_192 : decode cX4_subtractTimes 192 = .ok (.goto (-64), 3) := by decide +kernel
theorem dX4_subtractTimes_195 : decode cX4_subtractTimes 195 = .ok (.lload_n 2, 1) := by decide +kernel
theorem dX4_subtractTimes_196 : decode cX4_subtractTimes 196 = .ok (.lconst 1, 1) := by decide +kernel
theorem dX4_subtractTimes_197 : decode cX4_subtractTimes 197 = .ok (.lsub, 1) := by decide +kernel
theorem dX4_subtractTimes_198 : decode cX4_subtractTimes 198 = .ok (.l2i, 1) := by decide +kernel
theorem dX4_subtractTimes_199 : decode cX4_subtractTimes 199 = .ok (.ireturn, 1) := by decide +kernel
theorem dX5_init_0 : decode cX5_init 0 = .ok (.aload_n 0, 1) := by decide +kernel
theorem dX5_init_1 : decode cX5_init 1 = .ok (.invokespecial 1, 3) := by decide +kernel
theorem dX5_init_4 : decode cX5_init 4 = .ok (.aload_n 0, 1) := by decide +kernel
theorem dX5_init_5 : decode cX5_init 5 = .ok (.new 7, 3) := by decide +kernel
theorem dX5_init_8 : decode cX5_init 8 = .ok (.dup, 1) := by decide +kernel
theorem dX5_init_9 : decode cX5_init 9 = .ok (.iload_n 1, 1) := by decide +kernel
theorem dX5_init_10 : decode cX5_init 10 = .ok (.iconst 3, 1) := by decide +kernel
theorem dX5_init_11 : decode cX5_init 11 = .ok (.bipush 11, 2) := by decide +kernel
theorem dX5_init_13 : decode cX5_init 13 = .ok (.invokestatic 9, 3) := by decide +kernel
theorem dX5_init_16 : decode cX5_init 16 = .ok (.invokespecial 15, 3) := by decide +kernel
theorem dX5_init_19 : decode cX5_init 19 = .ok (.putfield 18, 3) := by decide +kernel
theorem dX5_init_22 : decode cX5_init 22 = .ok (.aload_n 0, 1) := by decide +kernel
theorem dX5_init_23 : decode cX5_init 23 = .ok (.new 22, 3) := by decide +kernel
theorem dX5_init_26 : decode cX5_init 26 = .ok (.dup, 1) := by decide +kernel
theorem dX5_init_27 : decode cX5_init 27 = .ok (.aload_n 0, 1) := by decide +kernel
theorem dX5_init_28 : decode cX5_init 28 = .ok (.getfield 18, 3) := by decide +kernel
theorem dX5_init_31 : decode cX5_init 31 = .ok (.getfield 24, 3) := by decide +kernel
theorem dX5_init_34 : decode cX5_init 34 = .ok (.invokespecial 28, 3) := by decide +kernel
theorem dX5_init_37 : decode cX5_init 37 = .ok (.putfield 31, 3) := by decide +kernel
theorem dX5_init_40 : decode cX5_init 40 = .ok (.aload_n 0, 1) := by decide +kernel
theorem dX5_init_41 : decode cX5_init 41 = .ok (.iload_n 2, 1) := by decide +kernel
theorem dX5_init_42 : decode cX5_init 42 = .ok (.iconst 1, 1) := by decide +kernel
theorem dX5_init_43 : decode cX5_init 43 = .ok (.bipush 12, 2) := by decide +kernel
theorem dX5_init_45 : decode cX5_init 45 = .ok (.invokestatic 9, 3) := by decide +kernel
theorem dX5_init_48 : decode cX5_init 48 = .ok (.anewarray 35, 3) := by decide +kernel
theorem dX5_init_51 : decode cX5_init 51 = .ok (.putfield 37, 3) := by decide +kernel
theorem dX5_init_54 : decode cX5_init 54 = .ok (.iconst 0, 1) := by decide +kernel
theorem dX5_init_55 : decode cX5_init 55 = .ok (.istore 5, 2) := by decide +kernel
theorem dX5_init_57 : decode cX5_init 57 = .ok (.iload 5, 2) := by decide +kernel
theorem dX5_init_59 : decode cX5_init 59 = .ok (.aload_n 0, 1) := by decide +kernel
theorem dX5_init_60 : decode cX5_init 60 = .ok (.getfield 37, 3) := by decide +kernel
theorem dX5_init_63 : decode cX5_init 63 = .ok (.arraylength, 1) := by decide +kernel
theorem dX5_init_64 : decode cX5_init 64 = .ok (.if_icmp .ge 23, 3) := by decide +kernel
theorem dX5_init_67 : decode cX5_init 67 = .ok (.aload_n 0, 1) := by decide +kernel
theorem dX5_init_68 : decode cX5_init 68 = .ok (.getfield 37, 3) := by decide +kernel
theorem dX5_init_71 : decode cX5_init 71 = .ok (.iload 5, 2) := by decide +kernel
theorem dX5_init_73 : decode cX5_init 73 = .ok (.new 35, 3) := by decide +kernel
theorem dX5_init_76 : decode cX5_init 76 = .ok (.dup, 1) := by decide +kernel
theorem dX5_init_77 : decode cX5_init 77 = .ok (.invokespecial 41, 3) := by decide +kernel
theorem dX5_init_80 : decode cX5_init 80 = .ok (.aastore, 1) := by decide +kernel
theorem dX5_init_81 : decode cX5_init 81 = .ok (.iinc 5 1, 3) := by decide +kernel
theorem dX5_init_84 : decode cX5_init 84 = .ok (.goto (-27), 3) := by decide +kernel
theorem dX5_init_87 : decode cX5_init 87 = .ok (.aload_n 0, 1) := by decide +kernel
theorem dX5_init_88 : decode cX5_init 88 = .ok (.iload_n 3, 1) := by decide +kernel
theorem dX5_init_89 : decode cX5_init 89 = .ok (.iconst 1, 1) := by decide +kernel
theorem dX5_init_90 : decode cX5_init 90 = .ok (.bipush 24, 2) := by decide +kernel
theorem dX5_init_92 : decode cX5_init 92 = .ok (.invokestatic 9, 3) := by decide +kernel
theorem dX5_init_95 : decode cX5_init 95 = .ok (.anewarray 42, 3) := by decide +kernel
theorem dX5_init_98 : decode cX5_init 98 = .ok (.putfield 44, 3) := by decide +kernel
theorem dX5_init_101 : decode cX5_init 101 = .ok (.iconst 0, 1) := by decide +kernel
theorem dX5_init_102 : decode cX5_init 102 = .ok (.istore 5, 2) := by decide +kernel
theorem dX5_init_104 : decode cX5_init 104 = .ok (.iload 5, 2) := by decide +kernel
theorem dX5_init_106 : decode cX5_init 106 = .ok (.aload_n 0, 1) := by decide +kernel
theorem dX5_init_107 : decode cX5_init 107 = .ok (.getfield 44, 3) := by decide +kernel
theorem dX5_init_110 : decode cX5_init 110 = .ok (.arraylength, 1) := by decide +kernel
theorem dX5_init_111 : decode cX5_init 111 = .ok (.if_icmp .ge 23, 3) := by decide +kernel
theorem dX5_init_114 : decode cX5_init 114 = .ok (.aload_n 0, 1) := by decide +kernel
theorem dX5_init_115 : decode cX5_init 115 = .ok (.getfield 44, 3) := by decide +kernel
theorem dX5_init_118 : decode cX5_init 118 = .ok (.iload 5, 2) := by decide +kernel
theorem dX5_init_120 : decode cX5_init 120 = .ok (.new 42, 3) := by decide +kernel
theorem dX5_init_123 : decode cX5_init 123 = .ok (.dup, 1) := by decide +kernel
theorem dX5_init_124 : decode cX5_init 124 = .ok (.invokespecial 48, 3) := by decide +kernel
theorem dX5_init_127 : decode cX5_init 127 = .ok (.aastore, 1) := by decide +kernel
theorem dX5_init_128 : decode cX5_init 128 = .ok (.iinc 5 1, 3) := by decide +kernel
theorem dX5_init_131 : decode cX5_init 131 = .ok (.goto (-27), 3) := by decide +kernel
theorem dX5_init_134 : decode cX5_init 134 = .ok (.aload_n 0, 1) := by decide +kernel
theorem dX5_init_135 : decode cX5_init 135 = .ok (.new 49, 3) := by decide +kernel
theorem dX5_init_138 : decode cX5_init 138 = .ok (.dup, 1) := by decide +kernel
theorem dX5_init_139 : decode cX5_init 139 = .ok (.aload_n 0, 1) := by decide +kernel
theorem dX5_init_140 : decode cX5_init 140 = .ok (.getfield 37, 3) := by decide +kernel
theorem dX5_init_143 : decode cX5_init 143 = .ok (.arraylength, 1) := by decide +kernel
theorem dX5_init_144 : decode cX5_init 144 = .ok (.invokespecial 51, 3) := by decide +kernel
theorem dX5_init_147 : decode cX5_init 147 = .ok (.putfield 52, 3) := by decide +kernel
theorem dX5_init_150 : decode cX5_init 150 = .ok (.aload_n 0, 1) := by decide +kernel
theorem dX5_init_151 : decode cX5_init 151 = .ok (.iload 4, 2) := by decide +kernel
theorem dX5_init_153 : decode cX5_init 153 = .ok (.iconst 1, 1) := by decide +kernel
theorem dX5_init_154 : decode cX5_init 154 = .ok (.sipush 2000, 3) := by decide +kernel
theorem dX5_init_157 : decode cX5_init 157 = .ok (.invokestatic 9, 3) := by decide +kernel
theorem dX5_init_160 : decode cX5_init 160 = .ok (.putfield 56, 3) := by decide +kernel
theorem dX5_init_163 : decode cX5_init 163 = .ok (.return_, 1) := by decide +kernel
theorem dX5_init__0 : decode cX5_init_ 0 = .ok (.aload_n 0, 1) := by decide +kernel
theorem dX5_init__1 : decode cX5_init_ 1 = .ok (.getfield 60, 3) := by decide +kernel
theorem dX5_init__4 : decode cX5_init_ 4 = .ok (.aload_n 0, 1) := by decide +kernel
theorem dX5_init__5 : decode cX5_init_ 5 = .ok (.getfield 63, 3) := by decide +kernel
theorem dX5_init__8 : decode cX5_init_ 8 = .ok (.iadd, 1) := by decide +kernel
theorem dX5_init__9 : decode cX5_init_ 9 = .ok (.istore_n 1, 1) := by decide +kernel
theorem dX5_init__10 : decode cX5_init_ 10 = .ok (.aload_n 0, 1) := by decide +kernel
theorem dX5_init__11 : decode cX5_init_ 11 = .ok (.getfield 18, 3) := by decide +kernel
theorem dX5_init__14 : decode cX5_init_ 14 = .ok (.invokevirtual 66, 3) := by decide +kernel
theorem dX5_init__17 : decode cX5_init_ 17 = .ok (.aload_n 0, 1) := by decide +kernel
theorem dX5_init__18 : decode cX5_init_ 18 = .ok (.getfield 52, 3) := by decide +kernel
theorem dX5_init__21 : decode cX5_init_ 21 = .ok (.invokevirtual 69, 3) := by decide +kernel
theorem dX5_init__24 : decode cX5_init_ 24 = .ok (.iconst 0, 1) := by decide +kernel
theorem dX5_init__25 : decode cX5_init_ 25 = .ok (.istore_n 2, 1) := by decide +kernel
theorem dX5_init__26 : decode cX5_init_ 26 = .ok (.iload_n 2, 1) := by decide +kernel
theorem dX5_init__27 : decode cX5_init_ 27 = .ok (.aload_n 0, 1) := by decide +kernel
theorem dX5_init__28 : decode cX5_init_ 28 = .ok (.getfield 44, 3) := by decide +kernel
theorem dX5_init__31 : decode cX5_init_ 31 = .ok (.arraylength, 1) := by decide +kernel
theorem dX5_init__32 : decode cX5_init_ 32 = .ok (.if_icmp .ge 19, 3) := by decide +kernel
theorem dX5_init__35 : decode cX5_init_ 35 = .ok (.aload_n 0, 1) := by decide +kernel
theorem dX5_init__36 : decode cX5_init_ 36 = .ok (.getfield 44, 3) := by decide +kernel
theorem dX5_init__39 : decode cX5_init_ 39 = .ok (.iload_n 2, 1) := by decide +kernel
theorem dX5_init__40 : decode cX5_init_ 40 = .ok (.aaload, 1) := by decide +kernel
theorem dX5_init__41 : decode cX5_init_ 41 = .ok (.iconst 0, 1) := by decide +kernel
theorem dX5_init__42 : decode cX5_init_ 42 = .ok (.putfield 70, 3) := by decide +kernel
theorem dX5_init__45 : decode cX5_init_ 45 = .ok (.iinc 2 1, 3) := by decide +kernel
theorem dX5_init__48 : decode cX5_init_ 48 = .ok (.goto (-22), 3) := by decide +kernel
theorem dX5_init__51 : decode cX5_init_ 51 = .ok (.iconst 0, 1) := by decide +kernel
theorem dX5_init__52 : decode cX5_init_ 52 = .ok (.istore_n 2, 1) := by decide +kernel
theorem dX5_init__53 : decode cX5_init_ 53 = .ok (.iload_n 2, 1) := by decide +kernel
theorem dX5_init__54 : decode cX5_init_ 54 = .ok (.aload_n 0, 1) := by decide +kernel
theorem dX5_init__55 : decode cX5_init_ 55 = .ok (.getfield 37, 3) := by decide +kernel
theorem dX5_init__58 : decode cX5_init_ 58 = .ok (.arraylength, 1) := by decide +kernel
theorem dX5_init__59 : decode cX5_init_ 59 = .ok (.if_icmp .ge 18, 3) := by decide +kernel
theorem dX5_init__62 : decode cX5_init_ 62 = .ok (.aload_n 0, 1) := by decide +kernel
theorem dX5_init__63 : decode cX5_init_ 63 = .ok (.getfield 37, 3) := by decide +kernel
theorem dX5_init__66 : decode cX5_init_ 66 = .ok (.iload_n 2, 1) := by decide +kernel
theorem dX5_init__67 : decode cX5_init_ 67 = .ok (.aaload, 1) := by decide +kernel
theorem dX5_init__68 : decode cX5_init_ 68 = .ok (.invokevirtual 74, 3) := by decide +kernel
theorem dX5_init__71 : decode cX5_init_ 71 = .ok (.iinc 2 1, 3) := by decide +kernel
theorem dX5_init__74 : decode cX5_init_ 74 = .ok (.goto (-21), 3) := by decide +kernel
theorem dX5_init__77 : decode cX5_init_ 77 = .ok (.aload_n 0, 1) := by decide +kernel
theorem dX5_init__78 : decode cX5_init_ 78 = .ok (.iconst 0, 1) := by decide +kernel
theorem dX5_init__79 : decode cX5_init_ 79 = .ok (.putfield 63, 3) := by decide +kernel
theorem dX5_init__82 : decode cX5_init_ 82 = .ok (.aload_n 0, 1) := by decide +kernel
theorem dX5_init__83 : decode cX5_init_ 83 = .ok (.iconst 0, 1) := by decide +kernel
theorem dX5_init__84 : decode cX5_init_ 84 = .ok (.putfield 60, 3) := by decide +kernel
theorem dX5_init__87 : decode cX5_init_ 87 = .ok (.aload_n 0, 1) := by decide +kernel
theorem dX5_init__88 : decode cX5_init_ 88 = .ok (.iconst 0, 1) := by decide +kernel
theorem dX5_init__89 : decode cX5_init_ 89 = .ok (.putfield 75, 3) := by decide +kernel
theorem dX5_init__92 : decode cX5_init_ 92 = .ok (.iload_n 1, 1) := by decide +kernel
theorem dX5_init__93 : decode cX5_init_ 93 = .ok (.ireturn, 1) := by decide +kernel
theorem dX5_newNumber_0 : decode cX5_newNumber 0 = .ok (.iload_n 1, 1) := by decide +kernel
theorem dX5_newNumber_1 : decode cX5_newNumber 1 = .ok (.iconst 1, 1) := by decide +kernel
theorem dX5_newNumber_2 : decode cX5_newNumber 2 = .ok (.if_icmp .lt 15, 3) := by decide +kernel
theorem dX5_newNumber_5 : decode cX5_newNumber 5 = .ok (.iload_n 1, 1) := by decide +kernel
theorem dX5_newNumber_6 : decode cX5_newNumber 6 = .ok (.aload_n 0, 1) := by decide +kernel
theorem dX5_newNumber_7 : decode cX5_newNumber 7 = .ok (.getfield 18, 3) := by decide +kernel
theorem dX5_newNumber_10 : decode cX5_newNumber 10 = .ok (.getfield 24, 3) := by decide +kernel
theorem dX5_newNumber_13 : decode cX5_newNumber 13 = .ok (.arraylength, 1) := by decide +kernel
theorem dX5_newNumber_14 : decode cX5_newNumber 14 = .ok (.if_icmp .le 6, 3) := by decide +kernel
theorem dX5_newNumber_17 : decode cX5_newNumber 17 = .ok (.bipush (-2), 2) := by decide +kernel
theorem dX5_newNumber_19 : decode cX5_newNumber 19 = .ok (.ireturn, 1) := by decide +kernel
theorem dX5_newNumber_20 : decode cX5_newNumber 20 = .ok (.aload_n 0, 1) := by decide +kernel
theorem dX5_newNumber_21 : decode cX5_newNumber 21 = .ok (.invokevirtual 78, 3) := by decide +kernel
theorem dX5_newNumber_24 : decode cX5_newNumber 24 = .ok (.istore_n 2, 1) := by decide +kernel
theorem dX5_newNumber_25 : decode cX5_newNumber 25 = .ok (.iload_n 2, 1) := by decide +kernel
theorem dX5_newNumber_26 : decode cX5_newNumber 26 = .ok (.iconst (-1), 1) := by decide +kernel
theorem dX5_newNumber_27 : decode cX5_newNumber 27 = .ok (.if_icmp .ne 6, 3) := by decide +kernel
theorem dX5_newNumber_30 : decode cX5_newNumber 30 = .ok (.bipush (-3), 2) := by decide +kernel
theorem dX5_newNumber_32 : decode cX5_newNumber 32 = .ok (.ireturn, 1) := by decide +kernel
theorem dX5_newNumber_33 : decode cX5_newNumber 33 = .ok (.iload_n 1, 1) := by decide +kernel
theorem dX5_newNumber_34 : decode cX5_newNumber 34 = .ok (.i2l, 1) := by decide +kernel
theorem dX5_newNumber_35 : decode cX5_newNumber 35 = .ok (.invokestatic 82, 3) := by decide +kernel
theorem dX5_newNumber_38 : decode cX5_newNumber 38 = .ok (.istore_n 3, 1) := by decide +kernel
theorem dX5_newNumber_39 : decode cX5_newNumber 39 = .ok (.aload_n 0, 1) := by decide +kernel
theorem dX5_newNumber_40 : decode cX5_newNumber 40 = .ok (.getfield 18, 3) := by decide +kernel
theorem dX5_newNumber_43 : decode cX5_newNumber 43 = .ok (.iload_n 3, 1) := by decide +kernel
theorem dX5_newNumber_44 : decode cX5_newNumber 44 = .ok (.invokevirtual 86, 3) := by decide +kernel
theorem dX5_newNumber_47 : decode cX5_newNumber 47 = .ok (.istore 4, 2) := by decide +kernel
theorem dX5_newNumber_49 : decode cX5_newNumber 49 = .ok (.iload 4, 2) := by decide +kernel
theorem dX5_newNumber_51 : decode cX5_newNumber 51 = .ok (.iconst (-1), 1) := by decide +kernel
theorem dX5_newNumber_52 : decode cX5_newNumber 52 = .ok (.if_icmp .ne 6, 3) := by decide +kernel
theorem dX5_newNumber_55 : decode cX5_newNumber 55 = .ok (.bipush (-4), 2) := by decide +kernel
theorem dX5_newNumber_57 : decode cX5_newNumber 57 = .ok (.ireturn, 1) := by decide +kernel
theorem dX5_newNumber_58 : decode cX5_newNumber 58 = .ok (.aload_n 0, 1) := by decide +kernel
theorem dX5_newNumber_59 : decode cX5_newNumber 59 = .ok (.iload_n 2, 1) := by decide +kernel
theorem dX5_newNumber_60 : decode cX5_newNumber 60 = .ok (.iload_n 1, 1) := by decide +kernel
theorem dX5_newNumber_61 : decode cX5_newNumber 61 = .ok (.iload_n 3, 1) := by decide +kernel
theorem dX5_newNumber_62 : decode cX5_newNumber 62 = .ok (.iload 4, 2) := by decide +kernel
theorem dX5_newNumber_64 : decode cX5_newNumber 64 = .ok (.invokevirtual 90, 3) := by decide +kernel
theorem dX5_newNumber_67 : decode cX5_newNumber 67 = .ok (.iload_n 2, 1) := by decide +kernel
theorem dX5_newNumber_68 : decode cX5_newNumber 68 = .ok (.ireturn, 1) := by decide +kernel
theorem dX5_setLimb_0 : decode cX5_setLimb 0 = .ok (.aload_n 0, 1) := by decide +kernel
theorem dX5_setLimb_1 : decode cX5_setLimb 1 = .ok (.iload_n 1, 1) := by decide +kernel
theorem dX5_setLimb_2 : decode cX5_setLimb 2 = .ok (.invokevirtual 94, 3) := by decide +kernel
theorem dX5_setLimb_5 : decode cX5_setLimb 5 = .ok (.ifCond .eq 32, 3) := by decide +kernel
theorem dX5_setLimb_8 : decode cX5_setLimb 8 = .ok (.aload_n 0, 1) := by decide +kernel
theorem dX5_setLimb_9 : decode cX5_setLimb 9 = .ok (.getfield 44, 3) := by decide +kernel
theorem dX5_setLimb_12 : decode cX5_setLimb 12 = .ok (.iload_n 1, 1) := by decide +kernel
theorem dX5_setLimb_13 : decode cX5_setLimb 13 = .ok (.aaload, 1) := by decide +kernel
theorem dX5_setLimb_14 : decode cX5_setLimb 14 = .ok (.getfield 98, 3) := by decide +kernel
theorem dX5_setLimb_17 : decode cX5_setLimb 17 = .ok (.ifCond .gt 20, 3) := by decide +kernel
theorem dX5_setLimb_20 : decode cX5_setLimb 20 = .ok (.aload_n 0, 1) := by decide +kernel
theorem dX5_setLimb_21 : decode cX5_setLimb 21 = .ok (.getfield 44, 3) := by decide +kernel
theorem dX5_setLimb_24 : decode cX5_setLimb 24 = .ok (.iload_n 1, 1) := by decide +kernel
theorem dX5_setLimb_25 : decode cX5_setLimb 25 = .ok (.aaload, 1) := by decide +kernel
theorem dX5_setLimb_26 : decode cX5_setLimb 26 = .ok (.iload_n 2, 1) := by decide +kernel
theorem dX5_setLimb_27 : decode cX5_setLimb 27 = .ok (.invokevirtual 101, 3) := by decide +kernel
theorem dX5_setLimb_30 : decode cX5_setLimb 30 = .ok (.ifCond .eq 7, 3) := by decide +kernel
theorem dX5_setLimb_33 : decode cX5_setLimb 33 = .ok (.iload_n 3, 1) := by decide +kernel
theorem dX5_setLimb_34 : decode cX5_setLimb 34 = .ok (.ifCond .ge 5, 3) := by decide +kernel
theorem dX5_setLimb_37 : decode cX5_setLimb 37 = .ok (.iconst 0, 1) := by decide +kernel
theorem dX5_setLimb_38 : decode cX5_setLimb 38 = .ok (.ireturn, 1) := by decide +kernel
theorem dX5_setLimb_39 : decode cX5_setLimb 39 = .ok (.aload_n 0, 1) := by decide +kernel
theorem dX5_setLimb_40 : decode cX5_setLimb 40 = .ok (.getfield 18, 3) := by decide +kernel
theorem dX5_setLimb_43 : decode cX5_setLimb 43 = .ok (.getfield 24, 3) := by decide +kernel
theorem dX5_setLimb_46 : decode cX5_setLimb 46 = .ok (.aload_n 0, 1) := by decide +kernel
theorem dX5_setLimb_47 : decode cX5_setLimb 47 = .ok (.getfield 44, 3) := by decide +kernel
theorem dX5_setLimb_50 : decode cX5_setLimb 50 = .ok (.iload_n 1, 1) := by decide +kernel
theorem dX5_setLimb_51 : decode cX5_setLimb 51 = .ok (.aaload, 1) := by decide +kernel
theorem dX5_setLimb_52 : decode cX5_setLimb 52 = .ok (.getfield 104, 3) := by decide +kernel
theorem dX5_setLimb_55 : decode cX5_setLimb 55 = .ok (.iload_n 2, 1) := by decide +kernel
theorem dX5_setLimb_56 : decode cX5_setLimb 56 = .ok (.iadd, 1) := by decide +kernel
theorem dX5_setLimb_57 : decode cX5_setLimb 57 = .ok (.iload_n 3, 1) := by decide +kernel
theorem dX5_setLimb_58 : decode cX5_setLimb 58 = .ok (.iastore, 1) := by decide +kernel
theorem dX5_setLimb_59 : decode cX5_setLimb 59 = .ok (.iconst 1, 1) := by decide +kernel
theorem dX5_setLimb_60 : decode cX5_setLimb 60 = .ok (.ireturn, 1) := by decide +kernel
theorem dX5_getLimb_0 : decode cX5_getLimb 0 = .ok (.aload_n 0, 1) := by decide +kernel
theorem dX5_getLimb_1 : decode cX5_getLimb 1 = .ok (.iload_n 1, 1) := by decide +kernel
theorem dX5_getLimb_2 : decode cX5_getLimb 2 = .ok (.invokevirtual 107, 3) := by decide +kernel
theorem dX5_getLimb_5 : decode cX5_getLimb 5 = .ok (.ifCond .eq 16, 3) := by decide +kernel
theorem dX5_getLimb_8 : decode cX5_getLimb 8 = .ok (.aload_n 0, 1) := by decide +kernel
theorem dX5_getLimb_9 : decode cX5_getLimb 9 = .ok (.getfield 44, 3) := by decide +kernel
theorem dX5_getLimb_12 : decode cX5_getLimb 12 = .ok (.iload_n 1, 1) := by decide +kernel
theorem dX5_getLimb_13 : decode cX5_getLimb 13 = .ok (.aaload, 1) := by decide +kernel
theorem dX5_getLimb_14 : decode cX5_getLimb 14 = .ok (.iload_n 2, 1) := by decide +kernel
theorem dX5_getLimb_15 : decode cX5_getLimb 15 = .ok (.invokevirtual 101, 3) := by decide +kernel
theorem dX5_getLimb_18 : decode cX5_getLimb 18 = .ok (.ifCond .ne 5, 3) := by decide +kernel
theorem dX5_getLimb_21 : decode cX5_getLimb 21 = .ok (.iconst (-1), 1) := by decide +kernel
theorem dX5_getLimb_22 : decode cX5_getLimb 22 = .ok (.ireturn, 1) := by decide +kernel
theorem dX5_getLimb_23 : decode cX5_getLimb 23 = .ok (.aload_n 0, 1) := by decide +kernel
theorem dX5_getLimb_24 : decode cX5_getLimb 24 = .ok (.getfield 18, 3) := by decide +kernel
theorem dX5_getLimb_27 : decode cX5_getLimb 27 = .ok (.getfield 24, 3) := by decide +kernel
theorem dX5_getLimb_30 : decode cX5_getLimb 30 = .ok (.aload_n 0, 1) := by decide +kernel
theorem dX5_getLimb_31 : decode cX5_getLimb 31 = .ok (.getfield 44, 3) := by decide +kernel
theorem dX5_getLimb_34 : decode cX5_getLimb 34 = .ok (.iload_n 1, 1) := by decide +kernel
theorem dX5_getLimb_35 : decode cX5_getLimb 35 = .ok (.aaload, 1) := by decide +kernel
theorem dX5_getLimb_36 : decode cX5_getLimb 36 = .ok (.getfield 104, 3) := by decide +kernel
theorem dX5_getLimb_39 : decode cX5_getLimb 39 = .ok (.iload_n 2, 1) := by decide +kernel
theorem dX5_getLimb_40 : decode cX5_getLimb 40 = .ok (.iadd, 1) := by decide +kernel
theorem dX5_getLimb_41 : decode cX5_getLimb 41 = .ok (.iaload, 1) := by decide +kernel
theorem dX5_getLimb_42 : decode cX5_getLimb 42 = .ok (.ireturn, 1) := by decide +kernel
theorem dX5_sizeOf_0 : decode cX5_sizeOf 0 = .ok (.aload_n 0, 1) := by decide +kernel
theorem dX5_sizeOf_1 : decode cX5_sizeOf 1 = .ok (.iload_n 1, 1) := by decide +kernel
theorem dX5_sizeOf_2 : decode cX5_sizeOf 2 = .ok (.invokevirtual 94, 3) := by decide +kernel
theorem dX5_sizeOf_5 : decode cX5_sizeOf 5 = .ok (.ifCond .eq 15, 3) := by decide +kernel
theorem dX5_sizeOf_8 : decode cX5_sizeOf 8 = .ok (.aload_n 0, 1) := by decide +kernel
theorem dX5_sizeOf_9 : decode cX5_sizeOf 9 = .ok (.getfield 44, 3) := by decide +kernel
theorem dX5_sizeOf_12 : decode cX5_sizeOf 12 = .ok (.iload_n 1, 1) := by decide +kernel
theorem dX5_sizeOf_13 : decode cX5_sizeOf 13 = .ok (.aaload, 1) := by decide +kernel
theorem dX5_sizeOf_14 : decode cX5_sizeOf 14 = .ok (.getfield 110, 3) := by decide +kernel
theorem dX5_sizeOf_17 : decode cX5_sizeOf 17 = .ok (.goto 4, 3) := by decide +kernel
theorem dX5_sizeOf_20 : decode cX5_sizeOf 20 = .ok (.iconst (-1), 1) := by decide +kernel
theorem dX5_sizeOf_21 : decode cX5_sizeOf 21 = .ok (.ireturn, 1) := by decide +kernel
theorem dX5_release_0 : decode cX5_release 0 = .ok (.aload_n 0, 1) := by decide +kernel
theorem dX5_release_1 : decode cX5_release 1 = .ok (.iload_n 1, 1) := by decide +kernel
theorem dX5_release_2 : decode cX5_release 2 = .ok (.invokevirtual 94, 3) := by decide +kernel
theorem dX5_release_5 : decode cX5_release 5 = .ok (.ifCond .eq 15, 3) := by decide +kernel
theorem dX5_release_8 : decode cX5_release 8 = .ok (.aload_n 0, 1) := by decide +kernel
theorem dX5_release_9 : decode cX5_release 9 = .ok (.getfield 44, 3) := by decide +kernel
theorem dX5_release_12 : decode cX5_release 12 = .ok (.iload_n 1, 1) := by decide +kernel
theorem dX5_release_13 : decode cX5_release 13 = .ok (.aaload, 1) := by decide +kernel
theorem dX5_release_14 : decode cX5_release 14 = .ok (.getfield 98, 3) := by decide +kernel
theorem dX5_release_17 : decode cX5_release 17 = .ok (.ifCond .le 5, 3) := by decide +kernel
theorem dX5_release_20 : decode cX5_release 20 = .ok (.iconst 0, 1) := by decide +kernel
theorem dX5_release_21 : decode cX5_release 21 = .ok (.ireturn, 1) := by decide +kernel
theorem dX5_release_22 : decode cX5_release 22 = .ok (.iconst 0, 1) := by decide +kernel
theorem dX5_release_23 : decode cX5_release 23 = .ok (.istore_n 2, 1) := by decide +kernel
theorem dX5_release_24 : decode cX5_release 24 = .ok (.iload_n 2, 1) := by decide +kernel
theorem dX5_release_25 : decode cX5_release 25 = .ok (.aload_n 0, 1) := by decide +kernel
theorem dX5_release_26 : decode cX5_release 26 = .ok (.getfield 37, 3) := by decide +kernel
theorem dX5_release_29 : decode cX5_release 29 = .ok (.arraylength, 1) := by decide +kernel
theorem dX5_release_30 : decode cX5_release 30 = .ok (.if_icmp .ge 32, 3) := by decide +kernel
theorem dX5_release_33 : decode cX5_release 33 = .ok (.aload_n 0, 1) := by decide +kernel
theorem dX5_release_34 : decode cX5_release 34 = .ok (.getfield 37, 3) := by decide +kernel
theorem dX5_release_37 : decode cX5_release 37 = .ok (.iload_n 2, 1) := by decide +kernel
theorem dX5_release_38 : decode cX5_release 38 = .ok (.aaload, 1) := by decide +kernel
theorem dX5_release_39 : decode cX5_release 39 = .ok (.getfield 113, 3) := by decide +kernel
theorem dX5_release_42 : decode cX5_release 42 = .ok (.iload_n 1, 1) := by decide +kernel
theorem dX5_release_43 : decode cX5_release 43 = .ok (.if_icmp .ne 13, 3) := by decide +kernel
theorem dX5_release_46 : decode cX5_release 46 = .ok (.aload_n 0, 1) := by decide +kernel
theorem dX5_release_47 : decode cX5_release 47 = .ok (.getfield 37, 3) := by decide +kernel
theorem dX5_release_50 : decode cX5_release 50 = .ok (.iload_n 2, 1) := by decide +kernel
theorem dX5_release_51 : decode cX5_release 51 = .ok (.aaload, 1) := by decide +kernel
theorem dX5_release_52 : decode cX5_release 52 = .ok (.iconst (-1), 1) := by decide +kernel
theorem dX5_release_53 : decode cX5_release 53 = .ok (.putfield 113, 3) := by decide +kernel
theorem dX5_release_56 : decode cX5_release 56 = .ok (.iinc 2 1, 3) := by decide +kernel
theorem dX5_release_59 : decode cX5_release 59 = .ok (.goto (-35), 3) := by decide +kernel
theorem dX5_release_62 : decode cX5_release 62 = .ok (.aload_n 0, 1) := by decide +kernel
theorem dX5_release_63 : decode cX5_release 63 = .ok (.iload_n 1, 1) := by decide +kernel
theorem dX5_release_64 : decode cX5_release 64 = .ok (.invokevirtual 116, 3) := by decide +kernel
theorem dX5_release_67 : decode cX5_release 67 = .ok (.iconst 1, 1) := by decide +kernel
theorem dX5_release_68 : decode cX5_release 68 = .ok (.ireturn, 1) := by decide +kernel
theorem dX5_submit_0 : decode cX5_submit 0 = .ok (.iload_n 1, 1) := by decide +kernel
theorem dX5_submit_1 : decode cX5_submit 1 = .ok (.ifCond .lt 8, 3) := by decide +kernel
theorem dX5_submit_4 : decode cX5_submit 4 = .ok (.iload_n 1, 1) := by decide +kernel
theorem dX5_submit_5 : decode cX5_submit 5 = .ok (.iconst 3, 1) := by decide +kernel
theorem dX5_submit_6 : decode cX5_submit 6 = .ok (.if_icmp .le 6, 3) := by decide +kernel
theorem dX5_submit_9 : decode cX5_submit 9 = .ok (.bipush (-5), 2) := by decide +kernel
theorem dX5_submit_11 : decode cX5_submit 11 = .ok (.ireturn, 1) := by decide +kernel
theorem dX5_submit_12 : decode cX5_submit 12 = .ok (.aload_n 0, 1) := by decide +kernel
theorem dX5_submit_13 : decode cX5_submit 13 = .ok (.iload_n 2, 1) := by decide +kernel
theorem dX5_submit_14 : decode cX5_submit 14 = .ok (.invokevirtual 107, 3) := by decide +kernel
theorem dX5_submit_17 : decode cX5_submit 17 = .ok (.ifCond .eq 25, 3) := by decide +kernel
theorem dX5_submit_20 : decode cX5_submit 20 = .ok (.aload_n 0, 1) := by decide +kernel
theorem dX5_submit_21 : decode cX5_submit 21 = .ok (.iload_n 3, 1) := by decide +kernel
theorem dX5_submit_22 : decode cX5_submit 22 = .ok (.invokevirtual 107, 3) := by decide +kernel
theorem dX5_submit_25 : decode cX5_submit 25 = .ok (.ifCond .eq 17, 3) := by decide +kernel
theorem dX5_submit_28 : decode cX5_submit 28 = .ok (.iload_n 1, 1) := by decide +kernel
theorem dX5_submit_29 : decode cX5_submit 29 = .ok (.iconst 3, 1) := by decide +kernel
theorem dX5_submit_30 : decode cX5_submit 30 = .ok (.if_icmp .ne 15, 3) := by decide +kernel
theorem dX5_submit_33 : decode cX5_submit 33 = .ok (.aload_n 0, 1) := by decide +kernel
theorem dX5_submit_34 : decode cX5_submit 34 = .ok (.iload 4, 2) := by decide +kernel
theorem dX5_submit_36 : decode cX5_submit 36 = .ok (.invokevirtual 107, 3) := by decide +kernel
theorem dX5_submit_39 : decode cX5_submit 39 = .ok (.ifCond .ne 6, 3) := by decide +kernel
theorem dX5_submit_42 : decode cX5_submit 42 = .ok (.bipush (-6), 2) := by decide +kernel
theorem dX5_submit_44 : decode cX5_submit 44 = .ok (.ireturn, 1) := by decide +kernel
theorem dX5_submit_45 : decode cX5_submit 45 = .ok (.iload_n 1, 1) := by decide +kernel
theorem dX5_submit_46 : decode cX5_submit 46 = .ok (.iconst 1, 1) := by decide +kernel
theorem dX5_submit_47 : decode cX5_submit 47 = .ok (.if_icmp .ne 11, 3) := by decide +kernel
theorem dX5_submit_50 : decode cX5_submit 50 = .ok (.aload_n 0, 1) := by decide +kernel
theorem dX5_submit_51 : decode cX5_submit 51 = .ok (.iload_n 3, 1) := by decide +kernel
theorem dX5_submit_52 : decode cX5_submit 52 = .ok (.invokevirtual 119, 3) := by decide +kernel
theorem dX5_submit_55 : decode cX5_submit 55 = .ok (.ifCond .ne 17, 3) := by decide +kernel
theorem dX5_submit_58 : decode cX5_submit 58 = .ok (.iload_n 1, 1) := by decide +kernel
theorem dX5_submit_59 : decode cX5_submit 59 = .ok (.iconst 3, 1) := by decide +kernel
theorem dX5_submit_60 : decode cX5_submit 60 = .ok (.if_icmp .ne 15, 3) := by decide +kernel
theorem dX5_submit_63 : decode cX5_submit 63 = .ok (.aload_n 0, 1) := by decide +kernel
theorem dX5_submit_64 : decode cX5_submit 64 = .ok (.iload 4, 2) := by decide +kernel
theorem dX5_submit_66 : decode cX5_submit 66 = .ok (.invokevirtual 119, 3) := by decide +kernel
theorem dX5_submit_69 : decode cX5_submit 69 = .ok (.ifCond .eq 6, 3) := by decide +kernel
theorem dX5_submit_72 : decode cX5_submit 72 = .ok (.bipush (-7), 2) := by decide +kernel
theorem dX5_submit_74 : decode cX5_submit 74 = .ok (.ireturn, 1) := by decide +kernel
theorem dX5_submit_75 : decode cX5_submit 75 = .ok (.aload_n 0, 1) := by decide +kernel
theorem dX5_submit_76 : decode cX5_submit 76 = .ok (.invokevirtual 122, 3) := by decide +kernel
theorem dX5_submit_79 : decode cX5_submit 79 = .ok (.istore 5, 2) := by decide +kernel
theorem dX5_submit_81 : decode cX5_submit 81 = .ok (.iload 5, 2) := by decide +kernel
theorem dX5_submit_83 : decode cX5_submit 83 = .ok (.iconst (-1), 1) := by decide +kernel
theorem dX5_submit_84 : decode cX5_submit 84 = .ok (.if_icmp .ne 6, 3) := by decide +kernel
theorem dX5_submit_87 : decode cX5_submit 87 = .ok (.bipush (-8), 2) := by decide +kernel
theorem dX5_submit_89 : decode cX5_submit 89 = .ok (.ireturn, 1) := by decide +kernel
theorem dX5_submit_90 : decode cX5_submit 90 = .ok (.aload_n 0, 1) := by decide +kernel
theorem dX5_submit_91 : decode cX5_submit 91 = .ok (.getfield 37, 3) := by decide +kernel
theorem dX5_submit_94 : decode cX5_submit 94 = .ok (.iload 5, 2) := by decide +kernel
theorem dX5_submit_96 : decode cX5_submit 96 = .ok (.aaload, 1) := by decide +kernel
theorem dX5_submit_97 : decode cX5_submit 97 = .ok (.astore 6, 2) := by decide +kernel
theorem dX5_submit_99 : decode cX5_submit 99 = .ok (.aload 6, 2) := by decide +kernel
theorem dX5_submit_101 : decode cX5_submit 101 = .ok (.iload_n 1, 1) := by decide +kernel
theorem dX5_submit_102 : decode cX5_submit 102 = .ok (.putfield 125, 3) := by decide +kernel
theorem dX5_submit_105 : decode cX5_submit 105 = .ok (.aload 6, 2) := by decide +kernel
theorem dX5_submit_107 : decode cX5_submit 107 = .ok (.iload_n 2, 1) := by decide +kernel
theorem dX5_submit_108 : decode cX5_submit 108 = .ok (.putfield 128, 3) := by decide +kernel
theorem dX5_submit_111 : decode cX5_submit 111 = .ok (.aload 6, 2) := by decide +kernel
theorem dX5_submit_113 : decode cX5_submit 113 = .ok (.iload_n 3, 1) := by decide +kernel
theorem dX5_submit_114 : decode cX5_submit 114 = .ok (.putfield 131, 3) := by decide +kernel
theorem dX5_submit_117 : decode cX5_submit 117 = .ok (.aload 6, 2) := by decide +kernel
theorem dX5_submit_119 : decode cX5_submit 119 = .ok (.iload_n 1, 1) := by decide +kernel
theorem dX5_submit_120 : decode cX5_submit 120 = .ok (.iconst 3, 1) := by decide +kernel
theorem dX5_submit_121 : decode cX5_submit 121 = .ok (.if_icmp .ne 8, 3) := by decide +kernel
theorem dX5_submit_124 : decode cX5_submit 124 = .ok (.iload 4, 2) := by decide +kernel
theorem dX5_submit_126 : decode cX5_submit 126 = .ok (.goto 4, 3) := by decide +kernel
theorem dX5_submit_129 : decode cX5_submit 129 = .ok (.iconst (-1), 1) := by decide +kernel
theorem dX5_submit_130 : decode cX5_submit 130 = .ok (.putfield 134, 3) := by decide +kernel
theorem dX5_submit_133 : decode cX5_submit 133 = .ok (.aload 6, 2) := by decide +kernel
theorem dX5_submit_135 : decode cX5_submit 135 = .ok (.aload_n 0, 1) := by decide +kernel
theorem dX5_submit_136 : decode cX5_submit 136 = .ok (.getfield 44, 3) := by decide +kernel
theorem dX5_submit_139 : decode cX5_submit 139 = .ok (.iload_n 2, 1) := by decide +kernel
theorem dX5_submit_140 : decode cX5_submit 140 = .ok (.aaload, 1) := by decide +kernel
theorem dX5_submit_141 : decode cX5_submit 141 = .ok (.getfield 110, 3) := by decide +kernel
theorem dX5_submit_144 : decode cX5_submit 144 = .ok (.i2l, 1) := by decide +kernel
theorem dX5_submit_145 : decode cX5_submit 145 = .ok (.aload_n 0, 1) := by decide +kernel
theorem dX5_submit_146 : decode cX5_submit 146 = .ok (.getfield 44, 3) := by decide +kernel
theorem dX5_submit_149 : decode cX5_submit 149 = .ok (.iload_n 3, 1) := by decide +kernel
theorem dX5_submit_150 : decode cX5_submit 150 = .ok (.aaload, 1) := by decide +kernel
theorem dX5_submit_151 : decode cX5_submit 151 = .ok (.getfield 110, 3) := by decide +kernel
theorem dX5_submit_154 : decode cX5_submit 154 = .ok (.i2l, 1) := by decide +kernel
theorem dX5_submit_155 : decode cX5_submit 155 = .ok (.iload_n 1, 1) := by decide +kernel
theorem dX5_submit_156 : decode cX5_submit 156 = .ok (.iconst 3, 1) := by decide +kernel
theorem dX5_submit_157 : decode cX5_submit 157 = .ok (.if_icmp .ne 17, 3) := by decide +kernel
theorem dX5_submit_160 : decode cX5_submit 160 = .ok (.aload_n 0, 1) := by decide +kernel
theorem dX5_submit_161 : decode cX5_submit 161 = .ok (.getfield 44, 3) := by decide +kernel
theorem dX5_submit_164 : decode cX5_submit 164 = .ok (.iload 4, 2) := by decide +kernel
theorem dX5_submit_166 : decode cX5_submit 166 = .ok (.aaload, 1) := by decide +kernel
theorem dX5_submit_167 : decode cX5_submit 167 = .ok (.getfield 110, 3) := by decide +kernel
theorem dX5_submit_170 : decode cX5_submit 170 = .ok (.i2l, 1) := by decide +kernel
theorem dX5_submit_171 : decode cX5_submit 171 = .ok (.goto 4, 3) := by decide +kernel
theorem dX5_submit_174 : decode cX5_submit 174 = .ok (.lconst 0, 1) := by decide +kernel
theorem dX5_submit_175 : decode cX5_submit 175 = .ok (.invokevirtual 137, 3) := by decide +kernel
theorem dX5_submit_178 : decode cX5_submit 178 = .ok (.aload 6, 2) := by decide +kernel
theorem dX5_submit_180 : decode cX5_submit 180 = .ok (.iconst 0, 1) := by decide +kernel
theorem dX5_submit_181 : decode cX5_submit 181 = .ok (.putfield 141, 3) := by decide +kernel
theorem dX5_submit_184 : decode cX5_submit 184 = .ok (.aload_n 0, 1) := by decide +kernel
theorem dX5_submit_185 : decode cX5_submit 185 = .ok (.aload 6, 2) := by decide +kernel
theorem dX5_submit_187 : decode cX5_submit 187 = .ok (.iconst 1, 1) := by decide +kernel
theorem dX5_submit_188 : decode cX5_submit 188 = .ok (.invokevirtual 144, 3) := by decide +kernel
theorem dX5_submit_191 : decode cX5_submit 191 = .ok (.aload_n 0, 1) := by decide +kernel
theorem dX5_submit_192 : decode cX5_submit 192 = .ok (.getfield 52, 3) := by decide +kernel
theorem dX5_submit_195 : decode cX5_submit 195 = .ok (.iload 5, 2) := by decide +kernel
theorem dX5_submit_197 : decode cX5_submit 197 = .ok (.invokevirtual 148, 3) := by decide +kernel
theorem dX5_submit_200 : decode cX5_submit 200 = .ok (.aload_n 0, 1) := by decide +kernel
theorem dX5_submit_201 : decode cX5_submit 201 = .ok (.dup, 1) := by decide +kernel
theorem dX5_submit_202 : decode cX5_submit 202 = .ok (.getfield 60, 3) := by decide +kernel
theorem dX5_submit_205 : decode cX5_submit 205 = .ok (.iconst 1, 1) := by decide +kernel
theorem dX5_submit_206 : decode cX5_submit 206 = .ok (.iadd, 1) := by decide +kernel
theorem dX5_submit_207 : decode cX5_submit 207 = .ok (.putfield 60, 3) := by decide +kernel
theorem dX5_submit_210 : decode cX5_submit 210 = .ok (.iload 5, 2) := by decide +kernel
theorem dX5_submit_212 : decode cX5_submit 212 = .ok (.ireturn, 1) := by decide +kernel
theorem dX5_tick_0 : decode cX5_tick 0 = .ok (.aload_n 0, 1) := by decide +kernel
theorem dX5_tick_1 : decode cX5_tick 1 = .ok (.invokevirtual 151, 3) := by decide +kernel
theorem dX5_tick_4 : decode cX5_tick 4 = .ok (.ireturn, 1) := by decide +kernel
theorem dX5_run_0 : decode cX5_run 0 = .ok (.iload_n 1, 1) := by decide +kernel
theorem dX5_run_1 : decode cX5_run 1 = .ok (.ifCond .lt 10, 3) := by decide +kernel
theorem dX5_run_4 : decode cX5_run 4 = .ok (.iload_n 1, 1) := by decide +kernel
theorem dX5_run_5 : decode cX5_run 5 = .ok (.sipush 5000, 3) := by decide +kernel
theorem dX5_run_8 : decode cX5_run 8 = .ok (.if_icmp .le 5, 3) := by decide +kernel
theorem dX5_run_11 : decode cX5_run 11 = .ok (.iconst (-1), 1) := by decide +kernel
theorem dX5_run_12 : decode cX5_run 12 = .ok (.ireturn, 1) := by decide +kernel
theorem dX5_run_13 : decode cX5_run 13 = .ok (.iconst 0, 1) := by decide +kernel
theorem dX5_run_14 : decode cX5_run 14 = .ok (.istore_n 2, 1) := by decide +kernel
theorem dX5_run_15 : decode cX5_run 15 = .ok (.iload_n 2, 1) := by decide +kernel
theorem dX5_run_16 : decode cX5_run 16 = .ok (.iload_n 1, 1) := by decide +kernel
theorem dX5_run_17 : decode cX5_run 17 = .ok (.if_icmp .ge 19, 3) := by decide +kernel
theorem dX5_run_20 : decode cX5_run 20 = .ok (.aload_n 0, 1) := by decide +kernel
theorem dX5_run_21 : decode cX5_run 21 = .ok (.invokevirtual 151, 3) := by decide +kernel
theorem dX5_run_24 : decode cX5_run 24 = .ok (.iconst (-1), 1) := by decide +kernel
theorem dX5_run_25 : decode cX5_run 25 = .ok (.if_icmp .ne 5, 3) := by decide +kernel
theorem dX5_run_28 : decode cX5_run 28 = .ok (.iload_n 2, 1) := by decide +kernel
theorem dX5_run_29 : decode cX5_run 29 = .ok (.ireturn, 1) := by decide +kernel
theorem dX5_run_30 : decode cX5_run 30 = .ok (.iinc 2 1, 3) := by decide +kernel
theorem dX5_run_33 : decode cX5_run 33 = .ok (.goto (-18), 3) := by decide +kernel
theorem dX5_run_36 : decode cX5_run 36 = .ok (.iload_n 1, 1) := by decide +kernel
theorem dX5_run_37 : decode cX5_run 37 = .ok (.ireturn, 1) := by decide +kernel
theorem dX5_jobState_0 : decode cX5_jobState 0 = .ok (.aload_n 0, 1) := by decide +kernel
theorem dX5_jobState_1 : decode cX5_jobState 1 = .ok (.iload_n 1, 1) := by decide +kernel
theorem dX5_jobState_2 : decode cX5_jobState 2 = .ok (.invokevirtual 154, 3) := by decide +kernel
theorem dX5_jobState_5 : decode cX5_jobState 5 = .ok (.ifCond .eq 15, 3) := by decide +kernel
theorem dX5_jobState_8 : decode cX5_jobState 8 = .ok (.aload_n 0, 1) := by decide +kernel
theorem dX5_jobState_9 : decode cX5_jobState 9 = .ok (.getfield 37, 3) := by decide +kernel
theorem dX5_jobState_12 : decode cX5_jobState 12 = .ok (.iload_n 1, 1) := by decide +kernel
theorem dX5_jobState_13 : decode cX5_jobState 13 = .ok (.aaload, 1) := by decide +kernel
theorem dX5_jobState_14 : decode cX5_jobState 14 = .ok (.getfield 141, 3) := by decide +kernel
theorem dX5_jobState_17 : decode cX5_jobState 17 = .ok (.goto 4, 3) := by decide +kernel
theorem dX5_jobState_20 : decode cX5_jobState 20 = .ok (.iconst (-1), 1) := by decide +kernel
theorem dX5_jobState_21 : decode cX5_jobState 21 = .ok (.ireturn, 1) := by decide +kernel
theorem dX5_jobResult_0 : decode cX5_jobResult 0 = .ok (.aload_n 0, 1) := by decide +kernel
theorem dX5_jobResult_1 : decode cX5_jobResult 1 = .ok (.iload_n 1, 1) := by decide +kernel
theorem dX5_jobResult_2 : decode cX5_jobResult 2 = .ok (.invokevirtual 154, 3) := by decide +kernel
theorem dX5_jobResult_5 : decode cX5_jobResult 5 = .ok (.ifCond .eq 15, 3) := by decide +kernel
theorem dX5_jobResult_8 : decode cX5_jobResult 8 = .ok (.aload_n 0, 1) := by decide +kernel
theorem dX5_jobResult_9 : decode cX5_jobResult 9 = .ok (.getfield 37, 3) := by decide +kernel
theorem dX5_jobResult_12 : decode cX5_jobResult 12 = .ok (.iload_n 1, 1) := by decide +kernel
theorem dX5_jobResult_13 : decode cX5_jobResult 13 = .ok (.aaload, 1) := by decide +kernel
theorem dX5_jobResult_14 : decode cX5_jobResult 14 = .ok (.getfield 113, 3) := by decide +kernel
theorem dX5_jobResult_17 : decode cX5_jobResult 17 = .ok (.goto 4, 3) := by decide +kernel
theorem dX5_jobResult_20 : decode cX5_jobResult 20 = .ok (.iconst (-1), 1) := by decide +kernel
theorem dX5_jobResult_21 : decode cX5_jobResult 21 = .ok (.ireturn, 1) := by decide +kernel
theorem dX5_workLeft_0 : decode cX5_workLeft 0 = .ok (.aload_n 0, 1) := by decide +kernel
theorem dX5_workLeft_1 : decode cX5_workLeft 1 = .ok (.iload_n 1, 1) := by decide +kernel
theorem dX5_workLeft_2 : decode cX5_workLeft 2 = .ok (.invokevirtual 154, 3) := by decide +kernel
theorem dX5_workLeft_5 : decode cX5_workLeft 5 = .ok (.ifCond .eq 15, 3) := by decide +kernel
theorem dX5_workLeft_8 : decode cX5_workLeft 8 = .ok (.aload_n 0, 1) := by decide +kernel
theorem dX5_workLeft_9 : decode cX5_workLeft 9 = .ok (.getfield 37, 3) := by decide +kernel
theorem dX5_workLeft_12 : decode cX5_workLeft 12 = .ok (.iload_n 1, 1) := by decide +kernel
theorem dX5_workLeft_13 : decode cX5_workLeft 13 = .ok (.aaload, 1) := by decide +kernel
theorem dX5_workLeft_14 : decode cX5_workLeft 14 = .ok (.getfield 157, 3) := by decide +kernel
theorem dX5_workLeft_17 : decode cX5_workLeft 17 = .ok (.goto 6, 3) := by decide +kernel
theorem dX5_workLeft_20 : decode cX5_workLeft 20 = .ok (.ldc2_w 161, 3) := by decide +kernel
theorem dX5_workLeft_23 : decode cX5_workLeft 23 = .ok (.lreturn, 1) := by decide +kernel
theorem dX5_cancel_0 : decode cX5_cancel 0 = .ok (.aload_n 0, 1) := by decide +kernel
theorem dX5_cancel_1 : decode cX5_cancel 1 = .ok (.iload_n 1, 1) := by decide +kernel
theorem dX5_cancel_2 : decode cX5_cancel 2 = .ok (.invokevirtual 154, 3) := by decide +kernel
theorem dX5_cancel_5 : decode cX5_cancel 5 = .ok (.ifCond .eq 15, 3) := by decide +kernel
theorem dX5_cancel_8 : decode cX5_cancel 8 = .ok (.aload_n 0, 1) := by decide +kernel
theorem dX5_cancel_9 : decode cX5_cancel 9 = .ok (.getfield 37, 3) := by decide +kernel
theorem dX5_cancel_12 : decode cX5_cancel 12 = .ok (.iload_n 1, 1) := by decide +kernel
theorem dX5_cancel_13 : decode cX5_cancel 13 = .ok (.aaload, 1) := by decide +kernel
theorem dX5_cancel_14 : decode cX5_cancel 14 = .ok (.invokevirtual 163, 3) := by decide +kernel
theorem dX5_cancel_17 : decode cX5_cancel 17 = .ok (.ifCond .ne 5, 3) := by decide +kernel
theorem dX5_cancel_20 : decode cX5_cancel 20 = .ok (.iconst 0, 1) := by decide +kernel
theorem dX5_cancel_21 : decode cX5_cancel 21 = .ok (.ireturn, 1) := by decide +kernel
theorem dX5_cancel_22 : decode cX5_cancel 22 = .ok (.aload_n 0, 1) := by decide +kernel
theorem dX5_cancel_23 : decode cX5_cancel 23 = .ok (.getfield 37, 3) := by decide +kernel
theorem dX5_cancel_26 : decode cX5_cancel 26 = .ok (.iload_n 1, 1) := by decide +kernel
theorem dX5_cancel_27 : decode cX5_cancel 27 = .ok (.aaload, 1) := by decide +kernel
theorem dX5_cancel_28 : decode cX5_cancel 28 = .ok (.astore_n 2, 1) := by decide +kernel
theorem dX5_cancel_29 : decode cX5_cancel 29 = .ok (.aload_n 0, 1) := by decide +kernel
theorem dX5_cancel_30 : decode cX5_cancel 30 = .ok (.getfield 52, 3) := by decide +kernel
theorem dX5_cancel_33 : decode cX5_cancel 33 = .ok (.iload_n 1, 1) := by decide +kernel
theorem dX5_cancel_34 : decode cX5_cancel 34 = .ok (.invokevirtual 167, 3) := by decide +kernel
theorem dX5_cancel_37 : decode cX5_cancel 37 = .ok (.aload_n 0, 1) := by decide +kernel
theorem dX5_cancel_38 : decode cX5_cancel 38 = .ok (.aload_n 2, 1) := by decide +kernel
theorem dX5_cancel_39 : decode cX5_cancel 39 = .ok (.iconst (-1), 1) := by decide +kernel
theorem dX5_cancel_40 : decode cX5_cancel 40 = .ok (.invokevirtual 144, 3) := by decide +kernel
theorem dX5_cancel_43 : decode cX5_cancel 43 = .ok (.aload_n 0, 1) := by decide +kernel
theorem dX5_cancel_44 : decode cX5_cancel 44 = .ok (.aload_n 2, 1) := by decide +kernel
theorem dX5_cancel_45 : decode cX5_cancel 45 = .ok (.invokevirtual 170, 3) := by decide +kernel
theorem dX5_cancel_48 : decode cX5_cancel 48 = .ok (.aload_n 0, 1) := by decide +kernel
theorem dX5_cancel_49 : decode cX5_cancel 49 = .ok (.aload_n 2, 1) := by decide +kernel
theorem dX5_cancel_50 : decode cX5_cancel 50 = .ok (.getfield 113, 3) := by decide +kernel
theorem dX5_cancel_53 : decode cX5_cancel 53 = .ok (.invokevirtual 94, 3) := by decide +kernel
theorem dX5_cancel_56 : decode cX5_cancel 56 = .ok (.ifCond .eq 11, 3) := by decide +kernel
theorem dX5_cancel_59 : decode cX5_cancel 59 = .ok (.aload_n 0, 1) := by decide +kernel
theorem dX5_cancel_60 : decode cX5_cancel 60 = .ok (.aload_n 2, 1) := by decide +kernel
theorem dX5_cancel_61 : decode cX5_cancel 61 = .ok (.getfield 113, 3) := by decide +kernel
theorem dX5_cancel_64 : decode cX5_cancel 64 = .ok (.invokevirtual 116, 3) := by decide +kernel
theorem dX5_cancel_67 : decode cX5_cancel 67 = .ok (.aload_n 2, 1) := by decide +kernel
theorem dX5_cancel_68 : decode cX5_cancel 68 = .ok (.iconst (-1), 1) := by decide +kernel
theorem dX5_cancel_69 : decode cX5_cancel 69 = .ok (.putfield 113, 3) := by decide +kernel
theorem dX5_cancel_72 : decode cX5_cancel 72 = .ok (.aload_n 2, 1) := by decide +kernel
theorem dX5_cancel_73 : decode cX5_cancel 73 = .ok (.lconst 0, 1) := by decide +kernel
theorem dX5_cancel_74 : decode cX5_cancel 74 = .ok (.putfield 157, 3) := by decide +kernel
theorem dX5_cancel_77 : decode cX5_cancel 77 = .ok (.aload_n 2, 1) := by decide +kernel
theorem dX5_cancel_78 : decode cX5_cancel 78 = .ok (.iconst 3, 1) := by decide +kernel
theorem dX5_cancel_79 : decode cX5_cancel 79 = .ok (.putfield 141, 3) := by decide +kernel
theorem dX5_cancel_82 : decode cX5_cancel 82 = .ok (.iconst 1, 1) := by decide +kernel
theorem dX5_cancel_83 : decode cX5_cancel 83 = .ok (.ireturn, 1) := by decide +kernel
theorem dX5_forget_0 : decode cX5_forget 0 = .ok (.aload_n 0, 1) := by decide +kernel
theorem dX5_forget_1 : decode cX5_forget 1 = .ok (.iload_n 1, 1) := by decide +kernel
theorem dX5_forget_2 : decode cX5_forget 2 = .ok (.invokevirtual 154, 3) := by decide +kernel
theorem dX5_forget_5 : decode cX5_forget 5 = .ok (.ifCond .eq 15, 3) := by decide +kernel
theorem dX5_forget_8 : decode cX5_forget 8 = .ok (.aload_n 0, 1) := by decide +kernel
theorem dX5_forget_9 : decode cX5_forget 9 = .ok (.getfield 37, 3) := by decide +kernel
theorem dX5_forget_12 : decode cX5_forget 12 = .ok (.iload_n 1, 1) := by decide +kernel
theorem dX5_forget_13 : decode cX5_forget 13 = .ok (.aaload, 1) := by decide +kernel
theorem dX5_forget_14 : decode cX5_forget 14 = .ok (.invokevirtual 163, 3) := by decide +kernel
theorem dX5_forget_17 : decode cX5_forget 17 = .ok (.ifCond .eq 5, 3) := by decide +kernel
theorem dX5_forget_20 : decode cX5_forget 20 = .ok (.iconst 0, 1) := by decide +kernel
theorem dX5_forget_21 : decode cX5_forget 21 = .ok (.ireturn, 1) := by decide +kernel
theorem dX5_forget_22 : decode cX5_forget 22 = .ok (.aload_n 0, 1) := by decide +kernel
theorem dX5_forget_23 : decode cX5_forget 23 = .ok (.getfield 37, 3) := by decide +kernel
theorem dX5_forget_26 : decode cX5_forget 26 = .ok (.iload_n 1, 1) := by decide +kernel
theorem dX5_forget_27 : decode cX5_forget 27 = .ok (.aaload, 1) := by decide +kernel
theorem dX5_forget_28 : decode cX5_forget 28 = .ok (.invokevirtual 74, 3) := by decide +kernel
theorem dX5_forget_31 : decode cX5_forget 31 = .ok (.aload_n 0, 1) := by decide +kernel
theorem dX5_forget_32 : decode cX5_forget 32 = .ok (.dup, 1) := by decide +kernel
theorem dX5_forget_33 : decode cX5_forget 33 = .ok (.getfield 60, 3) := by decide +kernel
theorem dX5_forget_36 : decode cX5_forget 36 = .ok (.iconst 1, 1) := by decide +kernel
theorem dX5_forget_37 : decode cX5_forget 37 = .ok (.isub, 1) := by decide +kernel
theorem dX5_forget_38 : decode cX5_forget 38 = .ok (.putfield 60, 3) := by decide +kernel
theorem dX5_forget_41 : decode cX5_forget 41 = .ok (.iconst 1, 1) := by decide +kernel
theorem dX5_forget_42 : decode cX5_forget 42 = .ok (.ireturn, 1) := by decide +kernel
theorem dX5_freeCells_0 : decode cX5_freeCells 0 = .ok (.aload_n 0, 1) := by decide +kernel
theorem dX5_freeCells_1 : decode cX5_freeCells 1 = .ok (.getfield 18, 3) := by decide +kernel
theorem dX5_freeCells_4 : decode cX5_freeCells 4 = .ok (.invokevirtual 174, 3) := by decide +kernel
theorem dX5_freeCells_7 : decode cX5_freeCells 7 = .ok (.ireturn, 1) := by decide +kernel
theorem dX5_freeBlock_0 : decode cX5_freeBlock 0 = .ok (.iload_n 1, 1) := by decide +kernel
theorem dX5_freeBlock_1 : decode cX5_freeBlock 1 = .ok (.ifCond .lt 14, 3) := by decide +kernel
theorem dX5_freeBlock_4 : decode cX5_freeBlock 4 = .ok (.iload_n 1, 1) := by decide +kernel
theorem dX5_freeBlock_5 : decode cX5_freeBlock 5 = .ok (.aload_n 0, 1) := by decide +kernel
theorem dX5_freeBlock_6 : decode cX5_freeBlock 6 = .ok (.getfield 18, 3) := by decide +kernel
theorem dX5_freeBlock_9 : decode cX5_freeBlock 9 = .ok (.getfield 177, 3) := by decide +kernel
theorem dX5_freeBlock_12 : decode cX5_freeBlock 12 = .ok (.if_icmp .le 5, 3) := by decide +kernel
theorem dX5_freeBlock_15 : decode cX5_freeBlock 15 = .ok (.iconst (-1), 1) := by decide +kernel
theorem dX5_freeBlock_16 : decode cX5_freeBlock 16 = .ok (.ireturn, 1) := by decide +kernel
theorem dX5_freeBlock_17 : decode cX5_freeBlock 17 = .ok (.iload_n 2, 1) := by decide +kernel
theorem dX5_freeBlock_18 : decode cX5_freeBlock 18 = .ok (.iconst (-1), 1) := by decide +kernel
theorem dX5_freeBlock_19 : decode cX5_freeBlock 19 = .ok (.if_icmp .ne 15, 3) := by decide +kernel
theorem dX5_freeBlock_22 : decode cX5_freeBlock 22 = .ok (.aload_n 0, 1) := by decide +kernel
theorem dX5_freeBlock_23 : decode cX5_freeBlock 23 = .ok (.getfield 18, 3) := by decide +kernel
theorem dX5_freeBlock_26 : decode cX5_freeBlock 26 = .ok (.getfield 180, 3) := by decide +kernel
theorem dX5_freeBlock_29 : decode cX5_freeBlock 29 = .ok (.iload_n 1, 1) := by decide +kernel
theorem dX5_freeBlock_30 : decode cX5_freeBlock 30 = .ok (.iaload, 1) := by decide +kernel
theorem dX5_freeBlock_31 : decode cX5_freeBlock 31 = .ok (.goto 12, 3) := by decide +kernel
theorem dX5_freeBlock_34 : decode cX5_freeBlock 34 = .ok (.aload_n 0, 1) := by decide +kernel
theorem dX5_freeBlock_35 : decode cX5_freeBlock 35 = .ok (.getfield 18, 3) := by decide +kernel
theorem dX5_freeBlock_38 : decode cX5_freeBlock 38 = .ok (.iload_n 1, 1) := by decide +kernel
theorem dX5_freeBlock_39 : decode cX5_freeBlock 39 = .ok (.iload_n 2, 1) := by decide +kernel
theorem dX5_freeBlock_40 : decode cX5_freeBlock 40 = .ok (.invokevirtual 183, 3) := by decide +kernel
theorem dX5_freeBlock_43 : decode cX5_freeBlock 43 = .ok (.ireturn, 1) := by decide +kernel
theorem dX5_number_0 : decode cX5_number 0 = .ok (.aload_n 0, 1) := by decide +kernel
theorem dX5_number_1 : decode cX5_number 1 = .ok (.iload_n 1, 1) := by decide +kernel
theorem dX5_number_2 : decode cX5_number 2 = .ok (.invokevirtual 94, 3) := by decide +kernel
theorem dX5_number_5 : decode cX5_number 5 = .ok (.ifCond .ne 5, 3) := by decide +kernel
theorem dX5_number_8 : decode cX5_number 8 = .ok (.iconst (-1), 1) := by decide +kernel
theorem dX5_number_9 : decode cX5_number 9 = .ok (.ireturn, 1) := by decide +kernel
theorem dX5_number_10 : decode cX5_number 10 = .ok (.iload_n 2, 1) := by decide +kernel
theorem dX5_number_11 : decode cX5_number 11 = .ok (.tableswitch 55 0 2 #[25, 35, 45], 25) := by decide +kernel
theorem dX5_number_36 : decode cX5_number 36 = .ok (.aload_n 0, 1) := by decide +kernel
theorem dX5_number_37 : decode cX5_number 37 = .ok (.getfield 44, 3) := by decide +kernel
theorem dX5_number_40 : decode cX5_number 40 = .ok (.iload_n 1, 1) := by decide +kernel
theorem dX5_number_41 : decode cX5_number 41 = .ok (.aaload, 1) := by decide +kernel
theorem dX5_number_42 : decode cX5_number 42 = .ok (.getfield 104, 3) := by decide +kernel
theorem dX5_number_45 : decode cX5_number 45 = .ok (.ireturn, 1) := by decide +kernel
theorem dX5_number_46 : decode cX5_number 46 = .ok (.aload_n 0, 1) := by decide +kernel
theorem dX5_number_47 : decode cX5_number 47 = .ok (.getfield 44, 3) := by decide +kernel
theorem dX5_number_50 : decode cX5_number 50 = .ok (.iload_n 1, 1) := by decide +kernel
theorem dX5_number_51 : decode cX5_number 51 = .ok (.aaload, 1) := by decide +kernel
theorem dX5_number_52 : decode cX5_number 52 = .ok (.getfield 187, 3) := by decide +kernel
theorem dX5_number_55 : decode cX5_number 55 = .ok (.ireturn, 1) := by decide +kernel
theorem dX5_number_56 : decode cX5_number 56 = .ok (.aload_n 0, 1) := by decide +kernel
theorem dX5_number_57 : decode cX5_number 57 = .ok (.getfield 44, 3) := by decide +kernel
theorem dX5_number_60 : decode cX5_number 60 = .ok (.iload_n 1, 1) := by decide +kernel
theorem dX5_number_61 : decode cX5_number 61 = .ok (.aaload, 1) := by decide +kernel
theorem dX5_number_62 : decode cX5_number 62 = .ok (.getfield 98, 3) := by decide +kernel
theorem dX5_number_65 : decode cX5_number 65 = .ok (.ireturn, 1) := by decide +kernel
theorem dX5_number_66 : decode cX5_number 66 = .ok (.iconst (-1), 1) := by decide +kernel
theorem dX5_number_67 : decode cX5_number 67 = .ok (.ireturn, 1) := by decide +kernel
theorem dX5_count_0 : decode cX5_count 0 = .ok (.iload_n 1, 1) := by decide +kernel
theorem dX5_count_1 : decode cX5_count 1 = .ok (.tableswitch 67 0 4 #[35, 40, 45, 53, 58], 35) := by decide +kernel
theorem dX5_count_36 : decode cX5_count 36 = .ok (.aload_n 0, 1) := by decide +kernel
theorem dX5_count_37 : decode cX5_count 37 = .ok (.getfield 63, 3) := by decide +kernel
theorem dX5_count_40 : decode cX5_count 40 = .ok (.ireturn, 1) := by decide +kernel
theorem dX5_count_41 : decode cX5_count 41 = .ok (.aload_n 0, 1) := by decide +kernel
theorem dX5_count_42 : decode cX5_count 42 = .ok (.getfield 60, 3) := by decide +kernel
theorem dX5_count_45 : decode cX5_count 45 = .ok (.ireturn, 1) := by decide +kernel
theorem dX5_count_46 : decode cX5_count 46 = .ok (.aload_n 0, 1) := by decide +kernel
theorem dX5_count_47 : decode cX5_count 47 = .ok (.getfield 52, 3) := by decide +kernel
theorem dX5_count_50 : decode cX5_count 50 = .ok (.getfield 190, 3) := by decide +kernel
theorem dX5_count_53 : decode cX5_count 53 = .ok (.ireturn, 1) := by decide +kernel
theorem dX5_count_54 : decode cX5_count 54 = .ok (.aload_n 0, 1) := by decide +kernel
theorem dX5_count_55 : decode cX5_count 55 = .ok (.getfield 75, 3) := by decide +kernel
theorem dX5_count_58 : decode cX5_count 58 = .ok (.ireturn, 1) := by decide +kernel
theorem dX5_count_59 : decode cX5_count 59 = .ok (.aload_n 0, 1) := by decide +kernel
theorem dX5_count_60 : decode cX5_count 60 = .ok (.getfield 52, 3) := by decide +kernel
theorem dX5_count_63 : decode cX5_count 63 = .ok (.iload_n 2, 1) := by decide +kernel
theorem dX5_count_64 : decode cX5_count 64 = .ok (.invokevirtual 193, 3) := by decide +kernel
theorem dX5_count_67 : decode cX5_count 67 = .ok (.ireturn, 1) := by decide +kernel
theorem dX5_count_68 : decode cX5_count 68 = .ok (.iconst (-1), 1) := by decide +kernel
theorem dX5_count_69 : decode cX5_count 69 = .ok (.ireturn, 1) := by decide +kernel
theorem dX5_within_0 : decode cX5_within 0 = .ok (.iload_n 1, 1) := by decide +kernel
theorem dX5_within_1 : decode cX5_within 1 = .ok (.iload_n 2, 1) := by decide +kernel
theorem dX5_within_2 : decode cX5_within 2 = .ok (.iload_n 0, 1) := by decide +kernel
theorem dX5_within_3 : decode cX5_within 3 = .ok (.invokestatic 196, 3) := by decide +kernel
theorem dX5_within_6 : decode cX5_within 6 = .ok (.invokestatic 201, 3) := by decide +kernel
theorem dX5_within_9 : decode cX5_within 9 = .ok (.ireturn, 1) := by decide +kernel
theorem dX5_isNumber_0 : decode cX5_isNumber 0 = .ok (.iload_n 1, 1) := by decide +kernel
theorem dX5_isNumber_1 : decode cX5_isNumber 1 = .ok (.ifCond .lt 28, 3) := by decide +kernel
theorem dX5_isNumber_4 : decode cX5_isNumber 4 = .ok (.iload_n 1, 1) := by decide +kernel
theorem dX5_isNumber_5 : decode cX5_isNumber 5 = .ok (.aload_n 0, 1) := by decide +kernel
theorem dX5_isNumber_6 : decode cX5_isNumber 6 = .ok (.getfield 44, 3) := by decide +kernel
theorem dX5_isNumber_9 : decode cX5_isNumber 9 = .ok (.arraylength, 1) := by decide +kernel
theorem dX5_isNumber_10 : decode cX5_isNumber 10 = .ok (.if_icmp .ge 19, 3) := by decide +kernel
theorem dX5_isNumber_13 : decode cX5_isNumber 13 = .ok (.aload_n 0, 1) := by decide +kernel
theorem dX5_isNumber_14 : decode cX5_isNumber 14 = .ok (.getfield 44, 3) := by decide +kernel
theorem dX5_isNumber_17 : decode cX5_isNumber 17 = .ok (.iload_n 1, 1) := by decide +kernel
theorem dX5_isNumber_18 : decode cX5_isNumber 18 = .ok (.aaload, 1) := by decide +kernel
theorem dX5_isNumber_19 : decode cX5_isNumber 19 = .ok (.getfield 70, 3) := by decide +kernel
theorem dX5_isNumber_22 : decode cX5_isNumber 22 = .ok (.ifCond .eq 7, 3) := by decide +kernel
theorem dX5_isNumber_25 : decode cX5_isNumber 25 = .ok (.iconst 1, 1) := by decide +kernel
theorem dX5_isNumber_26 : decode cX5_isNumber 26 = .ok (.goto 4, 3) := by decide +kernel
theorem dX5_isNumber_29 : decode cX5_isNumber 29 = .ok (.iconst 0, 1) := by decide +kernel
theorem dX5_isNumber_30 : decode cX5_isNumber 30 = .ok (.ireturn, 1) := by decide +kernel
theorem dX5_isFinished_0 : decode cX5_isFinished 0 = .ok (.aload_n 0, 1) := by decide +kernel
theorem dX5_isFinished_1 : decode cX5_isFinished 1 = .ok (.iload_n 1, 1) := by decide +kernel
theorem dX5_isFinished_2 : decode cX5_isFinished 2 = .ok (.invokevirtual 94, 3) := by decide +kernel
theorem dX5_isFinished_5 : decode cX5_isFinished 5 = .ok (.ifCond .eq 19, 3) := by decide +kernel
theorem dX5_isFinished_8 : decode cX5_isFinished 8 = .ok (.aload_n 0, 1) := by decide +kernel
theorem dX5_isFinished_9 : decode cX5_isFinished 9 = .ok (.getfield 44, 3) := by decide +kernel
theorem dX5_isFinished_12 : decode cX5_isFinished 12 = .ok (.iload_n 1, 1) := by decide +kernel
theorem dX5_isFinished_13 : decode cX5_isFinished 13 = .ok (.aaload, 1) := by decide +kernel
theorem dX5_isFinished_14 : decode cX5_isFinished 14 = .ok (.getfield 204, 3) := by decide +kernel
theorem dX5_isFinished_17 : decode cX5_isFinished 17 = .ok (.ifCond .ne 7, 3) := by decide +kernel
theorem dX5_isFinished_20 : decode cX5_isFinished 20 = .ok (.iconst 1, 1) := by decide +kernel
theorem dX5_isFinished_21 : decode cX5_isFinished 21 = .ok (.goto 4, 3) := by decide +kernel
theorem dX5_isFinished_24 : decode cX5_isFinished 24 = .ok (.iconst 0, 1) := by decide +kernel
theorem dX5_isFinished_25 : decode cX5_isFinished 25 = .ok (.ireturn, 1) := by decide +kernel
theorem dX5_isZero_0 : decode cX5_isZero 0 = .ok (.aload_n 0, 1) := by decide +kernel
theorem dX5_isZero_1 : decode cX5_isZero 1 = .ok (.getfield 31, 3) := by decide +kernel
theorem dX5_isZero_4 : decode cX5_isZero 4 = .ok (.aload_n 0, 1) := by decide +kernel
theorem dX5_isZero_5 : decode cX5_isZero 5 = .ok (.getfield 44, 3) := by decide +kernel
theorem dX5_isZero_8 : decode cX5_isZero 8 = .ok (.iload_n 1, 1) := by decide +kernel
theorem dX5_isZero_9 : decode cX5_isZero 9 = .ok (.aaload, 1) := by decide +kernel
theorem dX5_isZero_10 : decode cX5_isZero 10 = .ok (.getfield 104, 3) := by decide +kernel
theorem dX5_isZero_13 : decode cX5_isZero 13 = .ok (.aload_n 0, 1) := by decide +kernel
theorem dX5_isZero_14 : decode cX5_isZero 14 = .ok (.getfield 44, 3) := by decide +kernel
theorem dX5_isZero_17 : decode cX5_isZero 17 = .ok (.iload_n 1, 1) := by decide +kernel
theorem dX5_isZero_18 : decode cX5_isZero 18 = .ok (.aaload, 1) := by decide +kernel
theorem dX5_isZero_19 : decode cX5_isZero 19 = .ok (.getfield 110, 3) := by decide +kernel
theorem dX5_isZero_22 : decode cX5_isZero 22 = .ok (.invokevirtual 207, 3) := by decide +kernel
theorem dX5_isZero_25 : decode cX5_isZero 25 = .ok (.ifCond .ne 7, 3) := by decide +kernel
theorem dX5_isZero_28 : decode cX5_isZero 28 = .ok (.iconst 1, 1) := by decide +kernel
theorem dX5_isZero_29 : decode cX5_isZero 29 = .ok (.goto 4, 3) := by decide +kernel
theorem dX5_isZero_32 : decode cX5_isZero 32 = .ok (.iconst 0, 1) := by decide +kernel
theorem dX5_isZero_33 : decode cX5_isZero 33 = .ok (.ireturn, 1) := by decide +kernel
theorem dX5_isJob_0 : decode cX5_isJob 0 = .ok (.iload_n 1, 1) := by decide +kernel
theorem dX5_isJob_1 : decode cX5_isJob 1 = .ok (.ifCond .lt 29, 3) := by decide +kernel
theorem dX5_isJob_4 : decode cX5_isJob 4 = .ok (.iload_n 1, 1) := by decide +kernel
theorem dX5_isJob_5 : decode cX5_isJob 5 = .ok (.aload_n 0, 1) := by decide +kernel
theorem dX5_isJob_6 : decode cX5_isJob 6 = .ok (.getfield 37, 3) := by decide +kernel
theorem dX5_isJob_9 : decode cX5_isJob 9 = .ok (.arraylength, 1) := by decide +kernel
theorem dX5_isJob_10 : decode cX5_isJob 10 = .ok (.if_icmp .ge 20, 3) := by decide +kernel
theorem dX5_isJob_13 : decode cX5_isJob 13 = .ok (.aload_n 0, 1) := by decide +kernel
theorem dX5_isJob_14 : decode cX5_isJob 14 = .ok (.getfield 37, 3) := by decide +kernel
theorem dX5_isJob_17 : decode cX5_isJob 17 = .ok (.iload_n 1, 1) := by decide +kernel
theorem dX5_isJob_18 : decode cX5_isJob 18 = .ok (.aaload, 1) := by decide +kernel
theorem dX5_isJob_19 : decode cX5_isJob 19 = .ok (.getfield 141, 3) := by decide +kernel
theorem dX5_isJob_22 : decode cX5_isJob 22 = .ok (.iconst (-1), 1) := by decide +kernel
theorem dX5_isJob_23 : decode cX5_isJob 23 = .ok (.if_icmp .eq 7, 3) := by decide +kernel
theorem dX5_isJob_26 : decode cX5_isJob 26 = .ok (.iconst 1, 1) := by decide +kernel
theorem dX5_isJob_27 : decode cX5_isJob 27 = .ok (.goto 4, 3) := by decide +kernel
theorem dX5_isJob_30 : decode cX5_isJob 30 = .ok (.iconst 0, 1) := by decide +kernel
theorem dX5_isJob_31 : decode cX5_isJob 31 = .ok (.ireturn, 1) := by decide +kernel
theorem dX5_leastFreeHandle_0 : decode cX5_leastFreeHandle 0 = .ok (.aload_n 0, 1) := by decide +kernel
theorem dX5_leastFreeHandle_1 : decode cX5_leastFreeHandle 1 = .ok (.getfield 63, 3) := by decide +kernel
theorem dX5_leastFreeHandle_4 : decode cX5_leastFreeHandle 4 = .ok (.aload_n 0, 1) := by decide +kernel
theorem dX5_leastFreeHandle_5 : decode cX5_leastFreeHandle 5 = .ok (.getfield 44, 3) := by decide +kernel
theorem dX5_leastFreeHandle_8 : decode cX5_leastFreeHandle 8 = .ok (.arraylength, 1) := by decide +kernel
theorem dX5_leastFreeHandle_9 : decode cX5_leastFreeHandle 9 = .ok (.if_icmp .lt 5, 3) := by decide +kernel
theorem dX5_leastFreeHandle_12 : decode cX5_leastFreeHandle 12 = .ok (.iconst (-1), 1) := by decide +kernel
theorem dX5_leastFreeHandle_13 : decode cX5_leastFreeHandle 13 = .ok (.ireturn, 1) := by decide +kernel
theorem dX5_leastFreeHandle_14 : decode cX5_leastFreeHandle 14 = .ok (.iconst 0, 1) := by decide +kernel
theorem dX5_leastFreeHandle_15 : decode cX5_leastFreeHandle 15 = .ok (.istore_n 1, 1) := by decide +kernel
theorem dX5_leastFreeHandle_16 : decode cX5_leastFreeHandle 16 = .ok (.iload_n 1, 1) := by decide +kernel
theorem dX5_leastFreeHandle_17 : decode cX5_leastFreeHandle 17 = .ok (.aload_n 0, 1) := by decide +kernel
theorem dX5_leastFreeHandle_18 : decode cX5_leastFreeHandle 18 = .ok (.getfield 44, 3) := by decide +kernel
theorem dX5_leastFreeHandle_21 : decode cX5_leastFreeHandle 21 = .ok (.arraylength, 1) := by decide +kernel
theorem dX5_leastFreeHandle_22 : decode cX5_leastFreeHandle 22 = .ok (.if_icmp .ge 23, 3) := by decide +kernel
theorem dX5_leastFreeHandle_25 : decode cX5_leastFreeHandle 25 = .ok (.aload_n 0, 1) := by decide +kernel
theorem dX5_leastFreeHandle_26 : decode cX5_leastFreeHandle 26 = .ok (.getfield 44, 3) := by decide +kernel
theorem dX5_leastFreeHandle_29 : decode cX5_leastFreeHandle 29 = .ok (.iload_n 1, 1) := by decide +kernel
theorem dX5_leastFreeHandle_30 : decode cX5_leastFreeHandle 30 = .ok (.aaload, 1) := by decide +kernel
theorem dX5_leastFreeHandle_31 : decode cX5_leastFreeHandle 31 = .ok (.getfield 70, 3) := by decide +kernel
theorem dX5_leastFreeHandle_34 : decode cX5_leastFreeHandle 34 = .ok (.ifCond .ne 5, 3) := by decide +kernel
theorem dX5_leastFreeHandle_37 : decode cX5_leastFreeHandle 37 = .ok (.iload_n 1, 1) := by decide +kernel
theorem dX5_leastFreeHandle_38 : decode cX5_leastFreeHandle 38 = .ok (.ireturn, 1) := by decide +kernel
theorem dX5_leastFreeHandle_39 : decode cX5_leastFreeHandle 39 = .ok (.iinc 1 1, 3) := by decide +kernel
theorem dX5_leastFreeHandle_42 : decode cX5_leastFreeHandle 42 = .ok (.goto (-26), 3) := by decide +kernel
theorem dX5_leastFreeHandle_45 : decode cX5_leastFreeHandle 45 = .ok (.iconst (-1), 1) := by decide +kernel
theorem dX5_leastFreeHandle_46 : decode cX5_leastFreeHandle 46 = .ok (.ireturn, 1) := by decide +kernel
theorem dX5_leastFreeJob_0 : decode cX5_leastFreeJob 0 = .ok (.iconst 0, 1) := by decide +kernel
theorem dX5_leastFreeJob_1 : decode cX5_leastFreeJob 1 = .ok (.istore_n 1, 1) := by decide +kernel
theorem dX5_leastFreeJob_2 : decode cX5_leastFreeJob 2 = .ok (.iload_n 1, 1) := by decide +kernel
theorem dX5_leastFreeJob_3 : decode cX5_leastFreeJob 3 = .ok (.aload_n 0, 1) := by decide +kernel
theorem dX5_leastFreeJob_4 : decode cX5_leastFreeJob 4 = .ok (.getfield 37, 3) := by decide +kernel
theorem dX5_leastFreeJob_7 : decode cX5_leastFreeJob 7 = .ok (.arraylength, 1) := by decide +kernel
theorem dX5_leastFreeJob_8 : decode cX5_leastFreeJob 8 = .ok (.if_icmp .ge 24, 3) := by decide +kernel
theorem dX5_leastFreeJob_11 : decode cX5_leastFreeJob 11 = .ok (.aload_n 0, 1) := by decide +kernel
theorem dX5_leastFreeJob_12 : decode cX5_leastFreeJob 12 = .ok (.getfield 37, 3) := by decide +kernel
theorem dX5_leastFreeJob_15 : decode cX5_leastFreeJob 15 = .ok (.iload_n 1, 1) := by decide +kernel
theorem dX5_leastFreeJob_16 : decode cX5_leastFreeJob 16 = .ok (.aaload, 1) := by decide +kernel
theorem dX5_leastFreeJob_17 : decode cX5_leastFreeJob 17 = .ok (.getfield 141, 3) := by decide +kernel
theorem dX5_leastFreeJob_20 : decode cX5_leastFreeJob 20 = .ok (.iconst (-1), 1) := by decide +kernel
theorem dX5_leastFreeJob_21 : decode cX5_leastFreeJob 21 = .ok (.if_icmp .ne 5, 3) := by decide +kernel
theorem dX5_leastFreeJob_24 : decode cX5_leastFreeJob 24 = .ok (.iload_n 1, 1) := by decide +kernel
theorem dX5_leastFreeJob_25 : decode cX5_leastFreeJob 25 = .ok (.ireturn, 1) := by decide +kernel
theorem dX5_leastFreeJob_26 : decode cX5_leastFreeJob 26 = .ok (.iinc 1 1, 3) := by decide +kernel
theorem dX5_leastFreeJob_29 : decode cX5_leastFreeJob 29 = .ok (.goto (-27), 3) := by decide +kernel
theorem dX5_leastFreeJob_32 : decode cX5_leastFreeJob 32 = .ok (.iconst (-1), 1) := by decide +kernel
theorem dX5_leastFreeJob_33 : decode cX5_leastFreeJob 33 = .ok (.ireturn, 1) := by decide +kernel
theorem dX5_occupy_0 : decode cX5_occupy 0 = .ok (.aload_n 0, 1) := by decide +kernel
theorem dX5_occupy_1 : decode cX5_occupy 1 = .ok (.getfield 44, 3) := by decide +kernel
theorem dX5_occupy_4 : decode cX5_occupy 4 = .ok (.iload_n 1, 1) := by decide +kernel
theorem dX5_occupy_5 : decode cX5_occupy 5 = .ok (.aaload, 1) := by decide +kernel
theorem dX5_occupy_6 : decode cX5_occupy 6 = .ok (.astore 5, 2) := by decide +kernel
theorem dX5_occupy_8 : decode cX5_occupy 8 = .ok (.aload 5, 2) := by decide +kernel
theorem dX5_occupy_10 : decode cX5_occupy 10 = .ok (.iconst 1, 1) := by decide +kernel
theorem dX5_occupy_11 : decode cX5_occupy 11 = .ok (.putfield 70, 3) := by decide +kernel
theorem dX5_occupy_14 : decode cX5_occupy 14 = .ok (.aload 5, 2) := by decide +kernel
theorem dX5_occupy_16 : decode cX5_occupy 16 = .ok (.iconst 0, 1) := by decide +kernel
theorem dX5_occupy_17 : decode cX5_occupy 17 = .ok (.putfield 204, 3) := by decide +kernel
theorem dX5_occupy_20 : decode cX5_occupy 20 = .ok (.aload 5, 2) := by decide +kernel
theorem dX5_occupy_22 : decode cX5_occupy 22 = .ok (.iload_n 2, 1) := by decide +kernel
theorem dX5_occupy_23 : decode cX5_occupy 23 = .ok (.putfield 110, 3) := by decide +kernel
theorem dX5_occupy_26 : decode cX5_occupy 26 = .ok (.aload 5, 2) := by decide +kernel
theorem dX5_occupy_28 : decode cX5_occupy 28 = .ok (.iload_n 3, 1) := by decide +kernel
theorem dX5_occupy_29 : decode cX5_occupy 29 = .ok (.putfield 187, 3) := by decide +kernel
theorem dX5_occupy_32 : decode cX5_occupy 32 = .ok (.aload 5, 2) := by decide +kernel
theorem dX5_occupy_34 : decode cX5_occupy 34 = .ok (.iload 4, 2) := by decide +kernel
theorem dX5_occupy_36 : decode cX5_occupy 36 = .ok (.putfield 104, 3) := by decide +kernel
theorem dX5_occupy_39 : decode cX5_occupy 39 = .ok (.aload 5, 2) := by decide +kernel
theorem dX5_occupy_41 : decode cX5_occupy 41 = .ok (.iconst 0, 1) := by decide +kernel
theorem dX5_occupy_42 : decode cX5_occupy 42 = .ok (.putfield 98, 3) := by decide +kernel
theorem dX5_occupy_45 : decode cX5_occupy 45 = .ok (.aload_n 0, 1) := by decide +kernel
theorem dX5_occupy_46 : decode cX5_occupy 46 = .ok (.getfield 18, 3) := by decide +kernel
theorem dX5_occupy_49 : decode cX5_occupy 49 = .ok (.getfield 24, 3) := by decide +kernel
theorem dX5_occupy_52 : decode cX5_occupy 52 = .ok (.iload 4, 2) := by decide +kernel
theorem dX5_occupy_54 : decode cX5_occupy 54 = .ok (.iload 4, 2) := by decide +kernel
theorem dX5_occupy_56 : decode cX5_occupy 56 = .ok (.iload_n 2, 1) := by decide +kernel
theorem dX5_occupy_57 : decode cX5_occupy 57 = .ok (.iadd, 1) := by decide +kernel
theorem dX5_occupy_58 : decode cX5_occupy 58 = .ok (.iconst 0, 1) := by decide +kernel
theorem dX5_occupy_59 : decode cX5_occupy 59 = .ok (.invokestatic 210, 3) := by decide +kernel
theorem dX5_occupy_62 : decode cX5_occupy 62 = .ok (.aload_n 0, 1) := by decide +kernel
theorem dX5_occupy_63 : decode cX5_occupy 63 = .ok (.dup, 1) := by decide +kernel
theorem dX5_occupy_64 : decode cX5_occupy 64 = .ok (.getfield 63, 3) := by decide +kernel
theorem dX5_occupy_67 : decode cX5_occupy 67 = .ok (.iconst 1, 1) := by decide +kernel
theorem dX5_occupy_68 : decode cX5_occupy 68 = .ok (.iadd, 1) := by decide +kernel
theorem dX5_occupy_69 : decode cX5_occupy 69 = .ok (.putfield 63, 3) := by decide +kernel
theorem dX5_occupy_72 : decode cX5_occupy 72 = .ok (.return_, 1) := by decide +kernel
theorem dX5_vacate_0 : decode cX5_vacate 0 = .ok (.aload_n 0, 1) := by decide +kernel
theorem dX5_vacate_1 : decode cX5_vacate 1 = .ok (.getfield 18, 3) := by decide +kernel
theorem dX5_vacate_4 : decode cX5_vacate 4 = .ok (.aload_n 0, 1) := by decide +kernel
theorem dX5_vacate_5 : decode cX5_vacate 5 = .ok (.getfield 44, 3) := by decide +kernel
theorem dX5_vacate_8 : decode cX5_vacate 8 = .ok (.iload_n 1, 1) := by decide +kernel
theorem dX5_vacate_9 : decode cX5_vacate 9 = .ok (.aaload, 1) := by decide +kernel
theorem dX5_vacate_10 : decode cX5_vacate 10 = .ok (.getfield 104, 3) := by decide +kernel
theorem dX5_vacate_13 : decode cX5_vacate 13 = .ok (.aload_n 0, 1) := by decide +kernel
theorem dX5_vacate_14 : decode cX5_vacate 14 = .ok (.getfield 44, 3) := by decide +kernel
theorem dX5_vacate_17 : decode cX5_vacate 17 = .ok (.iload_n 1, 1) := by decide +kernel
theorem dX5_vacate_18 : decode cX5_vacate 18 = .ok (.aaload, 1) := by decide +kernel
theorem dX5_vacate_19 : decode cX5_vacate 19 = .ok (.getfield 187, 3) := by decide +kernel
theorem dX5_vacate_22 : decode cX5_vacate 22 = .ok (.invokevirtual 216, 3) := by decide +kernel
theorem dX5_vacate_25 : decode cX5_vacate 25 = .ok (.aload_n 0, 1) := by decide +kernel
theorem dX5_vacate_26 : decode cX5_vacate 26 = .ok (.getfield 44, 3) := by decide +kernel
theorem dX5_vacate_29 : decode cX5_vacate 29 = .ok (.iload_n 1, 1) := by decide +kernel
theorem dX5_vacate_30 : decode cX5_vacate 30 = .ok (.aaload, 1) := by decide +kernel
theorem dX5_vacate_31 : decode cX5_vacate 31 = .ok (.iconst 0, 1) := by decide +kernel
theorem dX5_vacate_32 : decode cX5_vacate 32 = .ok (.putfield 70, 3) := by decide +kernel
theorem dX5_vacate_35 : decode cX5_vacate 35 = .ok (.aload_n 0, 1) := by decide +kernel
theorem dX5_vacate_36 : decode cX5_vacate 36 = .ok (.dup, 1) := by decide +kernel
theorem dX5_vacate_37 : decode cX5_vacate 37 = .ok (.getfield 63, 3) := by decide +kernel
theorem dX5_vacate_40 : decode cX5_vacate 40 = .ok (.iconst 1, 1) := by decide +kernel
theorem dX5_vacate_41 : decode cX5_vacate 41 = .ok (.isub, 1) := by decide +kernel
theorem dX5_vacate_42 : decode cX5_vacate 42 = .ok (.putfield 63, 3) := by decide +kernel
theorem dX5_vacate_45 : decode cX5_vacate 45 = .ok (.return_, 1) := by decide +kernel
theorem dX5_changePins_0 : decode cX5_changePins 0 = .ok (.aload_n 0, 1) := by decide +kernel
theorem dX5_changePins_1 : decode cX5_changePins 1 = .ok (.getfield 44, 3) := by decide +kernel
theorem dX5_changePins_4 : decode cX5_changePins 4 = .ok (.aload_n 1, 1) := by decide +kernel
theorem dX5_changePins_5 : decode cX5_changePins 5 = .ok (.getfield 128, 3) := by decide +kernel
theorem dX5_changePins_8 : decode cX5_changePins 8 = .ok (.aaload, 1) := by decide +kernel
theorem dX5_changePins_9 : decode cX5_changePins 9 = .ok (.dup, 1) := by decide +kernel
theorem dX5_changePins_10 : decode cX5_changePins 10 = .ok (.getfield 98, 3) := by decide +kernel
theorem dX5_changePins_13 : decode cX5_changePins 13 = .ok (.iload_n 2, 1) := by decide +kernel
theorem dX5_changePins_14 : decode cX5_changePins 14 = .ok (.iadd, 1) := by decide +kernel
theorem dX5_changePins_15 : decode cX5_changePins 15 = .ok (.putfield 98, 3) := by decide +kernel
theorem dX5_changePins_18 : decode cX5_changePins 18 = .ok (.aload_n 0, 1) := by decide +kernel
theorem dX5_changePins_19 : decode cX5_changePins 19 = .ok (.getfield 44, 3) := by decide +kernel
theorem dX5_changePins_22 : decode cX5_changePins 22 = .ok (.aload_n 1, 1) := by decide +kernel
theorem dX5_changePins_23 : decode cX5_changePins 23 = .ok (.getfield 131, 3) := by decide +kernel
theorem dX5_changePins_26 : decode cX5_changePins 26 = .ok (.aaload, 1) := by decide +kernel
theorem dX5_changePins_27 : decode cX5_changePins 27 = .ok (.dup, 1) := by decide +kernel
theorem dX5_changePins_28 : decode cX5_changePins 28 = .ok (.getfield 98, 3) := by decide +kernel
theorem dX5_changePins_31 : decode cX5_changePins 31 = .ok (.iload_n 2, 1) := by decide +kernel
theorem dX5_changePins_32 : decode cX5_changePins 32 = .ok (.iadd, 1) := by decide +kernel
theorem dX5_changePins_33 : decode cX5_changePins 33 = .ok (.putfield 98, 3) := by decide +kernel
theorem dX5_changePins_36 : decode cX5_changePins 36 = .ok (.aload_n 1, 1) := by decide +kernel
theorem dX5_changePins_37 : decode cX5_changePins 37 = .ok (.getfield 125, 3) := by decide +kernel
theorem dX5_changePins_40 : decode cX5_changePins 40 = .ok (.iconst 3, 1) := by decide +kernel
theorem dX5_changePins_41 : decode cX5_changePins 41 = .ok (.if_icmp .ne 21, 3) := by decide +kernel
theorem dX5_changePins_44 : decode cX5_changePins 44 = .ok (.aload_n 0, 1) := by decide +kernel
theorem dX5_changePins_45 : decode cX5_changePins 45 = .ok (.getfield 44, 3) := by decide +kernel
theorem dX5_changePins_48 : decode cX5_changePins 48 = .ok (.aload_n 1, 1) := by decide +kernel
theorem dX5_changePins_49 : decode cX5_changePins 49 = .ok (.getfield 134, 3) := by decide +kernel
theorem dX5_changePins_52 : decode cX5_changePins 52 = .ok (.aaload, 1) := by decide +kernel
theorem dX5_changePins_53 : decode cX5_changePins 53 = .ok (.dup, 1) := by decide +kernel
theorem dX5_changePins_54 : decode cX5_changePins 54 = .ok (.getfield 98, 3) := by decide +kernel
theorem dX5_changePins_57 : decode cX5_changePins 57 = .ok (.iload_n 2, 1) := by decide +kernel
theorem dX5_changePins_58 : decode cX5_changePins 58 = .ok (.iadd, 1) := by decide +kernel
theorem dX5_changePins_59 : decode cX5_changePins 59 = .ok (.putfield 98, 3) := by decide +kernel
theorem dX5_changePins_62 : decode cX5_changePins 62 = .ok (.return_, 1) := by decide +kernel
theorem dX5_takeTurn_0 : decode cX5_takeTurn 0 = .ok (.aload_n 0, 1) := by decide +kernel
theorem dX5_takeTurn_1 : decode cX5_takeTurn 1 = .ok (.getfield 52, 3) := by decide +kernel
theorem dX5_takeTurn_4 : decode cX5_takeTurn 4 = .ok (.invokevirtual 220, 3) := by decide +kernel
theorem dX5_takeTurn_7 : decode cX5_takeTurn 7 = .ok (.istore_n 1, 1) := by decide +kernel
theorem dX5_takeTurn_8 : decode cX5_takeTurn 8 = .ok (.iload_n 1, 1) := by decide +kernel
theorem dX5_takeTurn_9 : decode cX5_takeTurn 9 = .ok (.iconst (-1), 1) := by decide +kernel
theorem dX5_takeTurn_10 : decode cX5_takeTurn 10 = .ok (.if_icmp .ne 5, 3) := by decide +kernel
theorem dX5_takeTurn_13 : decode cX5_takeTurn 13 = .ok (.iconst (-1), 1) := by decide +kernel
theorem dX5_takeTurn_14 : decode cX5_takeTurn 14 = .ok (.ireturn, 1) := by decide +kernel
theorem dX5_takeTurn_15 : decode cX5_takeTurn 15 = .ok (.aload_n 0, 1) := by decide +kernel
theorem dX5_takeTurn_16 : decode cX5_takeTurn 16 = .ok (.dup, 1) := by decide +kernel
theorem dX5_takeTurn_17 : decode cX5_takeTurn 17 = .ok (.getfield 75, 3) := by decide +kernel
theorem dX5_takeTurn_20 : decode cX5_takeTurn 20 = .ok (.iconst 1, 1) := by decide +kernel
theorem dX5_takeTurn_21 : decode cX5_takeTurn 21 = .ok (.iadd, 1) := by decide +kernel
theorem dX5_takeTurn_22 : decode cX5_takeTurn 22 = .ok (.putfield 75, 3) := by decide +kernel
theorem dX5_takeTurn_25 : decode cX5_takeTurn 25 = .ok (.aload_n 0, 1) := by decide +kernel
theorem dX5_takeTurn_26 : decode cX5_takeTurn 26 = .ok (.getfield 37, 3) := by decide +kernel
theorem dX5_takeTurn_29 : decode cX5_takeTurn 29 = .ok (.iload_n 1, 1) := by decide +kernel
theorem dX5_takeTurn_30 : decode cX5_takeTurn 30 = .ok (.aaload, 1) := by decide +kernel
theorem dX5_takeTurn_31 : decode cX5_takeTurn 31 = .ok (.astore_n 2, 1) := by decide +kernel
theorem dX5_takeTurn_32 : decode cX5_takeTurn 32 = .ok (.aload_n 2, 1) := by decide +kernel
theorem dX5_takeTurn_33 : decode cX5_takeTurn 33 = .ok (.getfield 141, 3) := by decide +kernel
theorem dX5_takeTurn_36 : decode cX5_takeTurn 36 = .ok (.ifCond .ne 11, 3) := by decide +kernel
theorem dX5_takeTurn_39 : decode cX5_takeTurn 39 = .ok (.aload_n 0, 1) := by decide +kernel
theorem dX5_takeTurn_40 : decode cX5_takeTurn 40 = .ok (.aload_n 2, 1) := by decide +kernel
theorem dX5_takeTurn_41 : decode cX5_takeTurn 41 = .ok (.invokevirtual 223, 3) := by decide +kernel
theorem dX5_takeTurn_44 : decode cX5_takeTurn 44 = .ok (.goto 36, 3) := by decide +kernel
theorem dX5_takeTurn_47 : decode cX5_takeTurn 47 = .ok (.aload_n 2, 1) := by decide +kernel
theorem dX5_takeTurn_48 : decode cX5_takeTurn 48 = .ok (.dup, 1) := by decide +kernel
theorem dX5_takeTurn_49 : decode cX5_takeTurn 49 = .ok (.getfield 157, 3) := by decide +kernel
theorem dX5_takeTurn_52 : decode cX5_takeTurn 52 = .ok (.aload_n 0, 1) := by decide +kernel
theorem dX5_takeTurn_53 : decode cX5_takeTurn 53 = .ok (.getfield 56, 3) := by decide +kernel
theorem dX5_takeTurn_56 : decode cX5_takeTurn 56 = .ok (.i2l, 1) := by decide +kernel
theorem dX5_takeTurn_57 : decode cX5_takeTurn 57 = .ok (.lsub, 1) := by decide +kernel
theorem dX5_takeTurn_58 : decode cX5_takeTurn 58 = .ok (.putfield 157, 3) := by decide +kernel
theorem dX5_takeTurn_61 : decode cX5_takeTurn 61 = .ok (.aload_n 2, 1) := by decide +kernel
theorem dX5_takeTurn_62 : decode cX5_takeTurn 62 = .ok (.getfield 157, 3) := by decide +kernel
theorem dX5_takeTurn_65 : decode cX5_takeTurn 65 = .ok (.lconst 0, 1) := by decide +kernel
theorem dX5_takeTurn_66 : decode cX5_takeTurn 66 = .ok (.lcmp, 1) := by decide +kernel

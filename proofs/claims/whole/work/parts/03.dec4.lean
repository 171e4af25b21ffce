theorem dX7_lay_47 : decode cX7_lay 47 = .ok (.goto (-27), 3) := by decide +kernel
theorem dX7_lay_50 : decode cX7_lay 50 = .ok (.aload_n 0, 1) := by decide +kernel
theorem dX7_lay_51 : decode cX7_lay 51 = .ok (.getfield 7, 3) := by decide +kernel
theorem dX7_lay_54 : decode cX7_lay 54 = .ok (.bipush 7, 2) := by decide +kernel
theorem dX7_lay_56 : decode cX7_lay 56 = .ok (.iload_n 1, 1) := by decide +kernel
theorem dX7_lay_57 : decode cX7_lay 57 = .ok (.iadd, 1) := by decide +kernel
theorem dX7_lay_58 : decode cX7_lay 58 = .ok (.aload_n 0, 1) := by decide +kernel
theorem dX7_lay_59 : decode cX7_lay 59 = .ok (.getfield 62, 3) := by decide +kernel
theorem dX7_lay_62 : decode cX7_lay 62 = .ok (.iastore, 1) := by decide +kernel
theorem dX7_lay_63 : decode cX7_lay 63 = .ok (.iconst 0, 1) := by decide +kernel
theorem dX7_lay_64 : decode cX7_lay 64 = .ok (.istore_n 3, 1) := by decide +kernel
theorem dX7_lay_65 : decode cX7_lay 65 = .ok (.iconst 0, 1) := by decide +kernel
theorem dX7_lay_66 : decode cX7_lay 66 = .ok (.istore 4, 2) := by decide +kernel
theorem dX7_lay_68 : decode cX7_lay 68 = .ok (.iload 4, 2) := by decide +kernel
theorem dX7_lay_70 : decode cX7_lay 70 = .ok (.aload_n 0, 1) := by decide +kernel
theorem dX7_lay_71 : decode cX7_lay 71 = .ok (.getfield 72, 3) := by decide +kernel
theorem dX7_lay_74 : decode cX7_lay 74 = .ok (.if_icmp .ge 116, 3) := by decide +kernel
theorem dX7_lay_77 : decode cX7_lay 77 = .ok (.aload_n 0, 1) := by decide +kernel
theorem dX7_lay_78 : decode cX7_lay 78 = .ok (.iload 4, 2) := by decide +kernel
theorem dX7_lay_80 : decode cX7_lay 80 = .ok (.invokevirtual 135, 3) := by decide +kernel
theorem dX7_lay_83 : decode cX7_lay 83 = .ok (.istore 5, 2) := by decide +kernel
theorem dX7_lay_85 : decode cX7_lay 85 = .ok (.iconst 1, 1) := by decide +kernel
theorem dX7_lay_86 : decode cX7_lay 86 = .ok (.istore 6, 2) := by decide +kernel
theorem dX7_lay_88 : decode cX7_lay 88 = .ok (.iload 6, 2) := by decide +kernel
theorem dX7_lay_90 : decode cX7_lay 90 = .ok (.aload_n 0, 1) := by decide +kernel
theorem dX7_lay_91 : decode cX7_lay 91 = .ok (.getfield 32, 3) := by decide +kernel
theorem dX7_lay_94 : decode cX7_lay 94 = .ok (.iload 4, 2) := by decide +kernel
theorem dX7_lay_96 : decode cX7_lay 96 = .ok (.iaload, 1) := by decide +kernel
theorem dX7_lay_97 : decode cX7_lay 97 = .ok (.if_icmp .gt 87, 3) := by decide +kernel
theorem dX7_lay_100 : decode cX7_lay 100 = .ok (.aload_n 0, 1) := by decide +kernel
theorem dX7_lay_101 : decode cX7_lay 101 = .ok (.getfield 7, 3) := by decide +kernel
theorem dX7_lay_104 : decode cX7_lay 104 = .ok (.bipush 11, 2) := by decide +kernel
theorem dX7_lay_106 : decode cX7_lay 106 = .ok (.bipush 40, 2) := by decide +kernel
theorem dX7_lay_108 : decode cX7_lay 108 = .ok (.iload_n 1, 1) := by decide +kernel
theorem dX7_lay_109 : decode cX7_lay 109 = .ok (.imul, 1) := by decide +kernel
theorem dX7_lay_110 : decode cX7_lay 110 = .ok (.iadd, 1) := by decide +kernel
theorem dX7_lay_111 : decode cX7_lay 111 = .ok (.iload_n 3, 1) := by decide +kernel
theorem dX7_lay_112 : decode cX7_lay 112 = .ok (.iadd, 1) := by decide +kernel
theorem dX7_lay_113 : decode cX7_lay 113 = .ok (.aload_n 0, 1) := by decide +kernel
theorem dX7_lay_114 : decode cX7_lay 114 = .ok (.getfield 26, 3) := by decide +kernel
theorem dX7_lay_117 : decode cX7_lay 117 = .ok (.iload_n 3, 1) := by decide +kernel
theorem dX7_lay_118 : decode cX7_lay 118 = .ok (.iaload, 1) := by decide +kernel
theorem dX7_lay_119 : decode cX7_lay 119 = .ok (.iastore, 1) := by decide +kernel
theorem dX7_lay_120 : decode cX7_lay 120 = .ok (.aload_n 0, 1) := by decide +kernel
theorem dX7_lay_121 : decode cX7_lay 121 = .ok (.getfield 7, 3) := by decide +kernel
theorem dX7_lay_124 : decode cX7_lay 124 = .ok (.sipush 171, 3) := by decide +kernel
theorem dX7_lay_127 : decode cX7_lay 127 = .ok (.bipush 40, 2) := by decide +kernel
theorem dX7_lay_129 : decode cX7_lay 129 = .ok (.iload_n 1, 1) := by decide +kernel
theorem dX7_lay_130 : decode cX7_lay 130 = .ok (.imul, 1) := by decide +kernel
theorem dX7_lay_131 : decode cX7_lay 131 = .ok (.iadd, 1) := by decide +kernel
theorem dX7_lay_132 : decode cX7_lay 132 = .ok (.iload_n 3, 1) := by decide +kernel
theorem dX7_lay_133 : decode cX7_lay 133 = .ok (.iadd, 1) := by decide +kernel
theorem dX7_lay_134 : decode cX7_lay 134 = .ok (.iload 6, 2) := by decide +kernel
theorem dX7_lay_136 : decode cX7_lay 136 = .ok (.aload_n 0, 1) := by decide +kernel
theorem dX7_lay_137 : decode cX7_lay 137 = .ok (.getfield 32, 3) := by decide +kernel
theorem dX7_lay_140 : decode cX7_lay 140 = .ok (.iload 4, 2) := by decide +kernel
theorem dX7_lay_142 : decode cX7_lay 142 = .ok (.iaload, 1) := by decide +kernel
theorem dX7_lay_143 : decode cX7_lay 143 = .ok (.if_icmp .ne 13, 3) := by decide +kernel
theorem dX7_lay_146 : decode cX7_lay 146 = .ok (.aload_n 0, 1) := by decide +kernel
theorem dX7_lay_147 : decode cX7_lay 147 = .ok (.getfield 35, 3) := by decide +kernel
theorem dX7_lay_150 : decode cX7_lay 150 = .ok (.iload 4, 2) := by decide +kernel
theorem dX7_lay_152 : decode cX7_lay 152 = .ok (.iaload, 1) := by decide +kernel
theorem dX7_lay_153 : decode cX7_lay 153 = .ok (.goto 4, 3) := by decide +kernel
theorem dX7_lay_156 : decode cX7_lay 156 = .ok (.iconst 0, 1) := by decide +kernel
theorem dX7_lay_157 : decode cX7_lay 157 = .ok (.iastore, 1) := by decide +kernel
theorem dX7_lay_158 : decode cX7_lay 158 = .ok (.aload_n 0, 1) := by decide +kernel
theorem dX7_lay_159 : decode cX7_lay 159 = .ok (.getfield 7, 3) := by decide +kernel
theorem dX7_lay_162 : decode cX7_lay 162 = .ok (.sipush 331, 3) := by decide +kernel
theorem dX7_lay_165 : decode cX7_lay 165 = .ok (.bipush 40, 2) := by decide +kernel
theorem dX7_lay_167 : decode cX7_lay 167 = .ok (.iload_n 1, 1) := by decide +kernel
theorem dX7_lay_168 : decode cX7_lay 168 = .ok (.imul, 1) := by decide +kernel
theorem dX7_lay_169 : decode cX7_lay 169 = .ok (.iadd, 1) := by decide +kernel
theorem dX7_lay_170 : decode cX7_lay 170 = .ok (.iload_n 3, 1) := by decide +kernel
theorem dX7_lay_171 : decode cX7_lay 171 = .ok (.iadd, 1) := by decide +kernel
theorem dX7_lay_172 : decode cX7_lay 172 = .ok (.iload 5, 2) := by decide +kernel
theorem dX7_lay_174 : decode cX7_lay 174 = .ok (.iastore, 1) := by decide +kernel
theorem dX7_lay_175 : decode cX7_lay 175 = .ok (.iinc 3 1, 3) := by decide +kernel
theorem dX7_lay_178 : decode cX7_lay 178 = .ok (.iinc 6 1, 3) := by decide +kernel
theorem dX7_lay_181 : decode cX7_lay 181 = .ok (.goto (-93), 3) := by decide +kernel
theorem dX7_lay_184 : decode cX7_lay 184 = .ok (.iinc 4 1, 3) := by decide +kernel
theorem dX7_lay_187 : decode cX7_lay 187 = .ok (.goto (-119), 3) := by decide +kernel
theorem dX7_lay_190 : decode cX7_lay 190 = .ok (.aload_n 0, 1) := by decide +kernel
theorem dX7_lay_191 : decode cX7_lay 191 = .ok (.getfield 72, 3) := by decide +kernel
theorem dX7_lay_194 : decode cX7_lay 194 = .ok (.ireturn, 1) := by decide +kernel
theorem dX7_takes_0 : decode cX7_takes 0 = .ok (.aload_n 0, 1) := by decide +kernel
theorem dX7_takes_1 : decode cX7_takes 1 = .ok (.getfield 138, 3) := by decide +kernel
theorem dX7_takes_4 : decode cX7_takes 4 = .ok (.istore_n 2, 1) := by decide +kernel
theorem dX7_takes_5 : decode cX7_takes 5 = .ok (.iload_n 1, 1) := by decide +kernel
theorem dX7_takes_6 : decode cX7_takes 6 = .ok (.bipush 97, 2) := by decide +kernel
theorem dX7_takes_8 : decode cX7_takes 8 = .ok (.bipush 104, 2) := by decide +kernel
theorem dX7_takes_10 : decode cX7_takes 10 = .ok (.invokestatic 54, 3) := by decide +kernel
theorem dX7_takes_13 : decode cX7_takes 13 = .ok (.istore_n 3, 1) := by decide +kernel
theorem dX7_takes_14 : decode cX7_takes 14 = .ok (.iload_n 3, 1) := by decide +kernel
theorem dX7_takes_15 : decode cX7_takes 15 = .ok (.ifCond .eq 7, 3) := by decide +kernel
theorem dX7_takes_18 : decode cX7_takes 18 = .ok (.iconst 1, 1) := by decide +kernel
theorem dX7_takes_19 : decode cX7_takes 19 = .ok (.goto 26, 3) := by decide +kernel
theorem dX7_takes_22 : decode cX7_takes 22 = .ok (.iload_n 2, 1) := by decide +kernel
theorem dX7_takes_23 : decode cX7_takes 23 = .ok (.ifCond .eq 21, 3) := by decide +kernel
theorem dX7_takes_26 : decode cX7_takes 26 = .ok (.iload_n 1, 1) := by decide +kernel
theorem dX7_takes_27 : decode cX7_takes 27 = .ok (.bipush 50, 2) := by decide +kernel
theorem dX7_takes_29 : decode cX7_takes 29 = .ok (.bipush 57, 2) := by decide +kernel
theorem dX7_takes_31 : decode cX7_takes 31 = .ok (.invokestatic 54, 3) := by decide +kernel
theorem dX7_takes_34 : decode cX7_takes 34 = .ok (.ifCond .eq 10, 3) := by decide +kernel
theorem dX7_takes_37 : decode cX7_takes 37 = .ok (.iload_n 1, 1) := by decide +kernel
theorem dX7_takes_38 : decode cX7_takes 38 = .ok (.bipush 49, 2) := by decide +kernel
theorem dX7_takes_40 : decode cX7_takes 40 = .ok (.isub, 1) := by decide +kernel
theorem dX7_takes_41 : decode cX7_takes 41 = .ok (.goto 4, 3) := by decide +kernel
theorem dX7_takes_44 : decode cX7_takes 44 = .ok (.iconst 0, 1) := by decide +kernel
theorem dX7_takes_45 : decode cX7_takes 45 = .ok (.istore 4, 2) := by decide +kernel
theorem dX7_takes_47 : decode cX7_takes 47 = .ok (.iload 4, 2) := by decide +kernel
theorem dX7_takes_49 : decode cX7_takes 49 = .ok (.ifCond .le 19, 3) := by decide +kernel
theorem dX7_takes_52 : decode cX7_takes 52 = .ok (.aload_n 0, 1) := by decide +kernel
theorem dX7_takes_53 : decode cX7_takes 53 = .ok (.getfield 142, 3) := by decide +kernel
theorem dX7_takes_56 : decode cX7_takes 56 = .ok (.iload 4, 2) := by decide +kernel
theorem dX7_takes_58 : decode cX7_takes 58 = .ok (.iadd, 1) := by decide +kernel
theorem dX7_takes_59 : decode cX7_takes 59 = .ok (.bipush 40, 2) := by decide +kernel
theorem dX7_takes_61 : decode cX7_takes 61 = .ok (.if_icmp .gt 7, 3) := by decide +kernel
theorem dX7_takes_64 : decode cX7_takes 64 = .ok (.iconst 1, 1) := by decide +kernel
theorem dX7_takes_65 : decode cX7_takes 65 = .ok (.goto 4, 3) := by decide +kernel
theorem dX7_takes_68 : decode cX7_takes 68 = .ok (.iconst 0, 1) := by decide +kernel
theorem dX7_takes_69 : decode cX7_takes 69 = .ok (.istore 5, 2) := by decide +kernel
theorem dX7_takes_71 : decode cX7_takes 71 = .ok (.aload_n 0, 1) := by decide +kernel
theorem dX7_takes_72 : decode cX7_takes 72 = .ok (.iload_n 3, 1) := by decide +kernel
theorem dX7_takes_73 : decode cX7_takes 73 = .ok (.putfield 138, 3) := by decide +kernel
theorem dX7_takes_76 : decode cX7_takes 76 = .ok (.iconst 0, 1) := by decide +kernel
theorem dX7_takes_77 : decode cX7_takes 77 = .ok (.istore 6, 2) := by decide +kernel
theorem dX7_takes_79 : decode cX7_takes 79 = .ok (.iload 5, 2) := by decide +kernel
theorem dX7_takes_81 : decode cX7_takes 81 = .ok (.ifCond .eq 59, 3) := by decide +kernel
theorem dX7_takes_84 : decode cX7_takes 84 = .ok (.iload 6, 2) := by decide +kernel
theorem dX7_takes_86 : decode cX7_takes 86 = .ok (.iload 4, 2) := by decide +kernel
theorem dX7_takes_88 : decode cX7_takes 88 = .ok (.if_icmp .ge 52, 3) := by decide +kernel
theorem dX7_takes_91 : decode cX7_takes 91 = .ok (.aload_n 0, 1) := by decide +kernel
theorem dX7_takes_92 : decode cX7_takes 92 = .ok (.getfield 38, 3) := by decide +kernel
theorem dX7_takes_95 : decode cX7_takes 95 = .ok (.aload_n 0, 1) := by decide +kernel
theorem dX7_takes_96 : decode cX7_takes 96 = .ok (.getfield 142, 3) := by decide +kernel
theorem dX7_takes_99 : decode cX7_takes 99 = .ok (.iload_n 3, 1) := by decide +kernel
theorem dX7_takes_100 : decode cX7_takes 100 = .ok (.ifCond .eq 12, 3) := by decide +kernel
theorem dX7_takes_103 : decode cX7_takes 103 = .ok (.iload_n 1, 1) := by decide +kernel
theorem dX7_takes_104 : decode cX7_takes 104 = .ok (.bipush 97, 2) := by decide +kernel
theorem dX7_takes_106 : decode cX7_takes 106 = .ok (.isub, 1) := by decide +kernel
theorem dX7_takes_107 : decode cX7_takes 107 = .ok (.iconst 1, 1) := by decide +kernel
theorem dX7_takes_108 : decode cX7_takes 108 = .ok (.iadd, 1) := by decide +kernel
theorem dX7_takes_109 : decode cX7_takes 109 = .ok (.goto 14, 3) := by decide +kernel
theorem dX7_takes_112 : decode cX7_takes 112 = .ok (.aload_n 0, 1) := by decide +kernel
theorem dX7_takes_113 : decode cX7_takes 113 = .ok (.getfield 38, 3) := by decide +kernel
theorem dX7_takes_116 : decode cX7_takes 116 = .ok (.aload_n 0, 1) := by decide +kernel
theorem dX7_takes_117 : decode cX7_takes 117 = .ok (.getfield 142, 3) := by decide +kernel
theorem dX7_takes_120 : decode cX7_takes 120 = .ok (.iconst 1, 1) := by decide +kernel
theorem dX7_takes_121 : decode cX7_takes 121 = .ok (.isub, 1) := by decide +kernel
theorem dX7_takes_122 : decode cX7_takes 122 = .ok (.iaload, 1) := by decide +kernel
theorem dX7_takes_123 : decode cX7_takes 123 = .ok (.iastore, 1) := by decide +kernel
theorem dX7_takes_124 : decode cX7_takes 124 = .ok (.aload_n 0, 1) := by decide +kernel
theorem dX7_takes_125 : decode cX7_takes 125 = .ok (.dup, 1) := by decide +kernel
theorem dX7_takes_126 : decode cX7_takes 126 = .ok (.getfield 142, 3) := by decide +kernel
theorem dX7_takes_129 : decode cX7_takes 129 = .ok (.iconst 1, 1) := by decide +kernel
theorem dX7_takes_130 : decode cX7_takes 130 = .ok (.iadd, 1) := by decide +kernel
theorem dX7_takes_131 : decode cX7_takes 131 = .ok (.putfield 142, 3) := by decide +kernel
theorem dX7_takes_134 : decode cX7_takes 134 = .ok (.iinc 6 1, 3) := by decide +kernel
theorem dX7_takes_137 : decode cX7_takes 137 = .ok (.goto (-58), 3) := by decide +kernel
theorem dX7_takes_140 : decode cX7_takes 140 = .ok (.iload 5, 2) := by decide +kernel
theorem dX7_takes_142 : decode cX7_takes 142 = .ok (.ireturn, 1) := by decide +kernel
theorem dX7_rightUpTo_0 : decode cX7_rightUpTo 0 = .ok (.aload_n 0, 1) := by decide +kernel
theorem dX7_rightUpTo_1 : decode cX7_rightUpTo 1 = .ok (.iconst 0, 1) := by decide +kernel
theorem dX7_rightUpTo_2 : decode cX7_rightUpTo 2 = .ok (.putfield 142, 3) := by decide +kernel
theorem dX7_rightUpTo_5 : decode cX7_rightUpTo 5 = .ok (.aload_n 0, 1) := by decide +kernel
theorem dX7_rightUpTo_6 : decode cX7_rightUpTo 6 = .ok (.iconst 0, 1) := by decide +kernel
theorem dX7_rightUpTo_7 : decode cX7_rightUpTo 7 = .ok (.putfield 138, 3) := by decide +kernel
theorem dX7_rightUpTo_10 : decode cX7_rightUpTo 10 = .ok (.iconst 0, 1) := by decide +kernel
theorem dX7_rightUpTo_11 : decode cX7_rightUpTo 11 = .ok (.istore_n 1, 1) := by decide +kernel
theorem dX7_rightUpTo_12 : decode cX7_rightUpTo 12 = .ok (.iload_n 1, 1) := by decide +kernel
theorem dX7_rightUpTo_13 : decode cX7_rightUpTo 13 = .ok (.aload_n 0, 1) := by decide +kernel
theorem dX7_rightUpTo_14 : decode cX7_rightUpTo 14 = .ok (.getfield 145, 3) := by decide +kernel
theorem dX7_rightUpTo_17 : decode cX7_rightUpTo 17 = .ok (.if_icmp .ge 22, 3) := by decide +kernel
theorem dX7_rightUpTo_20 : decode cX7_rightUpTo 20 = .ok (.aload_n 0, 1) := by decide +kernel
theorem dX7_rightUpTo_21 : decode cX7_rightUpTo 21 = .ok (.aload_n 0, 1) := by decide +kernel
theorem dX7_rightUpTo_22 : decode cX7_rightUpTo 22 = .ok (.getfield 23, 3) := by decide +kernel
theorem dX7_rightUpTo_25 : decode cX7_rightUpTo 25 = .ok (.iload_n 1, 1) := by decide +kernel
theorem dX7_rightUpTo_26 : decode cX7_rightUpTo 26 = .ok (.iaload, 1) := by decide +kernel
theorem dX7_rightUpTo_27 : decode cX7_rightUpTo 27 = .ok (.invokevirtual 148, 3) := by decide +kernel
theorem dX7_rightUpTo_30 : decode cX7_rightUpTo 30 = .ok (.ifCond .eq 9, 3) := by decide +kernel
theorem dX7_rightUpTo_33 : decode cX7_rightUpTo 33 = .ok (.iinc 1 1, 3) := by decide +kernel
theorem dX7_rightUpTo_36 : decode cX7_rightUpTo 36 = .ok (.goto (-24), 3) := by decide +kernel
theorem dX7_rightUpTo_39 : decode cX7_rightUpTo 39 = .ok (.iload_n 1, 1) := by decide +kernel
theorem dX7_rightUpTo_40 : decode cX7_rightUpTo 40 = .ok (.ireturn, 1) := by decide +kernel
theorem dX7_isWhole_0 : decode cX7_isWhole 0 = .ok (.aload_n 0, 1) := by decide +kernel
theorem dX7_isWhole_1 : decode cX7_isWhole 1 = .ok (.invokevirtual 151, 3) := by decide +kernel
theorem dX7_isWhole_4 : decode cX7_isWhole 4 = .ok (.aload_n 0, 1) := by decide +kernel
theorem dX7_isWhole_5 : decode cX7_isWhole 5 = .ok (.getfield 145, 3) := by decide +kernel
theorem dX7_isWhole_8 : decode cX7_isWhole 8 = .ok (.if_icmp .ne 14, 3) := by decide +kernel
theorem dX7_isWhole_11 : decode cX7_isWhole 11 = .ok (.aload_n 0, 1) := by decide +kernel
theorem dX7_isWhole_12 : decode cX7_isWhole 12 = .ok (.getfield 145, 3) := by decide +kernel
theorem dX7_isWhole_15 : decode cX7_isWhole 15 = .ok (.ifCond .le 7, 3) := by decide +kernel
theorem dX7_isWhole_18 : decode cX7_isWhole 18 = .ok (.iconst 1, 1) := by decide +kernel
theorem dX7_isWhole_19 : decode cX7_isWhole 19 = .ok (.goto 4, 3) := by decide +kernel
theorem dX7_isWhole_22 : decode cX7_isWhole 22 = .ok (.iconst 0, 1) := by decide +kernel
theorem dX7_isWhole_23 : decode cX7_isWhole 23 = .ok (.ireturn, 1) := by decide +kernel
theorem dX7_takeTold_0 : decode cX7_takeTold 0 = .ok (.aload_n 0, 1) := by decide +kernel
theorem dX7_takeTold_1 : decode cX7_takeTold 1 = .ok (.aload_n 0, 1) := by decide +kernel
theorem dX7_takeTold_2 : decode cX7_takeTold 2 = .ok (.getfield 142, 3) := by decide +kernel
theorem dX7_takeTold_5 : decode cX7_takeTold 5 = .ok (.putfield 62, 3) := by decide +kernel
theorem dX7_takeTold_8 : decode cX7_takeTold 8 = .ok (.iconst 0, 1) := by decide +kernel
theorem dX7_takeTold_9 : decode cX7_takeTold 9 = .ok (.istore_n 1, 1) := by decide +kernel
theorem dX7_takeTold_10 : decode cX7_takeTold 10 = .ok (.iload_n 1, 1) := by decide +kernel
theorem dX7_takeTold_11 : decode cX7_takeTold 11 = .ok (.aload_n 0, 1) := by decide +kernel
theorem dX7_takeTold_12 : decode cX7_takeTold 12 = .ok (.getfield 62, 3) := by decide +kernel
theorem dX7_takeTold_15 : decode cX7_takeTold 15 = .ok (.if_icmp .ge 21, 3) := by decide +kernel
theorem dX7_takeTold_18 : decode cX7_takeTold 18 = .ok (.aload_n 0, 1) := by decide +kernel
theorem dX7_takeTold_19 : decode cX7_takeTold 19 = .ok (.getfield 26, 3) := by decide +kernel
theorem dX7_takeTold_22 : decode cX7_takeTold 22 = .ok (.iload_n 1, 1) := by decide +kernel
theorem dX7_takeTold_23 : decode cX7_takeTold 23 = .ok (.aload_n 0, 1) := by decide +kernel
theorem dX7_takeTold_24 : decode cX7_takeTold 24 = .ok (.getfield 38, 3) := by decide +kernel
theorem dX7_takeTold_27 : decode cX7_takeTold 27 = .ok (.iload_n 1, 1) := by decide +kernel
theorem dX7_takeTold_28 : decode cX7_takeTold 28 = .ok (.iaload, 1) := by decide +kernel
theorem dX7_takeTold_29 : decode cX7_takeTold 29 = .ok (.iastore, 1) := by decide +kernel
theorem dX7_takeTold_30 : decode cX7_takeTold 30 = .ok (.iinc 1 1, 3) := by decide +kernel
theorem dX7_takeTold_33 : decode cX7_takeTold 33 = .ok (.goto (-23), 3) := by decide +kernel
theorem dX7_takeTold_36 : decode cX7_takeTold 36 = .ok (.aload_n 0, 1) := by decide +kernel
theorem dX7_takeTold_37 : decode cX7_takeTold 37 = .ok (.invokevirtual 154, 3) := by decide +kernel
theorem dX7_takeTold_40 : decode cX7_takeTold 40 = .ok (.return_, 1) := by decide +kernel
theorem dX7_put_0 : decode cX7_put 0 = .ok (.aload_n 0, 1) := by decide +kernel
theorem dX7_put_1 : decode cX7_put 1 = .ok (.iload_n 1, 1) := by decide +kernel
theorem dX7_put_2 : decode cX7_put 2 = .ok (.invokestatic 157, 3) := by decide +kernel
theorem dX7_put_5 : decode cX7_put 5 = .ok (.ifCond .ne 7, 3) := by decide +kernel
theorem dX7_put_8 : decode cX7_put 8 = .ok (.iconst 1, 1) := by decide +kernel
theorem dX7_put_9 : decode cX7_put 9 = .ok (.goto 15, 3) := by decide +kernel
theorem dX7_put_12 : decode cX7_put 12 = .ok (.aload_n 0, 1) := by decide +kernel
theorem dX7_put_13 : decode cX7_put 13 = .ok (.invokevirtual 160, 3) := by decide +kernel
theorem dX7_put_16 : decode cX7_put 16 = .ok (.ifCond .eq 7, 3) := by decide +kernel
theorem dX7_put_19 : decode cX7_put 19 = .ok (.iconst 0, 1) := by decide +kernel
theorem dX7_put_20 : decode cX7_put 20 = .ok (.goto 4, 3) := by decide +kernel
theorem dX7_put_23 : decode cX7_put 23 = .ok (.iconst 2, 1) := by decide +kernel
theorem dX7_put_24 : decode cX7_put 24 = .ok (.putfield 47, 3) := by decide +kernel
theorem dX7_put_27 : decode cX7_put 27 = .ok (.aload_n 0, 1) := by decide +kernel
theorem dX7_put_28 : decode cX7_put 28 = .ok (.getfield 47, 3) := by decide +kernel
theorem dX7_put_31 : decode cX7_put 31 = .ok (.ifCond .ne 24, 3) := by decide +kernel
theorem dX7_put_34 : decode cX7_put 34 = .ok (.aload_n 0, 1) := by decide +kernel
theorem dX7_put_35 : decode cX7_put 35 = .ok (.invokevirtual 163, 3) := by decide +kernel
theorem dX7_put_38 : decode cX7_put 38 = .ok (.aload_n 0, 1) := by decide +kernel
theorem dX7_put_39 : decode cX7_put 39 = .ok (.aload_n 0, 1) := by decide +kernel
theorem dX7_put_40 : decode cX7_put 40 = .ok (.iload_n 1, 1) := by decide +kernel
theorem dX7_put_41 : decode cX7_put 41 = .ok (.invokevirtual 166, 3) := by decide +kernel
theorem dX7_put_44 : decode cX7_put 44 = .ok (.ifCond .eq 7, 3) := by decide +kernel
theorem dX7_put_47 : decode cX7_put 47 = .ok (.iconst 3, 1) := by decide +kernel
theorem dX7_put_48 : decode cX7_put 48 = .ok (.goto 4, 3) := by decide +kernel
theorem dX7_put_51 : decode cX7_put 51 = .ok (.iconst 0, 1) := by decide +kernel
theorem dX7_put_52 : decode cX7_put 52 = .ok (.putfield 47, 3) := by decide +kernel
theorem dX7_put_55 : decode cX7_put 55 = .ok (.aload_n 0, 1) := by decide +kernel
theorem dX7_put_56 : decode cX7_put 56 = .ok (.getfield 47, 3) := by decide +kernel
theorem dX7_put_59 : decode cX7_put 59 = .ok (.ifCond .le 5, 3) := by decide +kernel
theorem dX7_put_62 : decode cX7_put 62 = .ok (.iconst 0, 1) := by decide +kernel
theorem dX7_put_63 : decode cX7_put 63 = .ok (.ireturn, 1) := by decide +kernel
theorem dX7_put_64 : decode cX7_put 64 = .ok (.aload_n 0, 1) := by decide +kernel
theorem dX7_put_65 : decode cX7_put 65 = .ok (.invokevirtual 169, 3) := by decide +kernel
theorem dX7_put_68 : decode cX7_put 68 = .ok (.aload_n 0, 1) := by decide +kernel
theorem dX7_put_69 : decode cX7_put 69 = .ok (.iconst 0, 1) := by decide +kernel
theorem dX7_put_70 : decode cX7_put 70 = .ok (.putfield 145, 3) := by decide +kernel
theorem dX7_put_73 : decode cX7_put 73 = .ok (.aload_n 0, 1) := by decide +kernel
theorem dX7_put_74 : decode cX7_put 74 = .ok (.iload_n 1, 1) := by decide +kernel
theorem dX7_put_75 : decode cX7_put 75 = .ok (.invokevirtual 172, 3) := by decide +kernel
theorem dX7_put_78 : decode cX7_put 78 = .ok (.ireturn, 1) := by decide +kernel
theorem dX7_takeInserted_0 : decode cX7_takeInserted 0 = .ok (.aload_n 0, 1) := by decide +kernel
theorem dX7_takeInserted_1 : decode cX7_takeInserted 1 = .ok (.iload_n 1, 1) := by decide +kernel
theorem dX7_takeInserted_2 : decode cX7_takeInserted 2 = .ok (.invokevirtual 175, 3) := by decide +kernel
theorem dX7_takeInserted_5 : decode cX7_takeInserted 5 = .ok (.aload_n 0, 1) := by decide +kernel
theorem dX7_takeInserted_6 : decode cX7_takeInserted 6 = .ok (.getfield 62, 3) := by decide +kernel
theorem dX7_takeInserted_9 : decode cX7_takeInserted 9 = .ok (.iconst 1, 1) := by decide +kernel
theorem dX7_takeInserted_10 : decode cX7_takeInserted 10 = .ok (.isub, 1) := by decide +kernel
theorem dX7_takeInserted_11 : decode cX7_takeInserted 11 = .ok (.istore_n 3, 1) := by decide +kernel
theorem dX7_takeInserted_12 : decode cX7_takeInserted 12 = .ok (.iload_n 3, 1) := by decide +kernel
theorem dX7_takeInserted_13 : decode cX7_takeInserted 13 = .ok (.iload_n 2, 1) := by decide +kernel
theorem dX7_takeInserted_14 : decode cX7_takeInserted 14 = .ok (.if_icmp .lt 26, 3) := by decide +kernel
theorem dX7_takeInserted_17 : decode cX7_takeInserted 17 = .ok (.aload_n 0, 1) := by decide +kernel
theorem dX7_takeInserted_18 : decode cX7_takeInserted 18 = .ok (.getfield 26, 3) := by decide +kernel
theorem dX7_takeInserted_21 : decode cX7_takeInserted 21 = .ok (.iload_n 3, 1) := by decide +kernel
theorem dX7_takeInserted_22 : decode cX7_takeInserted 22 = .ok (.aload_n 0, 1) := by decide +kernel
theorem dX7_takeInserted_23 : decode cX7_takeInserted 23 = .ok (.getfield 142, 3) := by decide +kernel
theorem dX7_takeInserted_26 : decode cX7_takeInserted 26 = .ok (.iadd, 1) := by decide +kernel
theorem dX7_takeInserted_27 : decode cX7_takeInserted 27 = .ok (.aload_n 0, 1) := by decide +kernel
theorem dX7_takeInserted_28 : decode cX7_takeInserted 28 = .ok (.getfield 26, 3) := by decide +kernel
theorem dX7_takeInserted_31 : decode cX7_takeInserted 31 = .ok (.iload_n 3, 1) := by decide +kernel
theorem dX7_takeInserted_32 : decode cX7_takeInserted 32 = .ok (.iaload, 1) := by decide +kernel
theorem dX7_takeInserted_33 : decode cX7_takeInserted 33 = .ok (.iastore, 1) := by decide +kernel
theorem dX7_takeInserted_34 : decode cX7_takeInserted 34 = .ok (.iinc 3 (-1), 3) := by decide +kernel
theorem dX7_takeInserted_37 : decode cX7_takeInserted 37 = .ok (.goto (-25), 3) := by decide +kernel
theorem dX7_takeInserted_40 : decode cX7_takeInserted 40 = .ok (.iconst 0, 1) := by decide +kernel
theorem dX7_takeInserted_41 : decode cX7_takeInserted 41 = .ok (.istore_n 3, 1) := by decide +kernel
theorem dX7_takeInserted_42 : decode cX7_takeInserted 42 = .ok (.iload_n 3, 1) := by decide +kernel
theorem dX7_takeInserted_43 : decode cX7_takeInserted 43 = .ok (.aload_n 0, 1) := by decide +kernel
theorem dX7_takeInserted_44 : decode cX7_takeInserted 44 = .ok (.getfield 142, 3) := by decide +kernel
theorem dX7_takeInserted_47 : decode cX7_takeInserted 47 = .ok (.if_icmp .ge 23, 3) := by decide +kernel
theorem dX7_takeInserted_50 : decode cX7_takeInserted 50 = .ok (.aload_n 0, 1) := by decide +kernel
theorem dX7_takeInserted_51 : decode cX7_takeInserted 51 = .ok (.getfield 26, 3) := by decide +kernel
theorem dX7_takeInserted_54 : decode cX7_takeInserted 54 = .ok (.iload_n 2, 1) := by decide +kernel
theorem dX7_takeInserted_55 : decode cX7_takeInserted 55 = .ok (.iload_n 3, 1) := by decide +kernel
theorem dX7_takeInserted_56 : decode cX7_takeInserted 56 = .ok (.iadd, 1) := by decide +kernel
theorem dX7_takeInserted_57 : decode cX7_takeInserted 57 = .ok (.aload_n 0, 1) := by decide +kernel
theorem dX7_takeInserted_58 : decode cX7_takeInserted 58 = .ok (.getfield 38, 3) := by decide +kernel
theorem dX7_takeInserted_61 : decode cX7_takeInserted 61 = .ok (.iload_n 3, 1) := by decide +kernel
theorem dX7_takeInserted_62 : decode cX7_takeInserted 62 = .ok (.iaload, 1) := by decide +kernel
theorem dX7_takeInserted_63 : decode cX7_takeInserted 63 = .ok (.iastore, 1) := by decide +kernel
theorem dX7_takeInserted_64 : decode cX7_takeInserted 64 = .ok (.iinc 3 1, 3) := by decide +kernel
theorem dX7_takeInserted_67 : decode cX7_takeInserted 67 = .ok (.goto (-25), 3) := by decide +kernel
theorem dX7_takeInserted_70 : decode cX7_takeInserted 70 = .ok (.aload_n 0, 1) := by decide +kernel
theorem dX7_takeInserted_71 : decode cX7_takeInserted 71 = .ok (.dup, 1) := by decide +kernel
theorem dX7_takeInserted_72 : decode cX7_takeInserted 72 = .ok (.getfield 62, 3) := by decide +kernel
theorem dX7_takeInserted_75 : decode cX7_takeInserted 75 = .ok (.aload_n 0, 1) := by decide +kernel
theorem dX7_takeInserted_76 : decode cX7_takeInserted 76 = .ok (.getfield 142, 3) := by decide +kernel
theorem dX7_takeInserted_79 : decode cX7_takeInserted 79 = .ok (.iadd, 1) := by decide +kernel
theorem dX7_takeInserted_80 : decode cX7_takeInserted 80 = .ok (.putfield 62, 3) := by decide +kernel
theorem dX7_takeInserted_83 : decode cX7_takeInserted 83 = .ok (.aload_n 0, 1) := by decide +kernel
theorem dX7_takeInserted_84 : decode cX7_takeInserted 84 = .ok (.invokevirtual 154, 3) := by decide +kernel
theorem dX7_takeInserted_87 : decode cX7_takeInserted 87 = .ok (.return_, 1) := by decide +kernel
theorem dX7_insert_0 : decode cX7_insert 0 = .ok (.aload_n 0, 1) := by decide +kernel
theorem dX7_insert_1 : decode cX7_insert 1 = .ok (.iload_n 1, 1) := by decide +kernel
theorem dX7_insert_2 : decode cX7_insert 2 = .ok (.invokestatic 157, 3) := by decide +kernel
theorem dX7_insert_5 : decode cX7_insert 5 = .ok (.ifCond .eq 16, 3) := by decide +kernel
theorem dX7_insert_8 : decode cX7_insert 8 = .ok (.iload_n 2, 1) := by decide +kernel
theorem dX7_insert_9 : decode cX7_insert 9 = .ok (.iconst 0, 1) := by decide +kernel
theorem dX7_insert_10 : decode cX7_insert 10 = .ok (.aload_n 0, 1) := by decide +kernel
theorem dX7_insert_11 : decode cX7_insert 11 = .ok (.iload_n 1, 1) := by decide +kernel
theorem dX7_insert_12 : decode cX7_insert 12 = .ok (.invokevirtual 58, 3) := by decide +kernel
theorem dX7_insert_15 : decode cX7_insert 15 = .ok (.invokestatic 54, 3) := by decide +kernel
theorem dX7_insert_18 : decode cX7_insert 18 = .ok (.ifCond .ne 7, 3) := by decide +kernel
theorem dX7_insert_21 : decode cX7_insert 21 = .ok (.iconst 1, 1) := by decide +kernel
theorem dX7_insert_22 : decode cX7_insert 22 = .ok (.goto 15, 3) := by decide +kernel
theorem dX7_insert_25 : decode cX7_insert 25 = .ok (.aload_n 0, 1) := by decide +kernel
theorem dX7_insert_26 : decode cX7_insert 26 = .ok (.invokevirtual 160, 3) := by decide +kernel
theorem dX7_insert_29 : decode cX7_insert 29 = .ok (.ifCond .eq 7, 3) := by decide +kernel
theorem dX7_insert_32 : decode cX7_insert 32 = .ok (.iconst 0, 1) := by decide +kernel
theorem dX7_insert_33 : decode cX7_insert 33 = .ok (.goto 4, 3) := by decide +kernel
theorem dX7_insert_36 : decode cX7_insert 36 = .ok (.iconst 2, 1) := by decide +kernel
theorem dX7_insert_37 : decode cX7_insert 37 = .ok (.putfield 47, 3) := by decide +kernel
theorem dX7_insert_40 : decode cX7_insert 40 = .ok (.aload_n 0, 1) := by decide +kernel
theorem dX7_insert_41 : decode cX7_insert 41 = .ok (.getfield 47, 3) := by decide +kernel
theorem dX7_insert_44 : decode cX7_insert 44 = .ok (.ifCond .ne 27, 3) := by decide +kernel
theorem dX7_insert_47 : decode cX7_insert 47 = .ok (.aload_n 0, 1) := by decide +kernel
theorem dX7_insert_48 : decode cX7_insert 48 = .ok (.aload_n 0, 1) := by decide +kernel
theorem dX7_insert_49 : decode cX7_insert 49 = .ok (.iload_n 1, 1) := by decide +kernel
theorem dX7_insert_50 : decode cX7_insert 50 = .ok (.invokevirtual 58, 3) := by decide +kernel
theorem dX7_insert_53 : decode cX7_insert 53 = .ok (.aload_n 0, 1) := by decide +kernel
theorem dX7_insert_54 : decode cX7_insert 54 = .ok (.getfield 142, 3) := by decide +kernel
theorem dX7_insert_57 : decode cX7_insert 57 = .ok (.iadd, 1) := by decide +kernel
theorem dX7_insert_58 : decode cX7_insert 58 = .ok (.bipush 40, 2) := by decide +kernel
theorem dX7_insert_60 : decode cX7_insert 60 = .ok (.if_icmp .le 7, 3) := by decide +kernel
theorem dX7_insert_63 : decode cX7_insert 63 = .ok (.iconst 3, 1) := by decide +kernel
theorem dX7_insert_64 : decode cX7_insert 64 = .ok (.goto 4, 3) := by decide +kernel
theorem dX7_insert_67 : decode cX7_insert 67 = .ok (.iconst 0, 1) := by decide +kernel
theorem dX7_insert_68 : decode cX7_insert 68 = .ok (.putfield 47, 3) := by decide +kernel
theorem dX7_insert_71 : decode cX7_insert 71 = .ok (.aload_n 0, 1) := by decide +kernel
theorem dX7_insert_72 : decode cX7_insert 72 = .ok (.getfield 47, 3) := by decide +kernel
theorem dX7_insert_75 : decode cX7_insert 75 = .ok (.ifCond .ne 26, 3) := by decide +kernel
theorem dX7_insert_78 : decode cX7_insert 78 = .ok (.aload_n 0, 1) := by decide +kernel
theorem dX7_insert_79 : decode cX7_insert 79 = .ok (.iload_n 1, 1) := by decide +kernel
theorem dX7_insert_80 : decode cX7_insert 80 = .ok (.iload_n 2, 1) := by decide +kernel
theorem dX7_insert_81 : decode cX7_insert 81 = .ok (.invokevirtual 178, 3) := by decide +kernel
theorem dX7_insert_84 : decode cX7_insert 84 = .ok (.aload_n 0, 1) := by decide +kernel
theorem dX7_insert_85 : decode cX7_insert 85 = .ok (.aload_n 0, 1) := by decide +kernel
theorem dX7_insert_86 : decode cX7_insert 86 = .ok (.iload_n 1, 1) := by decide +kernel
theorem dX7_insert_87 : decode cX7_insert 87 = .ok (.invokevirtual 166, 3) := by decide +kernel
theorem dX7_insert_90 : decode cX7_insert 90 = .ok (.ifCond .eq 7, 3) := by decide +kernel
theorem dX7_insert_93 : decode cX7_insert 93 = .ok (.iconst 3, 1) := by decide +kernel
theorem dX7_insert_94 : decode cX7_insert 94 = .ok (.goto 4, 3) := by decide +kernel
theorem dX7_insert_97 : decode cX7_insert 97 = .ok (.iconst 0, 1) := by decide +kernel
theorem dX7_insert_98 : decode cX7_insert 98 = .ok (.putfield 47, 3) := by decide +kernel
theorem dX7_insert_101 : decode cX7_insert 101 = .ok (.aload_n 0, 1) := by decide +kernel
theorem dX7_insert_102 : decode cX7_insert 102 = .ok (.getfield 47, 3) := by decide +kernel
theorem dX7_insert_105 : decode cX7_insert 105 = .ok (.ifCond .le 5, 3) := by decide +kernel
theorem dX7_insert_108 : decode cX7_insert 108 = .ok (.iconst 0, 1) := by decide +kernel
theorem dX7_insert_109 : decode cX7_insert 109 = .ok (.ireturn, 1) := by decide +kernel
theorem dX7_insert_110 : decode cX7_insert 110 = .ok (.aload_n 0, 1) := by decide +kernel
theorem dX7_insert_111 : decode cX7_insert 111 = .ok (.invokevirtual 169, 3) := by decide +kernel
theorem dX7_insert_114 : decode cX7_insert 114 = .ok (.aload_n 0, 1) := by decide +kernel
theorem dX7_insert_115 : decode cX7_insert 115 = .ok (.iconst 0, 1) := by decide +kernel
theorem dX7_insert_116 : decode cX7_insert 116 = .ok (.putfield 145, 3) := by decide +kernel
theorem dX7_insert_119 : decode cX7_insert 119 = .ok (.aload_n 0, 1) := by decide +kernel
theorem dX7_insert_120 : decode cX7_insert 120 = .ok (.iload_n 1, 1) := by decide +kernel
theorem dX7_insert_121 : decode cX7_insert 121 = .ok (.invokevirtual 172, 3) := by decide +kernel
theorem dX7_insert_124 : decode cX7_insert 124 = .ok (.ireturn, 1) := by decide +kernel
theorem dX7_change_0 : decode cX7_change 0 = .ok (.aload_n 0, 1) := by decide +kernel
theorem dX7_change_1 : decode cX7_change 1 = .ok (.aload_n 0, 1) := by decide +kernel
theorem dX7_change_2 : decode cX7_change 2 = .ok (.iload_n 1, 1) := by decide +kernel
theorem dX7_change_3 : decode cX7_change 3 = .ok (.invokevirtual 166, 3) := by decide +kernel
theorem dX7_change_6 : decode cX7_change 6 = .ok (.ifCond .eq 7, 3) := by decide +kernel
theorem dX7_change_9 : decode cX7_change 9 = .ok (.iload_n 2, 1) := by decide +kernel
theorem dX7_change_10 : decode cX7_change 10 = .ok (.goto 4, 3) := by decide +kernel
theorem dX7_change_13 : decode cX7_change 13 = .ok (.iconst 0, 1) := by decide +kernel
theorem dX7_change_14 : decode cX7_change 14 = .ok (.putfield 47, 3) := by decide +kernel
theorem dX7_change_17 : decode cX7_change 17 = .ok (.aload_n 0, 1) := by decide +kernel
theorem dX7_change_18 : decode cX7_change 18 = .ok (.getfield 47, 3) := by decide +kernel
theorem dX7_change_21 : decode cX7_change 21 = .ok (.ifCond .le 5, 3) := by decide +kernel
theorem dX7_change_24 : decode cX7_change 24 = .ok (.iconst 0, 1) := by decide +kernel
theorem dX7_change_25 : decode cX7_change 25 = .ok (.ireturn, 1) := by decide +kernel
theorem dX7_change_26 : decode cX7_change 26 = .ok (.aload_n 0, 1) := by decide +kernel
theorem dX7_change_27 : decode cX7_change 27 = .ok (.invokevirtual 169, 3) := by decide +kernel
theorem dX7_change_30 : decode cX7_change 30 = .ok (.aload_n 0, 1) := by decide +kernel
theorem dX7_change_31 : decode cX7_change 31 = .ok (.iload_n 1, 1) := by decide +kernel
theorem dX7_change_32 : decode cX7_change 32 = .ok (.invokevirtual 172, 3) := by decide +kernel
theorem dX7_change_35 : decode cX7_change 35 = .ok (.ireturn, 1) := by decide +kernel
theorem dX7_isPlace_0 : decode cX7_isPlace 0 = .ok (.iload_n 1, 1) := by decide +kernel
theorem dX7_isPlace_1 : decode cX7_isPlace 1 = .ok (.invokestatic 157, 3) := by decide +kernel
theorem dX7_isPlace_4 : decode cX7_isPlace 4 = .ok (.ifCond .eq 22, 3) := by decide +kernel
theorem dX7_isPlace_7 : decode cX7_isPlace 7 = .ok (.iload_n 2, 1) := by decide +kernel
theorem dX7_isPlace_8 : decode cX7_isPlace 8 = .ok (.iconst 0, 1) := by decide +kernel
theorem dX7_isPlace_9 : decode cX7_isPlace 9 = .ok (.aload_n 0, 1) := by decide +kernel
theorem dX7_isPlace_10 : decode cX7_isPlace 10 = .ok (.iload_n 1, 1) := by decide +kernel
theorem dX7_isPlace_11 : decode cX7_isPlace 11 = .ok (.invokevirtual 58, 3) := by decide +kernel
theorem dX7_isPlace_14 : decode cX7_isPlace 14 = .ok (.iconst 1, 1) := by decide +kernel
theorem dX7_isPlace_15 : decode cX7_isPlace 15 = .ok (.isub, 1) := by decide +kernel
theorem dX7_isPlace_16 : decode cX7_isPlace 16 = .ok (.invokestatic 54, 3) := by decide +kernel
theorem dX7_isPlace_19 : decode cX7_isPlace 19 = .ok (.ifCond .eq 7, 3) := by decide +kernel
theorem dX7_isPlace_22 : decode cX7_isPlace 22 = .ok (.iconst 1, 1) := by decide +kernel
theorem dX7_isPlace_23 : decode cX7_isPlace 23 = .ok (.goto 4, 3) := by decide +kernel
theorem dX7_isPlace_26 : decode cX7_isPlace 26 = .ok (.iconst 0, 1) := by decide +kernel
theorem dX7_isPlace_27 : decode cX7_isPlace 27 = .ok (.ireturn, 1) := by decide +kernel
theorem dX7_takeOut_0 : decode cX7_takeOut 0 = .ok (.aload_n 0, 1) := by decide +kernel
theorem dX7_takeOut_1 : decode cX7_takeOut 1 = .ok (.aload_n 0, 1) := by decide +kernel
theorem dX7_takeOut_2 : decode cX7_takeOut 2 = .ok (.iload_n 1, 1) := by decide +kernel
theorem dX7_takeOut_3 : decode cX7_takeOut 3 = .ok (.iload_n 2, 1) := by decide +kernel
theorem dX7_takeOut_4 : decode cX7_takeOut 4 = .ok (.invokevirtual 182, 3) := by decide +kernel
theorem dX7_takeOut_7 : decode cX7_takeOut 7 = .ok (.ifCond .ne 7, 3) := by decide +kernel
theorem dX7_takeOut_10 : decode cX7_takeOut 10 = .ok (.iconst 1, 1) := by decide +kernel
theorem dX7_takeOut_11 : decode cX7_takeOut 11 = .ok (.goto 23, 3) := by decide +kernel
theorem dX7_takeOut_14 : decode cX7_takeOut 14 = .ok (.iload_n 3, 1) := by decide +kernel
theorem dX7_takeOut_15 : decode cX7_takeOut 15 = .ok (.iconst 1, 1) := by decide +kernel
theorem dX7_takeOut_16 : decode cX7_takeOut 16 = .ok (.aload_n 0, 1) := by decide +kernel
theorem dX7_takeOut_17 : decode cX7_takeOut 17 = .ok (.iload_n 1, 1) := by decide +kernel
theorem dX7_takeOut_18 : decode cX7_takeOut 18 = .ok (.invokevirtual 58, 3) := by decide +kernel
theorem dX7_takeOut_21 : decode cX7_takeOut 21 = .ok (.iload_n 2, 1) := by decide +kernel
theorem dX7_takeOut_22 : decode cX7_takeOut 22 = .ok (.isub, 1) := by decide +kernel
theorem dX7_takeOut_23 : decode cX7_takeOut 23 = .ok (.invokestatic 54, 3) := by decide +kernel
theorem dX7_takeOut_26 : decode cX7_takeOut 26 = .ok (.ifCond .eq 7, 3) := by decide +kernel
theorem dX7_takeOut_29 : decode cX7_takeOut 29 = .ok (.iconst 0, 1) := by decide +kernel
theorem dX7_takeOut_30 : decode cX7_takeOut 30 = .ok (.goto 4, 3) := by decide +kernel
theorem dX7_takeOut_33 : decode cX7_takeOut 33 = .ok (.iconst 2, 1) := by decide +kernel
theorem dX7_takeOut_34 : decode cX7_takeOut 34 = .ok (.putfield 47, 3) := by decide +kernel
theorem dX7_takeOut_37 : decode cX7_takeOut 37 = .ok (.aload_n 0, 1) := by decide +kernel
theorem dX7_takeOut_38 : decode cX7_takeOut 38 = .ok (.getfield 47, 3) := by decide +kernel
theorem dX7_takeOut_41 : decode cX7_takeOut 41 = .ok (.ifCond .le 5, 3) := by decide +kernel
theorem dX7_takeOut_44 : decode cX7_takeOut 44 = .ok (.iconst 0, 1) := by decide +kernel
theorem dX7_takeOut_45 : decode cX7_takeOut 45 = .ok (.ireturn, 1) := by decide +kernel
theorem dX7_takeOut_46 : decode cX7_takeOut 46 = .ok (.aload_n 0, 1) := by decide +kernel
theorem dX7_takeOut_47 : decode cX7_takeOut 47 = .ok (.iload_n 1, 1) := by decide +kernel
theorem dX7_takeOut_48 : decode cX7_takeOut 48 = .ok (.invokevirtual 175, 3) := by decide +kernel
theorem dX7_takeOut_51 : decode cX7_takeOut 51 = .ok (.aload_n 0, 1) := by decide +kernel
theorem dX7_takeOut_52 : decode cX7_takeOut 52 = .ok (.dup, 1) := by decide +kernel
theorem dX7_takeOut_53 : decode cX7_takeOut 53 = .ok (.getfield 62, 3) := by decide +kernel
theorem dX7_takeOut_56 : decode cX7_takeOut 56 = .ok (.iload_n 3, 1) := by decide +kernel
theorem dX7_takeOut_57 : decode cX7_takeOut 57 = .ok (.isub, 1) := by decide +kernel
theorem dX7_takeOut_58 : decode cX7_takeOut 58 = .ok (.putfield 62, 3) := by decide +kernel
theorem dX7_takeOut_61 : decode cX7_takeOut 61 = .ok (.iload_n 2, 1) := by decide +kernel
theorem dX7_takeOut_62 : decode cX7_takeOut 62 = .ok (.istore 4, 2) := by decide +kernel
theorem dX7_takeOut_64 : decode cX7_takeOut 64 = .ok (.iload 4, 2) := by decide +kernel
theorem dX7_takeOut_66 : decode cX7_takeOut 66 = .ok (.aload_n 0, 1) := by decide +kernel
theorem dX7_takeOut_67 : decode cX7_takeOut 67 = .ok (.getfield 62, 3) := by decide +kernel
theorem dX7_takeOut_70 : decode cX7_takeOut 70 = .ok (.if_icmp .ge 25, 3) := by decide +kernel
theorem dX7_takeOut_73 : decode cX7_takeOut 73 = .ok (.aload_n 0, 1) := by decide +kernel
theorem dX7_takeOut_74 : decode cX7_takeOut 74 = .ok (.getfield 26, 3) := by decide +kernel
theorem dX7_takeOut_77 : decode cX7_takeOut 77 = .ok (.iload 4, 2) := by decide +kernel
theorem dX7_takeOut_79 : decode cX7_takeOut 79 = .ok (.aload_n 0, 1) := by decide +kernel
theorem dX7_takeOut_80 : decode cX7_takeOut 80 = .ok (.getfield 26, 3) := by decide +kernel
theorem dX7_takeOut_83 : decode cX7_takeOut 83 = .ok (.iload 4, 2) := by decide +kernel
theorem dX7_takeOut_85 : decode cX7_takeOut 85 = .ok (.iload_n 3, 1) := by decide +kernel
theorem dX7_takeOut_86 : decode cX7_takeOut 86 = .ok (.iadd, 1) := by decide +kernel
theorem dX7_takeOut_87 : decode cX7_takeOut 87 = .ok (.iaload, 1) := by decide +kernel
theorem dX7_takeOut_88 : decode cX7_takeOut 88 = .ok (.iastore, 1) := by decide +kernel
theorem dX7_takeOut_89 : decode cX7_takeOut 89 = .ok (.iinc 4 1, 3) := by decide +kernel
theorem dX7_takeOut_92 : decode cX7_takeOut 92 = .ok (.goto (-28), 3) := by decide +kernel
theorem dX7_takeOut_95 : decode cX7_takeOut 95 = .ok (.aload_n 0, 1) := by decide +kernel
theorem dX7_takeOut_96 : decode cX7_takeOut 96 = .ok (.invokevirtual 154, 3) := by decide +kernel
theorem dX7_takeOut_99 : decode cX7_takeOut 99 = .ok (.aload_n 0, 1) := by decide +kernel
theorem dX7_takeOut_100 : decode cX7_takeOut 100 = .ok (.iload_n 1, 1) := by decide +kernel
theorem dX7_takeOut_101 : decode cX7_takeOut 101 = .ok (.iconst 3, 1) := by decide +kernel
theorem dX7_takeOut_102 : decode cX7_takeOut 102 = .ok (.invokevirtual 185, 3) := by decide +kernel
theorem dX7_takeOut_105 : decode cX7_takeOut 105 = .ok (.ireturn, 1) := by decide +kernel
theorem dX7_copy_0 : decode cX7_copy 0 = .ok (.aload_n 0, 1) := by decide +kernel
theorem dX7_copy_1 : decode cX7_copy 1 = .ok (.iload_n 1, 1) := by decide +kernel
theorem dX7_copy_2 : decode cX7_copy 2 = .ok (.invokestatic 157, 3) := by decide +kernel
theorem dX7_copy_5 : decode cX7_copy 5 = .ok (.ifCond .eq 14, 3) := by decide +kernel
theorem dX7_copy_8 : decode cX7_copy 8 = .ok (.iload_n 2, 1) := by decide +kernel
theorem dX7_copy_9 : decode cX7_copy 9 = .ok (.invokestatic 157, 3) := by decide +kernel
theorem dX7_copy_12 : decode cX7_copy 12 = .ok (.ifCond .eq 7, 3) := by decide +kernel
theorem dX7_copy_15 : decode cX7_copy 15 = .ok (.iconst 0, 1) := by decide +kernel
theorem dX7_copy_16 : decode cX7_copy 16 = .ok (.goto 4, 3) := by decide +kernel
theorem dX7_copy_19 : decode cX7_copy 19 = .ok (.iconst 1, 1) := by decide +kernel
theorem dX7_copy_20 : decode cX7_copy 20 = .ok (.putfield 47, 3) := by decide +kernel
theorem dX7_copy_23 : decode cX7_copy 23 = .ok (.aload_n 0, 1) := by decide +kernel
theorem dX7_copy_24 : decode cX7_copy 24 = .ok (.getfield 47, 3) := by decide +kernel
theorem dX7_copy_27 : decode cX7_copy 27 = .ok (.ifCond .le 5, 3) := by decide +kernel
theorem dX7_copy_30 : decode cX7_copy 30 = .ok (.iconst 0, 1) := by decide +kernel
theorem dX7_copy_31 : decode cX7_copy 31 = .ok (.ireturn, 1) := by decide +kernel
theorem dX7_copy_32 : decode cX7_copy 32 = .ok (.aload_n 0, 1) := by decide +kernel
theorem dX7_copy_33 : decode cX7_copy 33 = .ok (.iload_n 2, 1) := by decide +kernel
theorem dX7_copy_34 : decode cX7_copy 34 = .ok (.invokevirtual 175, 3) := by decide +kernel
theorem dX7_copy_37 : decode cX7_copy 37 = .ok (.aload_n 0, 1) := by decide +kernel
theorem dX7_copy_38 : decode cX7_copy 38 = .ok (.invokevirtual 154, 3) := by decide +kernel
theorem dX7_copy_41 : decode cX7_copy 41 = .ok (.aload_n 0, 1) := by decide +kernel
theorem dX7_copy_42 : decode cX7_copy 42 = .ok (.iload_n 1, 1) := by decide +kernel
theorem dX7_copy_43 : decode cX7_copy 43 = .ok (.iconst 2, 1) := by decide +kernel
theorem dX7_copy_44 : decode cX7_copy 44 = .ok (.invokevirtual 185, 3) := by decide +kernel
theorem dX7_copy_47 : decode cX7_copy 47 = .ok (.ireturn, 1) := by decide +kernel
theorem dX7_rotate_0 : decode cX7_rotate 0 = .ok (.aload_n 0, 1) := by decide +kernel
theorem dX7_rotate_1 : decode cX7_rotate 1 = .ok (.iload_n 1, 1) := by decide +kernel
theorem dX7_rotate_2 : decode cX7_rotate 2 = .ok (.invokestatic 157, 3) := by decide +kernel
theorem dX7_rotate_5 : decode cX7_rotate 5 = .ok (.ifCond .ne 7, 3) := by decide +kernel
theorem dX7_rotate_8 : decode cX7_rotate 8 = .ok (.iconst 1, 1) := by decide +kernel
theorem dX7_rotate_9 : decode cX7_rotate 9 = .ok (.goto 21, 3) := by decide +kernel
theorem dX7_rotate_12 : decode cX7_rotate 12 = .ok (.iload_n 2, 1) := by decide +kernel
theorem dX7_rotate_13 : decode cX7_rotate 13 = .ok (.iconst 1, 1) := by decide +kernel
theorem dX7_rotate_14 : decode cX7_rotate 14 = .ok (.aload_n 0, 1) := by decide +kernel
theorem dX7_rotate_15 : decode cX7_rotate 15 = .ok (.iload_n 1, 1) := by decide +kernel
theorem dX7_rotate_16 : decode cX7_rotate 16 = .ok (.invokevirtual 58, 3) := by decide +kernel
theorem dX7_rotate_19 : decode cX7_rotate 19 = .ok (.invokestatic 54, 3) := by decide +kernel
theorem dX7_rotate_22 : decode cX7_rotate 22 = .ok (.ifCond .eq 7, 3) := by decide +kernel
theorem dX7_rotate_25 : decode cX7_rotate 25 = .ok (.iconst 0, 1) := by decide +kernel
theorem dX7_rotate_26 : decode cX7_rotate 26 = .ok (.goto 4, 3) := by decide +kernel
theorem dX7_rotate_29 : decode cX7_rotate 29 = .ok (.iconst 2, 1) := by decide +kernel
theorem dX7_rotate_30 : decode cX7_rotate 30 = .ok (.putfield 47, 3) := by decide +kernel
theorem dX7_rotate_33 : decode cX7_rotate 33 = .ok (.aload_n 0, 1) := by decide +kernel
theorem dX7_rotate_34 : decode cX7_rotate 34 = .ok (.getfield 47, 3) := by decide +kernel
theorem dX7_rotate_37 : decode cX7_rotate 37 = .ok (.ifCond .le 5, 3) := by decide +kernel
theorem dX7_rotate_40 : decode cX7_rotate 40 = .ok (.iconst 0, 1) := by decide +kernel
theorem dX7_rotate_41 : decode cX7_rotate 41 = .ok (.ireturn, 1) := by decide +kernel
theorem dX7_rotate_42 : decode cX7_rotate 42 = .ok (.aload_n 0, 1) := by decide +kernel
theorem dX7_rotate_43 : decode cX7_rotate 43 = .ok (.aload_n 0, 1) := by decide +kernel
theorem dX7_rotate_44 : decode cX7_rotate 44 = .ok (.iload_n 1, 1) := by decide +kernel
theorem dX7_rotate_45 : decode cX7_rotate 45 = .ok (.invokevirtual 58, 3) := by decide +kernel
theorem dX7_rotate_48 : decode cX7_rotate 48 = .ok (.putfield 62, 3) := by decide +kernel
theorem dX7_rotate_51 : decode cX7_rotate 51 = .ok (.iconst 0, 1) := by decide +kernel
theorem dX7_rotate_52 : decode cX7_rotate 52 = .ok (.istore_n 3, 1) := by decide +kernel
theorem dX7_rotate_53 : decode cX7_rotate 53 = .ok (.iload_n 3, 1) := by decide +kernel
theorem dX7_rotate_54 : decode cX7_rotate 54 = .ok (.aload_n 0, 1) := by decide +kernel
theorem dX7_rotate_55 : decode cX7_rotate 55 = .ok (.getfield 62, 3) := by decide +kernel
theorem dX7_rotate_58 : decode cX7_rotate 58 = .ok (.if_icmp .ge 28, 3) := by decide +kernel
theorem dX7_rotate_61 : decode cX7_rotate 61 = .ok (.aload_n 0, 1) := by decide +kernel
theorem dX7_rotate_62 : decode cX7_rotate 62 = .ok (.getfield 26, 3) := by decide +kernel
theorem dX7_rotate_65 : decode cX7_rotate 65 = .ok (.iload_n 3, 1) := by decide +kernel
theorem dX7_rotate_66 : decode cX7_rotate 66 = .ok (.aload_n 0, 1) := by decide +kernel
theorem dX7_rotate_67 : decode cX7_rotate 67 = .ok (.iload_n 1, 1) := by decide +kernel
theorem dX7_rotate_68 : decode cX7_rotate 68 = .ok (.iload_n 3, 1) := by decide +kernel
theorem dX7_rotate_69 : decode cX7_rotate 69 = .ok (.iload_n 2, 1) := by decide +kernel
theorem dX7_rotate_70 : decode cX7_rotate 70 = .ok (.iadd, 1) := by decide +kernel
theorem dX7_rotate_71 : decode cX7_rotate 71 = .ok (.aload_n 0, 1) := by decide +kernel
theorem dX7_rotate_72 : decode cX7_rotate 72 = .ok (.getfield 62, 3) := by decide +kernel
theorem dX7_rotate_75 : decode cX7_rotate 75 = .ok (.irem, 1) := by decide +kernel
theorem dX7_rotate_76 : decode cX7_rotate 76 = .ok (.invokevirtual 65, 3) := by decide +kernel
theorem dX7_rotate_79 : decode cX7_rotate 79 = .ok (.iastore, 1) := by decide +kernel
theorem dX7_rotate_80 : decode cX7_rotate 80 = .ok (.iinc 3 1, 3) := by decide +kernel
theorem dX7_rotate_83 : decode cX7_rotate 83 = .ok (.goto (-30), 3) := by decide +kernel
theorem dX7_rotate_86 : decode cX7_rotate 86 = .ok (.aload_n 0, 1) := by decide +kernel
theorem dX7_rotate_87 : decode cX7_rotate 87 = .ok (.invokevirtual 154, 3) := by decide +kernel
theorem dX7_rotate_90 : decode cX7_rotate 90 = .ok (.aload_n 0, 1) := by decide +kernel
theorem dX7_rotate_91 : decode cX7_rotate 91 = .ok (.iload_n 1, 1) := by decide +kernel
theorem dX7_rotate_92 : decode cX7_rotate 92 = .ok (.iconst 3, 1) := by decide +kernel
theorem dX7_rotate_93 : decode cX7_rotate 93 = .ok (.invokevirtual 185, 3) := by decide +kernel
theorem dX7_rotate_96 : decode cX7_rotate 96 = .ok (.ireturn, 1) := by decide +kernel
theorem dX7_drop_0 : decode cX7_drop 0 = .ok (.aload_n 0, 1) := by decide +kernel
theorem dX7_drop_1 : decode cX7_drop 1 = .ok (.iload_n 1, 1) := by decide +kernel
theorem dX7_drop_2 : decode cX7_drop 2 = .ok (.invokestatic 157, 3) := by decide +kernel
theorem dX7_drop_5 : decode cX7_drop 5 = .ok (.ifCond .eq 7, 3) := by decide +kernel
theorem dX7_drop_8 : decode cX7_drop 8 = .ok (.iconst 0, 1) := by decide +kernel
theorem dX7_drop_9 : decode cX7_drop 9 = .ok (.goto 4, 3) := by decide +kernel
theorem dX7_drop_12 : decode cX7_drop 12 = .ok (.iconst 1, 1) := by decide +kernel
theorem dX7_drop_13 : decode cX7_drop 13 = .ok (.putfield 47, 3) := by decide +kernel
theorem dX7_drop_16 : decode cX7_drop 16 = .ok (.aload_n 0, 1) := by decide +kernel
theorem dX7_drop_17 : decode cX7_drop 17 = .ok (.getfield 47, 3) := by decide +kernel
theorem dX7_drop_20 : decode cX7_drop 20 = .ok (.ifCond .le 5, 3) := by decide +kernel
theorem dX7_drop_23 : decode cX7_drop 23 = .ok (.iconst 0, 1) := by decide +kernel
theorem dX7_drop_24 : decode cX7_drop 24 = .ok (.ireturn, 1) := by decide +kernel
theorem dX7_drop_25 : decode cX7_drop 25 = .ok (.aload_n 0, 1) := by decide +kernel
theorem dX7_drop_26 : decode cX7_drop 26 = .ok (.invokevirtual 169, 3) := by decide +kernel
theorem dX7_drop_29 : decode cX7_drop 29 = .ok (.aload_n 0, 1) := by decide +kernel
theorem dX7_drop_30 : decode cX7_drop 30 = .ok (.iload_n 1, 1) := by decide +kernel
theorem dX7_drop_31 : decode cX7_drop 31 = .ok (.invokevirtual 58, 3) := by decide +kernel
theorem dX7_drop_34 : decode cX7_drop 34 = .ok (.istore_n 2, 1) := by decide +kernel
theorem dX7_drop_35 : decode cX7_drop 35 = .ok (.aload_n 0, 1) := by decide +kernel
theorem dX7_drop_36 : decode cX7_drop 36 = .ok (.iload_n 1, 1) := by decide +kernel
theorem dX7_drop_37 : decode cX7_drop 37 = .ok (.invokevirtual 128, 3) := by decide +kernel
theorem dX7_drop_40 : decode cX7_drop 40 = .ok (.iload_n 2, 1) := by decide +kernel
theorem dX7_drop_41 : decode cX7_drop 41 = .ok (.ireturn, 1) := by decide +kernel
theorem dX7_sweep_0 : decode cX7_sweep 0 = .ok (.aload_n 0, 1) := by decide +kernel
theorem dX7_sweep_1 : decode cX7_sweep 1 = .ok (.iconst 0, 1) := by decide +kernel
theorem dX7_sweep_2 : decode cX7_sweep 2 = .ok (.putfield 47, 3) := by decide +kernel
theorem dX7_sweep_5 : decode cX7_sweep 5 = .ok (.aload_n 0, 1) := by decide +kernel
theorem dX7_sweep_6 : decode cX7_sweep 6 = .ok (.invokevirtual 169, 3) := by decide +kernel
theorem dX7_sweep_9 : decode cX7_sweep 9 = .ok (.aload_n 0, 1) := by decide +kernel
theorem dX7_sweep_10 : decode cX7_sweep 10 = .ok (.getfield 7, 3) := by decide +kernel
theorem dX7_sweep_13 : decode cX7_sweep 13 = .ok (.bipush 6, 2) := by decide +kernel
theorem dX7_sweep_15 : decode cX7_sweep 15 = .ok (.iaload, 1) := by decide +kernel
theorem dX7_sweep_16 : decode cX7_sweep 16 = .ok (.istore_n 1, 1) := by decide +kernel
theorem dX7_sweep_17 : decode cX7_sweep 17 = .ok (.iconst 0, 1) := by decide +kernel
theorem dX7_sweep_18 : decode cX7_sweep 18 = .ok (.istore_n 2, 1) := by decide +kernel
theorem dX7_sweep_19 : decode cX7_sweep 19 = .ok (.iload_n 2, 1) := by decide +kernel
theorem dX7_sweep_20 : decode cX7_sweep 20 = .ok (.bipush 60, 2) := by decide +kernel
theorem dX7_sweep_22 : decode cX7_sweep 22 = .ok (.if_icmp .ge 35, 3) := by decide +kernel
theorem dX7_sweep_25 : decode cX7_sweep 25 = .ok (.aload_n 0, 1) := by decide +kernel
theorem dX7_sweep_26 : decode cX7_sweep 26 = .ok (.iload_n 2, 1) := by decide +kernel
theorem dX7_sweep_27 : decode cX7_sweep 27 = .ok (.invokevirtual 82, 3) := by decide +kernel
theorem dX7_sweep_30 : decode cX7_sweep 30 = .ok (.ifCond .eq 21, 3) := by decide +kernel
theorem dX7_sweep_33 : decode cX7_sweep 33 = .ok (.aload_n 0, 1) := by decide +kernel
theorem dX7_sweep_34 : decode cX7_sweep 34 = .ok (.getfield 7, 3) := by decide +kernel
theorem dX7_sweep_37 : decode cX7_sweep 37 = .ok (.sipush 551, 3) := by decide +kernel
theorem dX7_sweep_40 : decode cX7_sweep 40 = .ok (.iload_n 2, 1) := by decide +kernel
theorem dX7_sweep_41 : decode cX7_sweep 41 = .ok (.iadd, 1) := by decide +kernel
theorem dX7_sweep_42 : decode cX7_sweep 42 = .ok (.iaload, 1) := by decide +kernel
theorem dX7_sweep_43 : decode cX7_sweep 43 = .ok (.ifCond .ne 8, 3) := by decide +kernel
theorem dX7_sweep_46 : decode cX7_sweep 46 = .ok (.aload_n 0, 1) := by decide +kernel
theorem dX7_sweep_47 : decode cX7_sweep 47 = .ok (.iload_n 2, 1) := by decide +kernel
theorem dX7_sweep_48 : decode cX7_sweep 48 = .ok (.invokevirtual 132, 3) := by decide +kernel
theorem dX7_sweep_51 : decode cX7_sweep 51 = .ok (.iinc 2 1, 3) := by decide +kernel
theorem dX7_sweep_54 : decode cX7_sweep 54 = .ok (.goto (-35), 3) := by decide +kernel
theorem dX7_sweep_57 : decode cX7_sweep 57 = .ok (.aload_n 0, 1) := by decide +kernel
theorem dX7_sweep_58 : decode cX7_sweep 58 = .ok (.getfield 7, 3) := by decide +kernel
theorem dX7_sweep_61 : decode cX7_sweep 61 = .ok (.bipush 6, 2) := by decide +kernel
theorem dX7_sweep_63 : decode cX7_sweep 63 = .ok (.iaload, 1) := by decide +kernel
theorem dX7_sweep_64 : decode cX7_sweep 64 = .ok (.iload_n 1, 1) := by decide +kernel
theorem dX7_sweep_65 : decode cX7_sweep 65 = .ok (.isub, 1) := by decide +kernel
theorem dX7_sweep_66 : decode cX7_sweep 66 = .ok (.ireturn, 1) := by decide +kernel
theorem dX7_isSetting_0 : decode cX7_isSetting 0 = .ok (.iload_n 0, 1) := by decide +kernel
theorem dX7_isSetting_1 : decode cX7_isSetting 1 = .ok (.iconst 0, 1) := by decide +kernel
theorem dX7_isSetting_2 : decode cX7_isSetting 2 = .ok (.iconst 4, 1) := by decide +kernel
theorem dX7_isSetting_3 : decode cX7_isSetting 3 = .ok (.invokestatic 54, 3) := by decide +kernel
theorem dX7_isSetting_6 : decode cX7_isSetting 6 = .ok (.ireturn, 1) := by decide +kernel
theorem dX7_isValue_0 : decode cX7_isValue 0 = .ok (.iload_n 0, 1) := by decide +kernel
theorem dX7_isValue_1 : decode cX7_isValue 1 = .ok (.tableswitch 55 0 3 #[31, 39, 47, 31], 31) := by decide +kernel
theorem dX7_isValue_32 : decode cX7_isValue 32 = .ok (.iload_n 1, 1) := by decide +kernel
theorem dX7_isValue_33 : decode cX7_isValue 33 = .ok (.iconst 1, 1) := by decide +kernel
theorem dX7_isValue_34 : decode cX7_isValue 34 = .ok (.bipush 6, 2) := by decide +kernel
theorem dX7_isValue_36 : decode cX7_isValue 36 = .ok (.invokestatic 54, 3) := by decide +kernel
theorem dX7_isValue_39 : decode cX7_isValue 39 = .ok (.ireturn, 1) := by decide +kernel
theorem dX7_isValue_40 : decode cX7_isValue 40 = .ok (.iload_n 1, 1) := by decide +kernel
theorem dX7_isValue_41 : decode cX7_isValue 41 = .ok (.iconst 1, 1) := by decide +kernel
theorem dX7_isValue_42 : decode cX7_isValue 42 = .ok (.bipush 9, 2) := by decide +kernel
theorem dX7_isValue_44 : decode cX7_isValue 44 = .ok (.invokestatic 54, 3) := by decide +kernel
theorem dX7_isValue_47 : decode cX7_isValue 47 = .ok (.ireturn, 1) := by decide +kernel
theorem dX7_isValue_48 : decode cX7_isValue 48 = .ok (.iload_n 1, 1) := by decide +kernel
theorem dX7_isValue_49 : decode cX7_isValue 49 = .ok (.iconst 0, 1) := by decide +kernel
theorem dX7_isValue_50 : decode cX7_isValue 50 = .ok (.bipush 8, 2) := by decide +kernel
theorem dX7_isValue_52 : decode cX7_isValue 52 = .ok (.invokestatic 54, 3) := by decide +kernel
theorem dX7_isValue_55 : decode cX7_isValue 55 = .ok (.ireturn, 1) := by decide +kernel
theorem dX7_isValue_56 : decode cX7_isValue 56 = .ok (.iload_n 1, 1) := by decide +kernel
theorem dX7_isValue_57 : decode cX7_isValue 57 = .ok (.bipush 6, 2) := by decide +kernel
theorem dX7_isValue_59 : decode cX7_isValue 59 = .ok (.bipush 20, 2) := by decide +kernel
theorem dX7_isValue_61 : decode cX7_isValue 61 = .ok (.invokestatic 54, 3) := by decide +kernel
theorem dX7_isValue_64 : decode cX7_isValue 64 = .ok (.ireturn, 1) := by decide +kernel
theorem dX7_set_0 : decode cX7_set 0 = .ok (.aload_n 0, 1) := by decide +kernel
theorem dX7_set_1 : decode cX7_set 1 = .ok (.iload_n 1, 1) := by decide +kernel
theorem dX7_set_2 : decode cX7_set 2 = .ok (.invokestatic 188, 3) := by decide +kernel
theorem dX7_set_5 : decode cX7_set 5 = .ok (.ifCond .ne 7, 3) := by decide +kernel
theorem dX7_set_8 : decode cX7_set 8 = .ok (.iconst 1, 1) := by decide +kernel
theorem dX7_set_9 : decode cX7_set 9 = .ok (.goto 16, 3) := by decide +kernel
theorem dX7_set_12 : decode cX7_set 12 = .ok (.iload_n 1, 1) := by decide +kernel
theorem dX7_set_13 : decode cX7_set 13 = .ok (.iload_n 2, 1) := by decide +kernel
theorem dX7_set_14 : decode cX7_set 14 = .ok (.invokestatic 191, 3) := by decide +kernel
theorem dX7_set_17 : decode cX7_set 17 = .ok (.ifCond .eq 7, 3) := by decide +kernel
theorem dX7_set_20 : decode cX7_set 20 = .ok (.iconst 0, 1) := by decide +kernel
theorem dX7_set_21 : decode cX7_set 21 = .ok (.goto 4, 3) := by decide +kernel
theorem dX7_set_24 : decode cX7_set 24 = .ok (.iconst 2, 1) := by decide +kernel
theorem dX7_set_25 : decode cX7_set 25 = .ok (.putfield 47, 3) := by decide +kernel
theorem dX7_set_28 : decode cX7_set 28 = .ok (.aload_n 0, 1) := by decide +kernel
theorem dX7_set_29 : decode cX7_set 29 = .ok (.getfield 47, 3) := by decide +kernel
theorem dX7_set_32 : decode cX7_set 32 = .ok (.ifCond .le 5, 3) := by decide +kernel
theorem dX7_set_35 : decode cX7_set 35 = .ok (.iconst 0, 1) := by decide +kernel
theorem dX7_set_36 : decode cX7_set 36 = .ok (.ireturn, 1) := by decide +kernel
theorem dX7_set_37 : decode cX7_set 37 = .ok (.aload_n 0, 1) := by decide +kernel
theorem dX7_set_38 : decode cX7_set 38 = .ok (.invokevirtual 169, 3) := by decide +kernel
theorem dX7_set_41 : decode cX7_set 41 = .ok (.aload_n 0, 1) := by decide +kernel
theorem dX7_set_42 : decode cX7_set 42 = .ok (.getfield 7, 3) := by decide +kernel
theorem dX7_set_45 : decode cX7_set 45 = .ok (.iload_n 1, 1) := by decide +kernel
theorem dX7_set_46 : decode cX7_set 46 = .ok (.iaload, 1) := by decide +kernel
theorem dX7_set_47 : decode cX7_set 47 = .ok (.istore_n 3, 1) := by decide +kernel
theorem dX7_set_48 : decode cX7_set 48 = .ok (.aload_n 0, 1) := by decide +kernel
theorem dX7_set_49 : decode cX7_set 49 = .ok (.getfield 7, 3) := by decide +kernel
theorem dX7_set_52 : decode cX7_set 52 = .ok (.iload_n 1, 1) := by decide +kernel
theorem dX7_set_53 : decode cX7_set 53 = .ok (.iload_n 2, 1) := by decide +kernel
theorem dX7_set_54 : decode cX7_set 54 = .ok (.iastore, 1) := by decide +kernel
theorem dX7_set_55 : decode cX7_set 55 = .ok (.iload_n 3, 1) := by decide +kernel
theorem dX7_set_56 : decode cX7_set 56 = .ok (.ireturn, 1) := by decide +kernel
theorem dX7_append_0 : decode cX7_append 0 = .ok (.aload_n 0, 1) := by decide +kernel
theorem dX7_append_1 : decode cX7_append 1 = .ok (.iload_n 1, 1) := by decide +kernel
theorem dX7_append_2 : decode cX7_append 2 = .ok (.bipush 33, 2) := by decide +kernel
theorem dX7_append_4 : decode cX7_append 4 = .ok (.bipush 126, 2) := by decide +kernel
theorem dX7_append_6 : decode cX7_append 6 = .ok (.invokestatic 54, 3) := by decide +kernel
theorem dX7_append_9 : decode cX7_append 9 = .ok (.ifCond .ne 7, 3) := by decide +kernel
theorem dX7_append_12 : decode cX7_append 12 = .ok (.iconst 1, 1) := by decide +kernel
theorem dX7_append_13 : decode cX7_append 13 = .ok (.goto 17, 3) := by decide +kernel
theorem dX7_append_16 : decode cX7_append 16 = .ok (.aload_n 0, 1) := by decide +kernel
theorem dX7_append_17 : decode cX7_append 17 = .ok (.getfield 145, 3) := by decide +kernel
theorem dX7_append_20 : decode cX7_append 20 = .ok (.bipush 60, 2) := by decide +kernel
theorem dX7_append_22 : decode cX7_append 22 = .ok (.if_icmp .ne 7, 3) := by decide +kernel
theorem dX7_append_25 : decode cX7_append 25 = .ok (.iconst 2, 1) := by decide +kernel
theorem dX7_append_26 : decode cX7_append 26 = .ok (.goto 4, 3) := by decide +kernel
theorem dX7_append_29 : decode cX7_append 29 = .ok (.iconst 0, 1) := by decide +kernel
theorem dX7_append_30 : decode cX7_append 30 = .ok (.putfield 47, 3) := by decide +kernel
theorem dX7_append_33 : decode cX7_append 33 = .ok (.aload_n 0, 1) := by decide +kernel
theorem dX7_append_34 : decode cX7_append 34 = .ok (.getfield 47, 3) := by decide +kernel
theorem dX7_append_37 : decode cX7_append 37 = .ok (.ifCond .le 5, 3) := by decide +kernel
theorem dX7_append_40 : decode cX7_append 40 = .ok (.iconst 0, 1) := by decide +kernel
theorem dX7_append_41 : decode cX7_append 41 = .ok (.ireturn, 1) := by decide +kernel
theorem dX7_append_42 : decode cX7_append 42 = .ok (.aload_n 0, 1) := by decide +kernel
theorem dX7_append_43 : decode cX7_append 43 = .ok (.getfield 23, 3) := by decide +kernel
theorem dX7_append_46 : decode cX7_append 46 = .ok (.aload_n 0, 1) := by decide +kernel
theorem dX7_append_47 : decode cX7_append 47 = .ok (.getfield 145, 3) := by decide +kernel
theorem dX7_append_50 : decode cX7_append 50 = .ok (.iload_n 1, 1) := by decide +kernel
theorem dX7_append_51 : decode cX7_append 51 = .ok (.iastore, 1) := by decide +kernel
theorem dX7_append_52 : decode cX7_append 52 = .ok (.aload_n 0, 1) := by decide +kernel
theorem dX7_append_53 : decode cX7_append 53 = .ok (.dup, 1) := by decide +kernel
theorem dX7_append_54 : decode cX7_append 54 = .ok (.getfield 145, 3) := by decide +kernel
theorem dX7_append_57 : decode cX7_append 57 = .ok (.iconst 1, 1) := by decide +kernel
theorem dX7_append_58 : decode cX7_append 58 = .ok (.iadd, 1) := by decide +kernel
theorem dX7_append_59 : decode cX7_append 59 = .ok (.putfield 145, 3) := by decide +kernel
theorem dX7_append_62 : decode cX7_append 62 = .ok (.aload_n 0, 1) := by decide +kernel
theorem dX7_append_63 : decode cX7_append 63 = .ok (.getfield 145, 3) := by decide +kernel
theorem dX7_append_66 : decode cX7_append 66 = .ok (.ireturn, 1) := by decide +kernel
theorem dX7_clearBuffer_0 : decode cX7_clearBuffer 0 = .ok (.aload_n 0, 1) := by decide +kernel
theorem dX7_clearBuffer_1 : decode cX7_clearBuffer 1 = .ok (.iconst 0, 1) := by decide +kernel
theorem dX7_clearBuffer_2 : decode cX7_clearBuffer 2 = .ok (.putfield 47, 3) := by decide +kernel
theorem dX7_clearBuffer_5 : decode cX7_clearBuffer 5 = .ok (.aload_n 0, 1) := by decide +kernel
theorem dX7_clearBuffer_6 : decode cX7_clearBuffer 6 = .ok (.getfield 145, 3) := by decide +kernel
theorem dX7_clearBuffer_9 : decode cX7_clearBuffer 9 = .ok (.istore_n 1, 1) := by decide +kernel
theorem dX7_clearBuffer_10 : decode cX7_clearBuffer 10 = .ok (.aload_n 0, 1) := by decide +kernel
theorem dX7_clearBuffer_11 : decode cX7_clearBuffer 11 = .ok (.iconst 0, 1) := by decide +kernel
theorem dX7_clearBuffer_12 : decode cX7_clearBuffer 12 = .ok (.putfield 145, 3) := by decide +kernel
theorem dX7_clearBuffer_15 : decode cX7_clearBuffer 15 = .ok (.iload_n 1, 1) := by decide +kernel
theorem dX7_clearBuffer_16 : decode cX7_clearBuffer 16 = .ok (.ireturn, 1) := by decide +kernel
theorem dX7_firstError_0 : decode cX7_firstError 0 = .ok (.aload_n 0, 1) := by decide +kernel
theorem dX7_firstError_1 : decode cX7_firstError 1 = .ok (.iconst 0, 1) := by decide +kernel
theorem dX7_firstError_2 : decode cX7_firstError 2 = .ok (.putfield 47, 3) := by decide +kernel
theorem dX7_firstError_5 : decode cX7_firstError 5 = .ok (.aload_n 0, 1) := by decide +kernel
theorem dX7_firstError_6 : decode cX7_firstError 6 = .ok (.invokevirtual 151, 3) := by decide +kernel
theorem dX7_firstError_9 : decode cX7_firstError 9 = .ok (.ireturn, 1) := by decide +kernel
theorem dX7_undo_0 : decode cX7_undo 0 = .ok (.aload_n 0, 1) := by decide +kernel
theorem dX7_undo_1 : decode cX7_undo 1 = .ok (.aload_n 0, 1) := by decide +kernel
theorem dX7_undo_2 : decode cX7_undo 2 = .ok (.getfield 51, 3) := by decide +kernel
theorem dX7_undo_5 : decode cX7_undo 5 = .ok (.ifCond .le 7, 3) := by decide +kernel
theorem dX7_undo_8 : decode cX7_undo 8 = .ok (.iconst 0, 1) := by decide +kernel
theorem dX7_undo_9 : decode cX7_undo 9 = .ok (.goto 4, 3) := by decide +kernel
theorem dX7_undo_12 : decode cX7_undo 12 = .ok (.iconst 1, 1) := by decide +kernel
theorem dX7_undo_13 : decode cX7_undo 13 = .ok (.putfield 47, 3) := by decide +kernel
theorem dX7_undo_16 : decode cX7_undo 16 = .ok (.aload_n 0, 1) := by decide +kernel
theorem dX7_undo_17 : decode cX7_undo 17 = .ok (.getfield 47, 3) := by decide +kernel
theorem dX7_undo_20 : decode cX7_undo 20 = .ok (.ifCond .le 5, 3) := by decide +kernel
theorem dX7_undo_23 : decode cX7_undo 23 = .ok (.iconst 0, 1) := by decide +kernel
theorem dX7_undo_24 : decode cX7_undo 24 = .ok (.ireturn, 1) := by decide +kernel
theorem dX7_undo_25 : decode cX7_undo 25 = .ok (.aload_n 0, 1) := by decide +kernel
theorem dX7_undo_26 : decode cX7_undo 26 = .ok (.dup, 1) := by decide +kernel
theorem dX7_undo_27 : decode cX7_undo 27 = .ok (.getfield 51, 3) := by decide +kernel
theorem dX7_undo_30 : decode cX7_undo 30 = .ok (.iconst 1, 1) := by decide +kernel
theorem dX7_undo_31 : decode cX7_undo 31 = .ok (.isub, 1) := by decide +kernel
theorem dX7_undo_32 : decode cX7_undo 32 = .ok (.putfield 51, 3) := by decide +kernel
theorem dX7_undo_35 : decode cX7_undo 35 = .ok (.iconst 0, 1) := by decide +kernel
theorem dX7_undo_36 : decode cX7_undo 36 = .ok (.istore_n 1, 1) := by decide +kernel
theorem dX7_undo_37 : decode cX7_undo 37 = .ok (.iload_n 1, 1) := by decide +kernel
theorem dX7_undo_38 : decode cX7_undo 38 = .ok (.sipush 611, 3) := by decide +kernel
theorem dX7_undo_41 : decode cX7_undo 41 = .ok (.if_icmp .ge 30, 3) := by decide +kernel
theorem dX7_undo_44 : decode cX7_undo 44 = .ok (.aload_n 0, 1) := by decide +kernel
theorem dX7_undo_45 : decode cX7_undo 45 = .ok (.getfield 7, 3) := by decide +kernel
theorem dX7_undo_48 : decode cX7_undo 48 = .ok (.iload_n 1, 1) := by decide +kernel
theorem dX7_undo_49 : decode cX7_undo 49 = .ok (.aload_n 0, 1) := by decide +kernel
theorem dX7_undo_50 : decode cX7_undo 50 = .ok (.getfield 17, 3) := by decide +kernel
theorem dX7_undo_53 : decode cX7_undo 53 = .ok (.sipush 611, 3) := by decide +kernel
theorem dX7_undo_56 : decode cX7_undo 56 = .ok (.aload_n 0, 1) := by decide +kernel
theorem dX7_undo_57 : decode cX7_undo 57 = .ok (.getfield 51, 3) := by decide +kernel
theorem dX7_undo_60 : decode cX7_undo 60 = .ok (.imul, 1) := by decide +kernel
theorem dX7_undo_61 : decode cX7_undo 61 = .ok (.iload_n 1, 1) := by decide +kernel
theorem dX7_undo_62 : decode cX7_undo 62 = .ok (.iadd, 1) := by decide +kernel
theorem dX7_undo_63 : decode cX7_undo 63 = .ok (.iaload, 1) := by decide +kernel
theorem dX7_undo_64 : decode cX7_undo 64 = .ok (.iastore, 1) := by decide +kernel
theorem dX7_undo_65 : decode cX7_undo 65 = .ok (.iinc 1 1, 3) := by decide +kernel
theorem dX7_undo_68 : decode cX7_undo 68 = .ok (.goto (-31), 3) := by decide +kernel
theorem dX7_undo_71 : decode cX7_undo 71 = .ok (.iconst 0, 1) := by decide +kernel
theorem dX7_undo_72 : decode cX7_undo 72 = .ok (.istore_n 1, 1) := by decide +kernel
theorem dX7_undo_73 : decode cX7_undo 73 = .ok (.iload_n 1, 1) := by decide +kernel
theorem dX7_undo_74 : decode cX7_undo 74 = .ok (.bipush 60, 2) := by decide +kernel
theorem dX7_undo_76 : decode cX7_undo 76 = .ok (.if_icmp .ge 29, 3) := by decide +kernel
theorem dX7_undo_79 : decode cX7_undo 79 = .ok (.aload_n 0, 1) := by decide +kernel
theorem dX7_undo_80 : decode cX7_undo 80 = .ok (.getfield 13, 3) := by decide +kernel
theorem dX7_undo_83 : decode cX7_undo 83 = .ok (.iload_n 1, 1) := by decide +kernel
theorem dX7_undo_84 : decode cX7_undo 84 = .ok (.aload_n 0, 1) := by decide +kernel
theorem dX7_undo_85 : decode cX7_undo 85 = .ok (.getfield 20, 3) := by decide +kernel
theorem dX7_undo_88 : decode cX7_undo 88 = .ok (.bipush 60, 2) := by decide +kernel
theorem dX7_undo_90 : decode cX7_undo 90 = .ok (.aload_n 0, 1) := by decide +kernel
theorem dX7_undo_91 : decode cX7_undo 91 = .ok (.getfield 51, 3) := by decide +kernel
theorem dX7_undo_94 : decode cX7_undo 94 = .ok (.imul, 1) := by decide +kernel
theorem dX7_undo_95 : decode cX7_undo 95 = .ok (.iload_n 1, 1) := by decide +kernel
theorem dX7_undo_96 : decode cX7_undo 96 = .ok (.iadd, 1) := by decide +kernel
theorem dX7_undo_97 : decode cX7_undo 97 = .ok (.laload, 1) := by decide +kernel
theorem dX7_undo_98 : decode cX7_undo 98 = .ok (.lastore, 1) := by decide +kernel
theorem dX7_undo_99 : decode cX7_undo 99 = .ok (.iinc 1 1, 3) := by decide +kernel
theorem dX7_undo_102 : decode cX7_undo 102 = .ok (.goto (-29), 3) := by decide +kernel
theorem dX7_undo_105 : decode cX7_undo 105 = .ok (.aload_n 0, 1) := by decide +kernel
theorem dX7_undo_106 : decode cX7_undo 106 = .ok (.getfield 51, 3) := by decide +kernel
theorem dX7_undo_109 : decode cX7_undo 109 = .ok (.ireturn, 1) := by decide +kernel
theorem dX7_piecesUpTo_0 : decode cX7_piecesUpTo 0 = .ok (.iconst 0, 1) := by decide +kernel
theorem dX7_piecesUpTo_1 : decode cX7_piecesUpTo 1 = .ok (.istore_n 3, 1) := by decide +kernel
theorem dX7_piecesUpTo_2 : decode cX7_piecesUpTo 2 = .ok (.iconst 0, 1) := by decide +kernel
theorem dX7_piecesUpTo_3 : decode cX7_piecesUpTo 3 = .ok (.istore 4, 2) := by decide +kernel
theorem dX7_piecesUpTo_5 : decode cX7_piecesUpTo 5 = .ok (.iload 4, 2) := by decide +kernel
theorem dX7_piecesUpTo_7 : decode cX7_piecesUpTo 7 = .ok (.iload_n 2, 1) := by decide +kernel
theorem dX7_piecesUpTo_8 : decode cX7_piecesUpTo 8 = .ok (.if_icmp .ge 27, 3) := by decide +kernel
theorem dX7_piecesUpTo_11 : decode cX7_piecesUpTo 11 = .ok (.iload_n 3, 1) := by decide +kernel
theorem dX7_piecesUpTo_12 : decode cX7_piecesUpTo 12 = .ok (.aload_n 0, 1) := by decide +kernel
theorem dX7_piecesUpTo_13 : decode cX7_piecesUpTo 13 = .ok (.iload_n 1, 1) := by decide +kernel
theorem dX7_piecesUpTo_14 : decode cX7_piecesUpTo 14 = .ok (.iload 4, 2) := by decide +kernel
theorem dX7_piecesUpTo_16 : decode cX7_piecesUpTo 16 = .ok (.invokevirtual 92, 3) := by decide +kernel
theorem dX7_piecesUpTo_19 : decode cX7_piecesUpTo 19 = .ok (.ifCond .ne 7, 3) := by decide +kernel
theorem dX7_piecesUpTo_22 : decode cX7_piecesUpTo 22 = .ok (.iconst 0, 1) := by decide +kernel
theorem dX7_piecesUpTo_23 : decode cX7_piecesUpTo 23 = .ok (.goto 4, 3) := by decide +kernel
theorem dX7_piecesUpTo_26 : decode cX7_piecesUpTo 26 = .ok (.iconst 1, 1) := by decide +kernel
theorem dX7_piecesUpTo_27 : decode cX7_piecesUpTo 27 = .ok (.iadd, 1) := by decide +kernel
theorem dX7_piecesUpTo_28 : decode cX7_piecesUpTo 28 = .ok (.istore_n 3, 1) := by decide +kernel
theorem dX7_piecesUpTo_29 : decode cX7_piecesUpTo 29 = .ok (.iinc 4 1, 3) := by decide +kernel
theorem dX7_piecesUpTo_32 : decode cX7_piecesUpTo 32 = .ok (.goto (-27), 3) := by decide +kernel
theorem dX7_piecesUpTo_35 : decode cX7_piecesUpTo 35 = .ok (.iload_n 3, 1) := by decide +kernel
theorem dX7_piecesUpTo_36 : decode cX7_piecesUpTo 36 = .ok (.ireturn, 1) := by decide +kernel
theorem dX7_signNow_0 : decode cX7_signNow 0 = .ok (.aload_n 0, 1) := by decide +kernel
theorem dX7_signNow_1 : decode cX7_signNow 1 = .ok (.iload_n 1, 1) := by decide +kernel
theorem dX7_signNow_2 : decode cX7_signNow 2 = .ok (.invokevirtual 175, 3) := by decide +kernel
theorem dX7_signNow_5 : decode cX7_signNow 5 = .ok (.iload_n 3, 1) := by decide +kernel
theorem dX7_signNow_6 : decode cX7_signNow 6 = .ok (.tableswitch 46 0 2 #[26, 33, 39], 26) := by decide +kernel
theorem dX7_signNow_32 : decode cX7_signNow 32 = .ok (.aload_n 0, 1) := by decide +kernel
theorem dX7_signNow_33 : decode cX7_signNow 33 = .ok (.getfield 26, 3) := by decide +kernel
theorem dX7_signNow_36 : decode cX7_signNow 36 = .ok (.iload_n 2, 1) := by decide +kernel
theorem dX7_signNow_37 : decode cX7_signNow 37 = .ok (.iaload, 1) := by decide +kernel
theorem dX7_signNow_38 : decode cX7_signNow 38 = .ok (.ireturn, 1) := by decide +kernel
theorem dX7_signNow_39 : decode cX7_signNow 39 = .ok (.aload_n 0, 1) := by decide +kernel
theorem dX7_signNow_40 : decode cX7_signNow 40 = .ok (.iload_n 2, 1) := by decide +kernel
theorem dX7_signNow_41 : decode cX7_signNow 41 = .ok (.invokevirtual 69, 3) := by decide +kernel
theorem dX7_signNow_44 : decode cX7_signNow 44 = .ok (.ireturn, 1) := by decide +kernel
theorem dX7_signNow_45 : decode cX7_signNow 45 = .ok (.aload_n 0, 1) := by decide +kernel
theorem dX7_signNow_46 : decode cX7_signNow 46 = .ok (.iload_n 1, 1) := by decide +kernel
theorem dX7_signNow_47 : decode cX7_signNow 47 = .ok (.iload_n 2, 1) := by decide +kernel
theorem dX7_signNow_48 : decode cX7_signNow 48 = .ok (.invokevirtual 194, 3) := by decide +kernel
theorem dX7_signNow_51 : decode cX7_signNow 51 = .ok (.ireturn, 1) := by decide +kernel
theorem dX7_signNow_52 : decode cX7_signNow 52 = .ok (.aload_n 0, 1) := by decide +kernel
theorem dX7_signNow_53 : decode cX7_signNow 53 = .ok (.iload_n 1, 1) := by decide +kernel
theorem dX7_signNow_54 : decode cX7_signNow 54 = .ok (.iload_n 2, 1) := by decide +kernel
theorem dX7_signNow_55 : decode cX7_signNow 55 = .ok (.invokevirtual 92, 3) := by decide +kernel
theorem dX7_signNow_58 : decode cX7_signNow 58 = .ok (.ifCond .ne 7, 3) := by decide +kernel
theorem dX7_signNow_61 : decode cX7_signNow 61 = .ok (.iconst 0, 1) := by decide +kernel
theorem dX7_signNow_62 : decode cX7_signNow 62 = .ok (.goto 4, 3) := by decide +kernel
theorem dX7_signNow_65 : decode cX7_signNow 65 = .ok (.iconst 1, 1) := by decide +kernel
theorem dX7_signNow_66 : decode cX7_signNow 66 = .ok (.ireturn, 1) := by decide +kernel
theorem dX7_sign_0 : decode cX7_sign 0 = .ok (.aload_n 0, 1) := by decide +kernel
theorem dX7_sign_1 : decode cX7_sign 1 = .ok (.aload_n 0, 1) := by decide +kernel
theorem dX7_sign_2 : decode cX7_sign 2 = .ok (.iload_n 1, 1) := by decide +kernel
theorem dX7_sign_3 : decode cX7_sign 3 = .ok (.iload_n 2, 1) := by decide +kernel
theorem dX7_sign_4 : decode cX7_sign 4 = .ok (.invokevirtual 182, 3) := by decide +kernel
theorem dX7_sign_7 : decode cX7_sign 7 = .ok (.ifCond .ne 7, 3) := by decide +kernel
theorem dX7_sign_10 : decode cX7_sign 10 = .ok (.iconst 1, 1) := by decide +kernel
theorem dX7_sign_11 : decode cX7_sign 11 = .ok (.goto 17, 3) := by decide +kernel
theorem dX7_sign_14 : decode cX7_sign 14 = .ok (.iload_n 3, 1) := by decide +kernel
theorem dX7_sign_15 : decode cX7_sign 15 = .ok (.iconst 0, 1) := by decide +kernel
theorem dX7_sign_16 : decode cX7_sign 16 = .ok (.iconst 3, 1) := by decide +kernel
theorem dX7_sign_17 : decode cX7_sign 17 = .ok (.invokestatic 54, 3) := by decide +kernel
theorem dX7_sign_20 : decode cX7_sign 20 = .ok (.ifCond .eq 7, 3) := by decide +kernel
theorem dX7_sign_23 : decode cX7_sign 23 = .ok (.iconst 0, 1) := by decide +kernel
theorem dX7_sign_24 : decode cX7_sign 24 = .ok (.goto 4, 3) := by decide +kernel
theorem dX7_sign_27 : decode cX7_sign 27 = .ok (.iconst 2, 1) := by decide +kernel
theorem dX7_sign_28 : decode cX7_sign 28 = .ok (.putfield 47, 3) := by decide +kernel
theorem dX7_sign_31 : decode cX7_sign 31 = .ok (.aload_n 0, 1) := by decide +kernel
theorem dX7_sign_32 : decode cX7_sign 32 = .ok (.getfield 47, 3) := by decide +kernel
theorem dX7_sign_35 : decode cX7_sign 35 = .ok (.ifCond .le 7, 3) := by decide +kernel
theorem dX7_sign_38 : decode cX7_sign 38 = .ok (.iconst 0, 1) := by decide +kernel
theorem dX7_sign_39 : decode cX7_sign 39 = .ok (.goto 10, 3) := by decide +kernel
theorem dX7_sign_42 : decode cX7_sign 42 = .ok (.aload_n 0, 1) := by decide +kernel
theorem dX7_sign_43 : decode cX7_sign 43 = .ok (.iload_n 1, 1) := by decide +kernel
theorem dX7_sign_44 : decode cX7_sign 44 = .ok (.iload_n 2, 1) := by decide +kernel
theorem dX7_sign_45 : decode cX7_sign 45 = .ok (.iload_n 3, 1) := by decide +kernel
theorem dX7_sign_46 : decode cX7_sign 46 = .ok (.invokevirtual 197, 3) := by decide +kernel
theorem dX7_sign_49 : decode cX7_sign 49 = .ok (.ireturn, 1) := by decide +kernel
theorem dX7_piecesOf_0 : decode cX7_piecesOf 0 = .ok (.aload_n 0, 1) := by decide +kernel
theorem dX7_piecesOf_1 : decode cX7_piecesOf 1 = .ok (.iload_n 1, 1) := by decide +kernel
theorem dX7_piecesOf_2 : decode cX7_piecesOf 2 = .ok (.aload_n 0, 1) := by decide +kernel
theorem dX7_piecesOf_3 : decode cX7_piecesOf 3 = .ok (.iload_n 1, 1) := by decide +kernel
theorem dX7_piecesOf_4 : decode cX7_piecesOf 4 = .ok (.invokevirtual 58, 3) := by decide +kernel
theorem dX7_piecesOf_7 : decode cX7_piecesOf 7 = .ok (.invokevirtual 194, 3) := by decide +kernel
theorem dX7_piecesOf_10 : decode cX7_piecesOf 10 = .ok (.ireturn, 1) := by decide +kernel
theorem dX7_firstOf_0 : decode cX7_firstOf 0 = .ok (.iconst 0, 1) := by decide +kernel
theorem dX7_firstOf_1 : decode cX7_firstOf 1 = .ok (.istore_n 3, 1) := by decide +kernel
theorem dX7_firstOf_2 : decode cX7_firstOf 2 = .ok (.iload_n 2, 1) := by decide +kernel
theorem dX7_firstOf_3 : decode cX7_firstOf 3 = .ok (.istore 4, 2) := by decide +kernel
theorem dX7_firstOf_5 : decode cX7_firstOf 5 = .ok (.iload 4, 2) := by decide +kernel
theorem dX7_firstOf_7 : decode cX7_firstOf 7 = .ok (.ifCond .le 28, 3) := by decide +kernel
theorem dX7_firstOf_10 : decode cX7_firstOf 10 = .ok (.iload 4, 2) := by decide +kernel
theorem dX7_firstOf_12 : decode cX7_firstOf 12 = .ok (.aload_n 0, 1) := by decide +kernel
theorem dX7_firstOf_13 : decode cX7_firstOf 13 = .ok (.iload_n 1, 1) := by decide +kernel
theorem dX7_firstOf_14 : decode cX7_firstOf 14 = .ok (.iload_n 3, 1) := by decide +kernel
theorem dX7_firstOf_15 : decode cX7_firstOf 15 = .ok (.invokevirtual 92, 3) := by decide +kernel
theorem dX7_firstOf_18 : decode cX7_firstOf 18 = .ok (.ifCond .ne 7, 3) := by decide +kernel
theorem dX7_firstOf_21 : decode cX7_firstOf 21 = .ok (.iconst 0, 1) := by decide +kernel
theorem dX7_firstOf_22 : decode cX7_firstOf 22 = .ok (.goto 4, 3) := by decide +kernel
theorem dX7_firstOf_25 : decode cX7_firstOf 25 = .ok (.iconst 1, 1) := by decide +kernel
theorem dX7_firstOf_26 : decode cX7_firstOf 26 = .ok (.isub, 1) := by decide +kernel
theorem dX7_firstOf_27 : decode cX7_firstOf 27 = .ok (.istore 4, 2) := by decide +kernel
theorem dX7_firstOf_29 : decode cX7_firstOf 29 = .ok (.iinc 3 1, 3) := by decide +kernel
theorem dX7_firstOf_32 : decode cX7_firstOf 32 = .ok (.goto (-27), 3) := by decide +kernel
theorem dX7_firstOf_35 : decode cX7_firstOf 35 = .ok (.iload_n 3, 1) := by decide +kernel
theorem dX7_firstOf_36 : decode cX7_firstOf 36 = .ok (.ireturn, 1) := by decide +kernel
theorem dX7_has_0 : decode cX7_has 0 = .ok (.iconst 0, 1) := by decide +kernel
theorem dX7_has_1 : decode cX7_has 1 = .ok (.istore_n 3, 1) := by decide +kernel
theorem dX7_has_2 : decode cX7_has 2 = .ok (.iconst 0, 1) := by decide +kernel
theorem dX7_has_3 : decode cX7_has 3 = .ok (.istore 4, 2) := by decide +kernel
theorem dX7_has_5 : decode cX7_has 5 = .ok (.iload 4, 2) := by decide +kernel
theorem dX7_has_7 : decode cX7_has 7 = .ok (.aload_n 0, 1) := by decide +kernel
theorem dX7_has_8 : decode cX7_has 8 = .ok (.iload_n 1, 1) := by decide +kernel
theorem dX7_has_9 : decode cX7_has 9 = .ok (.invokevirtual 58, 3) := by decide +kernel
theorem dX7_has_12 : decode cX7_has 12 = .ok (.if_icmp .ge 30, 3) := by decide +kernel
theorem dX7_has_15 : decode cX7_has 15 = .ok (.iload_n 3, 1) := by decide +kernel
theorem dX7_has_16 : decode cX7_has 16 = .ok (.ifCond .ne 14, 3) := by decide +kernel
theorem dX7_has_19 : decode cX7_has 19 = .ok (.aload_n 0, 1) := by decide +kernel
theorem dX7_has_20 : decode cX7_has 20 = .ok (.iload_n 1, 1) := by decide +kernel
theorem dX7_has_21 : decode cX7_has 21 = .ok (.iload 4, 2) := by decide +kernel
theorem dX7_has_23 : decode cX7_has 23 = .ok (.invokevirtual 95, 3) := by decide +kernel
theorem dX7_has_26 : decode cX7_has 26 = .ok (.iload_n 2, 1) := by decide +kernel
theorem dX7_has_27 : decode cX7_has 27 = .ok (.if_icmp .ne 7, 3) := by decide +kernel
theorem dX7_has_30 : decode cX7_has 30 = .ok (.iconst 1, 1) := by decide +kernel
theorem dX7_has_31 : decode cX7_has 31 = .ok (.goto 4, 3) := by decide +kernel
theorem dX7_has_34 : decode cX7_has 34 = .ok (.iconst 0, 1) := by decide +kernel
theorem dX7_has_35 : decode cX7_has 35 = .ok (.istore_n 3, 1) := by decide +kernel
theorem dX7_has_36 : decode cX7_has 36 = .ok (.iinc 4 1, 3) := by decide +kernel
theorem dX7_has_39 : decode cX7_has 39 = .ok (.goto (-34), 3) := by decide +kernel
theorem dX7_has_42 : decode cX7_has 42 = .ok (.iload_n 3, 1) := by decide +kernel
theorem dX7_has_43 : decode cX7_has 43 = .ok (.ireturn, 1) := by decide +kernel
theorem dX7_textsWith_0 : decode cX7_textsWith 0 = .ok (.iconst 0, 1) := by decide +kernel
theorem dX7_textsWith_1 : decode cX7_textsWith 1 = .ok (.istore_n 2, 1) := by decide +kernel
theorem dX7_textsWith_2 : decode cX7_textsWith 2 = .ok (.iconst 0, 1) := by decide +kernel
theorem dX7_textsWith_3 : decode cX7_textsWith 3 = .ok (.istore_n 3, 1) := by decide +kernel
theorem dX7_textsWith_4 : decode cX7_textsWith 4 = .ok (.iload_n 3, 1) := by decide +kernel
theorem dX7_textsWith_5 : decode cX7_textsWith 5 = .ok (.iconst 4, 1) := by decide +kernel
theorem dX7_textsWith_6 : decode cX7_textsWith 6 = .ok (.if_icmp .ge 28, 3) := by decide +kernel
theorem dX7_textsWith_9 : decode cX7_textsWith 9 = .ok (.iload_n 2, 1) := by decide +kernel
theorem dX7_textsWith_10 : decode cX7_textsWith 10 = .ok (.aload_n 0, 1) := by decide +kernel
theorem dX7_textsWith_11 : decode cX7_textsWith 11 = .ok (.iload_n 3, 1) := by decide +kernel
theorem dX7_textsWith_12 : decode cX7_textsWith 12 = .ok (.iload_n 1, 1) := by decide +kernel
theorem dX7_textsWith_13 : decode cX7_textsWith 13 = .ok (.invokevirtual 201, 3) := by decide +kernel
theorem dX7_textsWith_16 : decode cX7_textsWith 16 = .ok (.ifCond .eq 9, 3) := by decide +kernel
theorem dX7_textsWith_19 : decode cX7_textsWith 19 = .ok (.iconst 1, 1) := by decide +kernel
theorem dX7_textsWith_20 : decode cX7_textsWith 20 = .ok (.iload_n 3, 1) := by decide +kernel
theorem dX7_textsWith_21 : decode cX7_textsWith 21 = .ok (.ishl, 1) := by decide +kernel
theorem dX7_textsWith_22 : decode cX7_textsWith 22 = .ok (.goto 4, 3) := by decide +kernel
theorem dX7_textsWith_25 : decode cX7_textsWith 25 = .ok (.iconst 0, 1) := by decide +kernel
theorem dX7_textsWith_26 : decode cX7_textsWith 26 = .ok (.ior, 1) := by decide +kernel
theorem dX7_textsWith_27 : decode cX7_textsWith 27 = .ok (.istore_n 2, 1) := by decide +kernel
theorem dX7_textsWith_28 : decode cX7_textsWith 28 = .ok (.iinc 3 1, 3) := by decide +kernel
theorem dX7_textsWith_31 : decode cX7_textsWith 31 = .ok (.goto (-27), 3) := by decide +kernel
theorem dX7_textsWith_34 : decode cX7_textsWith 34 = .ok (.iload_n 2, 1) := by decide +kernel
theorem dX7_textsWith_35 : decode cX7_textsWith 35 = .ok (.ireturn, 1) := by decide +kernel
theorem dX7_ones_0 : decode cX7_ones 0 = .ok (.iload_n 0, 1) := by decide +kernel
theorem dX7_ones_1 : decode cX7_ones 1 = .ok (.iconst 1, 1) := by decide +kernel
theorem dX7_ones_2 : decode cX7_ones 2 = .ok (.iand, 1) := by decide +kernel
theorem dX7_ones_3 : decode cX7_ones 3 = .ok (.iload_n 0, 1) := by decide +kernel
theorem dX7_ones_4 : decode cX7_ones 4 = .ok (.iconst 1, 1) := by decide +kernel
theorem dX7_ones_5 : decode cX7_ones 5 = .ok (.ishr, 1) := by decide +kernel
theorem dX7_ones_6 : decode cX7_ones 6 = .ok (.iconst 1, 1) := by decide +kernel
theorem dX7_ones_7 : decode cX7_ones 7 = .ok (.iand, 1) := by decide +kernel
theorem dX7_ones_8 : decode cX7_ones 8 = .ok (.iadd, 1) := by decide +kernel
theorem dX7_ones_9 : decode cX7_ones 9 = .ok (.iload_n 0, 1) := by decide +kernel
theorem dX7_ones_10 : decode cX7_ones 10 = .ok (.iconst 2, 1) := by decide +kernel
theorem dX7_ones_11 : decode cX7_ones 11 = .ok (.ishr, 1) := by decide +kernel
theorem dX7_ones_12 : decode cX7_ones 12 = .ok (.iconst 1, 1) := by decide +kernel
theorem dX7_ones_13 : decode cX7_ones 13 = .ok (.iand, 1) := by decide +kernel
theorem dX7_ones_14 : decode cX7_ones 14 = .ok (.iadd, 1) := by decide +kernel
theorem dX7_ones_15 : decode cX7_ones 15 = .ok (.iload_n 0, 1) := by decide +kernel
theorem dX7_ones_16 : decode cX7_ones 16 = .ok (.iconst 3, 1) := by decide +kernel
theorem dX7_ones_17 : decode cX7_ones 17 = .ok (.ishr, 1) := by decide +kernel
theorem dX7_ones_18 : decode cX7_ones 18 = .ok (.iconst 1, 1) := by decide +kernel
theorem dX7_ones_19 : decode cX7_ones 19 = .ok (.iand, 1) := by decide +kernel
theorem dX7_ones_20 : decode cX7_ones 20 = .ok (.iadd, 1) := by decide +kernel
theorem dX7_ones_21 : decode cX7_ones 21 = .ok (.ireturn, 1) := by decide +kernel
theorem dX7_pieceNow_0 : decode cX7_pieceNow 0 = .ok (.iload_n 2, 1) := by decide +kernel
theorem dX7_pieceNow_1 : decode cX7_pieceNow 1 = .ok (.aload_n 0, 1) := by decide +kernel
theorem dX7_pieceNow_2 : decode cX7_pieceNow 2 = .ok (.iload_n 1, 1) := by decide +kernel
theorem dX7_pieceNow_3 : decode cX7_pieceNow 3 = .ok (.invokevirtual 204, 3) := by decide +kernel
theorem dX7_pieceNow_6 : decode cX7_pieceNow 6 = .ok (.if_icmp .lt 5, 3) := by decide +kernel
theorem dX7_pieceNow_9 : decode cX7_pieceNow 9 = .ok (.iconst (-1), 1) := by decide +kernel
theorem dX7_pieceNow_10 : decode cX7_pieceNow 10 = .ok (.ireturn, 1) := by decide +kernel
theorem dX7_pieceNow_11 : decode cX7_pieceNow 11 = .ok (.aload_n 0, 1) := by decide +kernel
theorem dX7_pieceNow_12 : decode cX7_pieceNow 12 = .ok (.iload_n 1, 1) := by decide +kernel
theorem dX7_pieceNow_13 : decode cX7_pieceNow 13 = .ok (.iload_n 2, 1) := by decide +kernel
theorem dX7_pieceNow_14 : decode cX7_pieceNow 14 = .ok (.invokevirtual 207, 3) := by decide +kernel
theorem dX7_pieceNow_17 : decode cX7_pieceNow 17 = .ok (.istore 4, 2) := by decide +kernel
theorem dX7_pieceNow_19 : decode cX7_pieceNow 19 = .ok (.aload_n 0, 1) := by decide +kernel
theorem dX7_pieceNow_20 : decode cX7_pieceNow 20 = .ok (.iload_n 1, 1) := by decide +kernel
theorem dX7_pieceNow_21 : decode cX7_pieceNow 21 = .ok (.iload 4, 2) := by decide +kernel
theorem dX7_pieceNow_23 : decode cX7_pieceNow 23 = .ok (.invokevirtual 95, 3) := by decide +kernel
theorem dX7_pieceNow_26 : decode cX7_pieceNow 26 = .ok (.istore 5, 2) := by decide +kernel
theorem dX7_pieceNow_28 : decode cX7_pieceNow 28 = .ok (.iload_n 3, 1) := by decide +kernel
theorem dX7_pieceNow_29 : decode cX7_pieceNow 29 = .ok (.tableswitch 80 0 3 #[31, 34, 37, 49], 31) := by decide +kernel
theorem dX7_pieceNow_60 : decode cX7_pieceNow 60 = .ok (.iload 5, 2) := by decide +kernel
theorem dX7_pieceNow_62 : decode cX7_pieceNow 62 = .ok (.ireturn, 1) := by decide +kernel
theorem dX7_pieceNow_63 : decode cX7_pieceNow 63 = .ok (.iload 4, 2) := by decide +kernel
theorem dX7_pieceNow_65 : decode cX7_pieceNow 65 = .ok (.ireturn, 1) := by decide +kernel
theorem dX7_pieceNow_66 : decode cX7_pieceNow 66 = .ok (.aload_n 0, 1) := by decide +kernel
theorem dX7_pieceNow_67 : decode cX7_pieceNow 67 = .ok (.getfield 7, 3) := by decide +kernel
theorem dX7_pieceNow_70 : decode cX7_pieceNow 70 = .ok (.sipush 491, 3) := by decide +kernel
theorem dX7_pieceNow_73 : decode cX7_pieceNow 73 = .ok (.iload 5, 2) := by decide +kernel
theorem dX7_pieceNow_75 : decode cX7_pieceNow 75 = .ok (.iadd, 1) := by decide +kernel
theorem dX7_pieceNow_76 : decode cX7_pieceNow 76 = .ok (.iaload, 1) := by decide +kernel
theorem dX7_pieceNow_77 : decode cX7_pieceNow 77 = .ok (.ireturn, 1) := by decide +kernel
theorem dX7_pieceNow_78 : decode cX7_pieceNow 78 = .ok (.aload_n 0, 1) := by decide +kernel
theorem dX7_pieceNow_79 : decode cX7_pieceNow 79 = .ok (.iload_n 1, 1) := by decide +kernel
theorem dX7_pieceNow_80 : decode cX7_pieceNow 80 = .ok (.iload 4, 2) := by decide +kernel
theorem dX7_pieceNow_82 : decode cX7_pieceNow 82 = .ok (.aload_n 0, 1) := by decide +kernel
theorem dX7_pieceNow_83 : decode cX7_pieceNow 83 = .ok (.getfield 7, 3) := by decide +kernel
theorem dX7_pieceNow_86 : decode cX7_pieceNow 86 = .ok (.sipush 491, 3) := by decide +kernel
theorem dX7_pieceNow_89 : decode cX7_pieceNow 89 = .ok (.iload 5, 2) := by decide +kernel
theorem dX7_pieceNow_91 : decode cX7_pieceNow 91 = .ok (.iadd, 1) := by decide +kernel
theorem dX7_pieceNow_92 : decode cX7_pieceNow 92 = .ok (.iaload, 1) := by decide +kernel
theorem dX7_pieceNow_93 : decode cX7_pieceNow 93 = .ok (.iadd, 1) := by decide +kernel
theorem dX7_pieceNow_94 : decode cX7_pieceNow 94 = .ok (.iconst 1, 1) := by decide +kernel
theorem dX7_pieceNow_95 : decode cX7_pieceNow 95 = .ok (.isub, 1) := by decide +kernel
theorem dX7_pieceNow_96 : decode cX7_pieceNow 96 = .ok (.invokevirtual 92, 3) := by decide +kernel
theorem dX7_pieceNow_99 : decode cX7_pieceNow 99 = .ok (.iconst 2, 1) := by decide +kernel
theorem dX7_pieceNow_100 : decode cX7_pieceNow 100 = .ok (.if_icmp .ne 7, 3) := by decide +kernel
theorem dX7_pieceNow_103 : decode cX7_pieceNow 103 = .ok (.iconst 1, 1) := by decide +kernel
theorem dX7_pieceNow_104 : decode cX7_pieceNow 104 = .ok (.goto 4, 3) := by decide +kernel
theorem dX7_pieceNow_107 : decode cX7_pieceNow 107 = .ok (.iconst 0, 1) := by decide +kernel
theorem dX7_pieceNow_108 : decode cX7_pieceNow 108 = .ok (.ireturn, 1) := by decide +kernel
theorem dX7_pieceNow_109 : decode cX7_pieceNow 109 = .ok (.aload_n 0, 1) := by decide +kernel
theorem dX7_pieceNow_110 : decode cX7_pieceNow 110 = .ok (.iload 5, 2) := by decide +kernel
theorem dX7_pieceNow_112 : decode cX7_pieceNow 112 = .ok (.invokevirtual 210, 3) := by decide +kernel
theorem dX7_pieceNow_115 : decode cX7_pieceNow 115 = .ok (.iconst 1, 1) := by decide +kernel
theorem dX7_pieceNow_116 : decode cX7_pieceNow 116 = .ok (.iload_n 1, 1) := by decide +kernel
theorem dX7_pieceNow_117 : decode cX7_pieceNow 117 = .ok (.ishl, 1) := by decide +kernel
theorem dX7_pieceNow_118 : decode cX7_pieceNow 118 = .ok (.iconst (-1), 1) := by decide +kernel
theorem dX7_pieceNow_119 : decode cX7_pieceNow 119 = .ok (.ixor, 1) := by decide +kernel
theorem dX7_pieceNow_120 : decode cX7_pieceNow 120 = .ok (.iand, 1) := by decide +kernel
theorem dX7_pieceNow_121 : decode cX7_pieceNow 121 = .ok (.invokestatic 213, 3) := by decide +kernel
theorem dX7_pieceNow_124 : decode cX7_pieceNow 124 = .ok (.ireturn, 1) := by decide +kernel
theorem dX7_piece_0 : decode cX7_piece 0 = .ok (.aload_n 0, 1) := by decide +kernel
theorem dX7_piece_1 : decode cX7_piece 1 = .ok (.iload_n 1, 1) := by decide +kernel
theorem dX7_piece_2 : decode cX7_piece 2 = .ok (.invokestatic 157, 3) := by decide +kernel
theorem dX7_piece_5 : decode cX7_piece 5 = .ok (.ifCond .ne 7, 3) := by decide +kernel
theorem dX7_piece_8 : decode cX7_piece 8 = .ok (.iconst 1, 1) := by decide +kernel
theorem dX7_piece_9 : decode cX7_piece 9 = .ok (.goto 21, 3) := by decide +kernel
theorem dX7_piece_12 : decode cX7_piece 12 = .ok (.iload_n 2, 1) := by decide +kernel
theorem dX7_piece_13 : decode cX7_piece 13 = .ok (.ifCond .lt 16, 3) := by decide +kernel
theorem dX7_piece_16 : decode cX7_piece 16 = .ok (.iload_n 3, 1) := by decide +kernel
theorem dX7_piece_17 : decode cX7_piece 17 = .ok (.iconst 0, 1) := by decide +kernel
theorem dX7_piece_18 : decode cX7_piece 18 = .ok (.iconst 4, 1) := by decide +kernel
theorem dX7_piece_19 : decode cX7_piece 19 = .ok (.invokestatic 54, 3) := by decide +kernel
theorem dX7_piece_22 : decode cX7_piece 22 = .ok (.ifCond .eq 7, 3) := by decide +kernel
theorem dX7_piece_25 : decode cX7_piece 25 = .ok (.iconst 0, 1) := by decide +kernel
theorem dX7_piece_26 : decode cX7_piece 26 = .ok (.goto 4, 3) := by decide +kernel
theorem dX7_piece_29 : decode cX7_piece 29 = .ok (.iconst 2, 1) := by decide +kernel
theorem dX7_piece_30 : decode cX7_piece 30 = .ok (.putfield 47, 3) := by decide +kernel
theorem dX7_piece_33 : decode cX7_piece 33 = .ok (.aload_n 0, 1) := by decide +kernel
theorem dX7_piece_34 : decode cX7_piece 34 = .ok (.getfield 47, 3) := by decide +kernel
theorem dX7_piece_37 : decode cX7_piece 37 = .ok (.ifCond .le 7, 3) := by decide +kernel
theorem dX7_piece_40 : decode cX7_piece 40 = .ok (.iconst 0, 1) := by decide +kernel
theorem dX7_piece_41 : decode cX7_piece 41 = .ok (.goto 10, 3) := by decide +kernel
theorem dX7_piece_44 : decode cX7_piece 44 = .ok (.aload_n 0, 1) := by decide +kernel
theorem dX7_piece_45 : decode cX7_piece 45 = .ok (.iload_n 1, 1) := by decide +kernel
theorem dX7_piece_46 : decode cX7_piece 46 = .ok (.iload_n 2, 1) := by decide +kernel
theorem dX7_piece_47 : decode cX7_piece 47 = .ok (.iload_n 3, 1) := by decide +kernel
theorem dX7_piece_48 : decode cX7_piece 48 = .ok (.invokevirtual 216, 3) := by decide +kernel
theorem dX7_piece_51 : decode cX7_piece 51 = .ok (.ireturn, 1) := by decide +kernel
theorem dX7_valueIn_0 : decode cX7_valueIn 0 = .ok (.aload_n 0, 1) := by decide +kernel
theorem dX7_valueIn_1 : decode cX7_valueIn 1 = .ok (.getfield 13, 3) := by decide +kernel
theorem dX7_valueIn_4 : decode cX7_valueIn 4 = .ok (.iload_n 1, 1) := by decide +kernel
theorem dX7_valueIn_5 : decode cX7_valueIn 5 = .ok (.laload, 1) := by decide +kernel
theorem dX7_valueIn_6 : decode cX7_valueIn 6 = .ok (.iconst 3, 1) := by decide +kernel
theorem dX7_valueIn_7 : decode cX7_valueIn 7 = .ok (.iload_n 2, 1) := by decide +kernel
theorem dX7_valueIn_8 : decode cX7_valueIn 8 = .ok (.imul, 1) := by decide +kernel
theorem dX7_valueIn_9 : decode cX7_valueIn 9 = .ok (.lshr, 1) := by decide +kernel
theorem dX7_valueIn_10 : decode cX7_valueIn 10 = .ok (.ldc2_w 219, 3) := by decide +kernel
theorem dX7_valueIn_13 : decode cX7_valueIn 13 = .ok (.land, 1) := by decide +kernel
theorem dX7_valueIn_14 : decode cX7_valueIn 14 = .ok (.l2i, 1) := by decide +kernel
theorem dX7_valueIn_15 : decode cX7_valueIn 15 = .ok (.iconst 1, 1) := by decide +kernel
theorem dX7_valueIn_16 : decode cX7_valueIn 16 = .ok (.iadd, 1) := by decide +kernel
theorem dX7_valueIn_17 : decode cX7_valueIn 17 = .ok (.ireturn, 1) := by decide +kernel
theorem dX7_slotNow_0 : decode cX7_slotNow 0 = .ok (.aload_n 0, 1) := by decide +kernel
theorem dX7_slotNow_1 : decode cX7_slotNow 1 = .ok (.iload_n 1, 1) := by decide +kernel
theorem dX7_slotNow_2 : decode cX7_slotNow 2 = .ok (.invokevirtual 82, 3) := by decide +kernel
theorem dX7_slotNow_5 : decode cX7_slotNow 5 = .ok (.ifCond .ne 5, 3) := by decide +kernel
theorem dX7_slotNow_8 : decode cX7_slotNow 8 = .ok (.iconst (-1), 1) := by decide +kernel
theorem dX7_slotNow_9 : decode cX7_slotNow 9 = .ok (.ireturn, 1) := by decide +kernel
theorem dX7_slotNow_10 : decode cX7_slotNow 10 = .ok (.iload_n 2, 1) := by decide +kernel
theorem dX7_slotNow_11 : decode cX7_slotNow 11 = .ok (.tableswitch 76 0 3 #[29, 40, 51, 58], 29) := by decide +kernel
theorem dX7_slotNow_40 : decode cX7_slotNow 40 = .ok (.aload_n 0, 1) := by decide +kernel
theorem dX7_slotNow_41 : decode cX7_slotNow 41 = .ok (.getfield 7, 3) := by decide +kernel
theorem dX7_slotNow_44 : decode cX7_slotNow 44 = .ok (.sipush 491, 3) := by decide +kernel
theorem dX7_slotNow_47 : decode cX7_slotNow 47 = .ok (.iload_n 1, 1) := by decide +kernel
theorem dX7_slotNow_48 : decode cX7_slotNow 48 = .ok (.iadd, 1) := by decide +kernel
theorem dX7_slotNow_49 : decode cX7_slotNow 49 = .ok (.iaload, 1) := by decide +kernel
theorem dX7_slotNow_50 : decode cX7_slotNow 50 = .ok (.ireturn, 1) := by decide +kernel
theorem dX7_slotNow_51 : decode cX7_slotNow 51 = .ok (.aload_n 0, 1) := by decide +kernel
theorem dX7_slotNow_52 : decode cX7_slotNow 52 = .ok (.getfield 7, 3) := by decide +kernel
theorem dX7_slotNow_55 : decode cX7_slotNow 55 = .ok (.sipush 551, 3) := by decide +kernel
theorem dX7_slotNow_58 : decode cX7_slotNow 58 = .ok (.iload_n 1, 1) := by decide +kernel
theorem dX7_slotNow_59 : decode cX7_slotNow 59 = .ok (.iadd, 1) := by decide +kernel
theorem dX7_slotNow_60 : decode cX7_slotNow 60 = .ok (.iaload, 1) := by decide +kernel
theorem dX7_slotNow_61 : decode cX7_slotNow 61 = .ok (.ireturn, 1) := by decide +kernel
theorem dX7_slotNow_62 : decode cX7_slotNow 62 = .ok (.aload_n 0, 1) := by decide +kernel
theorem dX7_slotNow_63 : decode cX7_slotNow 63 = .ok (.iload_n 1, 1) := by decide +kernel
theorem dX7_slotNow_64 : decode cX7_slotNow 64 = .ok (.iconst 0, 1) := by decide +kernel
theorem dX7_slotNow_65 : decode cX7_slotNow 65 = .ok (.invokevirtual 221, 3) := by decide +kernel
theorem dX7_slotNow_68 : decode cX7_slotNow 68 = .ok (.ireturn, 1) := by decide +kernel
theorem dX7_slotNow_69 : decode cX7_slotNow 69 = .ok (.aload_n 0, 1) := by decide +kernel
theorem dX7_slotNow_70 : decode cX7_slotNow 70 = .ok (.iload_n 1, 1) := by decide +kernel
theorem dX7_slotNow_71 : decode cX7_slotNow 71 = .ok (.aload_n 0, 1) := by decide +kernel
theorem dX7_slotNow_72 : decode cX7_slotNow 72 = .ok (.getfield 7, 3) := by decide +kernel
theorem dX7_slotNow_75 : decode cX7_slotNow 75 = .ok (.sipush 491, 3) := by decide +kernel
theorem dX7_slotNow_78 : decode cX7_slotNow 78 = .ok (.iload_n 1, 1) := by decide +kernel
theorem dX7_slotNow_79 : decode cX7_slotNow 79 = .ok (.iadd, 1) := by decide +kernel
theorem dX7_slotNow_80 : decode cX7_slotNow 80 = .ok (.iaload, 1) := by decide +kernel
theorem dX7_slotNow_81 : decode cX7_slotNow 81 = .ok (.iconst 1, 1) := by decide +kernel
theorem dX7_slotNow_82 : decode cX7_slotNow 82 = .ok (.isub, 1) := by decide +kernel
theorem dX7_slotNow_83 : decode cX7_slotNow 83 = .ok (.invokevirtual 221, 3) := by decide +kernel
theorem dX7_slotNow_86 : decode cX7_slotNow 86 = .ok (.ireturn, 1) := by decide +kernel
theorem dX7_slotNow_87 : decode cX7_slotNow 87 = .ok (.aload_n 0, 1) := by decide +kernel
theorem dX7_slotNow_88 : decode cX7_slotNow 88 = .ok (.iload_n 1, 1) := by decide +kernel
theorem dX7_slotNow_89 : decode cX7_slotNow 89 = .ok (.invokevirtual 210, 3) := by decide +kernel
theorem dX7_slotNow_92 : decode cX7_slotNow 92 = .ok (.ireturn, 1) := by decide +kernel
theorem dX7_slot_0 : decode cX7_slot 0 = .ok (.aload_n 0, 1) := by decide +kernel
theorem dX7_slot_1 : decode cX7_slot 1 = .ok (.iload_n 1, 1) := by decide +kernel
theorem dX7_slot_2 : decode cX7_slot 2 = .ok (.iconst 0, 1) := by decide +kernel
theorem dX7_slot_3 : decode cX7_slot 3 = .ok (.bipush 59, 2) := by decide +kernel
theorem dX7_slot_5 : decode cX7_slot 5 = .ok (.invokestatic 54, 3) := by decide +kernel
theorem dX7_slot_8 : decode cX7_slot 8 = .ok (.ifCond .ne 7, 3) := by decide +kernel
theorem dX7_slot_11 : decode cX7_slot 11 = .ok (.iconst 1, 1) := by decide +kernel
theorem dX7_slot_12 : decode cX7_slot 12 = .ok (.goto 17, 3) := by decide +kernel
theorem dX7_slot_15 : decode cX7_slot 15 = .ok (.iload_n 2, 1) := by decide +kernel
theorem dX7_slot_16 : decode cX7_slot 16 = .ok (.iconst 0, 1) := by decide +kernel
theorem dX7_slot_17 : decode cX7_slot 17 = .ok (.iconst 4, 1) := by decide +kernel
theorem dX7_slot_18 : decode cX7_slot 18 = .ok (.invokestatic 54, 3) := by decide +kernel
theorem dX7_slot_21 : decode cX7_slot 21 = .ok (.ifCond .eq 7, 3) := by decide +kernel
theorem dX7_slot_24 : decode cX7_slot 24 = .ok (.iconst 0, 1) := by decide +kernel
theorem dX7_slot_25 : decode cX7_slot 25 = .ok (.goto 4, 3) := by decide +kernel
theorem dX7_slot_28 : decode cX7_slot 28 = .ok (.iconst 2, 1) := by decide +kernel
theorem dX7_slot_29 : decode cX7_slot 29 = .ok (.putfield 47, 3) := by decide +kernel
theorem dX7_slot_32 : decode cX7_slot 32 = .ok (.aload_n 0, 1) := by decide +kernel
theorem dX7_slot_33 : decode cX7_slot 33 = .ok (.getfield 47, 3) := by decide +kernel
theorem dX7_slot_36 : decode cX7_slot 36 = .ok (.ifCond .le 7, 3) := by decide +kernel
theorem dX7_slot_39 : decode cX7_slot 39 = .ok (.iconst 0, 1) := by decide +kernel
theorem dX7_slot_40 : decode cX7_slot 40 = .ok (.goto 9, 3) := by decide +kernel
theorem dX7_slot_43 : decode cX7_slot 43 = .ok (.aload_n 0, 1) := by decide +kernel
theorem dX7_slot_44 : decode cX7_slot 44 = .ok (.iload_n 1, 1) := by decide +kernel
theorem dX7_slot_45 : decode cX7_slot 45 = .ok (.iload_n 2, 1) := by decide +kernel
theorem dX7_slot_46 : decode cX7_slot 46 = .ok (.invokevirtual 224, 3) := by decide +kernel
theorem dX7_slot_49 : decode cX7_slot 49 = .ok (.ireturn, 1) := by decide +kernel
theorem dX7_unlikePieces_0 : decode cX7_unlikePieces 0 = .ok (.iconst 0, 1) := by decide +kernel
theorem dX7_unlikePieces_1 : decode cX7_unlikePieces 1 = .ok (.istore_n 2, 1) := by decide +kernel
theorem dX7_unlikePieces_2 : decode cX7_unlikePieces 2 = .ok (.iconst 0, 1) := by decide +kernel
theorem dX7_unlikePieces_3 : decode cX7_unlikePieces 3 = .ok (.istore_n 3, 1) := by decide +kernel
theorem dX7_unlikePieces_4 : decode cX7_unlikePieces 4 = .ok (.iload_n 3, 1) := by decide +kernel
theorem dX7_unlikePieces_5 : decode cX7_unlikePieces 5 = .ok (.bipush 60, 2) := by decide +kernel
theorem dX7_unlikePieces_7 : decode cX7_unlikePieces 7 = .ok (.if_icmp .ge 34, 3) := by decide +kernel
theorem dX7_unlikePieces_10 : decode cX7_unlikePieces 10 = .ok (.iload_n 2, 1) := by decide +kernel
theorem dX7_unlikePieces_11 : decode cX7_unlikePieces 11 = .ok (.aload_n 0, 1) := by decide +kernel
theorem dX7_unlikePieces_12 : decode cX7_unlikePieces 12 = .ok (.iload_n 3, 1) := by decide +kernel
theorem dX7_unlikePieces_13 : decode cX7_unlikePieces 13 = .ok (.invokevirtual 82, 3) := by decide +kernel
theorem dX7_unlikePieces_16 : decode cX7_unlikePieces 16 = .ok (.ifCond .eq 16, 3) := by decide +kernel
theorem dX7_unlikePieces_19 : decode cX7_unlikePieces 19 = .ok (.aload_n 0, 1) := by decide +kernel
theorem dX7_unlikePieces_20 : decode cX7_unlikePieces 20 = .ok (.iload_n 1, 1) := by decide +kernel
theorem dX7_unlikePieces_21 : decode cX7_unlikePieces 21 = .ok (.iload_n 3, 1) := by decide +kernel
theorem dX7_unlikePieces_22 : decode cX7_unlikePieces 22 = .ok (.invokevirtual 201, 3) := by decide +kernel
theorem dX7_unlikePieces_25 : decode cX7_unlikePieces 25 = .ok (.ifCond .eq 7, 3) := by decide +kernel
theorem dX7_unlikePieces_28 : decode cX7_unlikePieces 28 = .ok (.iconst 1, 1) := by decide +kernel
theorem dX7_unlikePieces_29 : decode cX7_unlikePieces 29 = .ok (.goto 4, 3) := by decide +kernel
theorem dX7_unlikePieces_32 : decode cX7_unlikePieces 32 = .ok (.iconst 0, 1) := by decide +kernel
theorem dX7_unlikePieces_33 : decode cX7_unlikePieces 33 = .ok (.iadd, 1) := by decide +kernel
theorem dX7_unlikePieces_34 : decode cX7_unlikePieces 34 = .ok (.istore_n 2, 1) := by decide +kernel
theorem dX7_unlikePieces_35 : decode cX7_unlikePieces 35 = .ok (.iinc 3 1, 3) := by decide +kernel
theorem dX7_unlikePieces_38 : decode cX7_unlikePieces 38 = .ok (.goto (-34), 3) := by decide +kernel
theorem dX7_unlikePieces_41 : decode cX7_unlikePieces 41 = .ok (.iload_n 2, 1) := by decide +kernel
theorem dX7_unlikePieces_42 : decode cX7_unlikePieces 42 = .ok (.ireturn, 1) := by decide +kernel
theorem dX7_forcedPieces_0 : decode cX7_forcedPieces 0 = .ok (.iconst 0, 1) := by decide +kernel
theorem dX7_forcedPieces_1 : decode cX7_forcedPieces 1 = .ok (.istore_n 2, 1) := by decide +kernel
theorem dX7_forcedPieces_2 : decode cX7_forcedPieces 2 = .ok (.iconst 0, 1) := by decide +kernel
theorem dX7_forcedPieces_3 : decode cX7_forcedPieces 3 = .ok (.istore_n 3, 1) := by decide +kernel
theorem dX7_forcedPieces_4 : decode cX7_forcedPieces 4 = .ok (.iload_n 3, 1) := by decide +kernel
theorem dX7_forcedPieces_5 : decode cX7_forcedPieces 5 = .ok (.aload_n 0, 1) := by decide +kernel
theorem dX7_forcedPieces_6 : decode cX7_forcedPieces 6 = .ok (.iload_n 1, 1) := by decide +kernel
theorem dX7_forcedPieces_7 : decode cX7_forcedPieces 7 = .ok (.invokevirtual 58, 3) := by decide +kernel
theorem dX7_forcedPieces_10 : decode cX7_forcedPieces 10 = .ok (.if_icmp .ge 27, 3) := by decide +kernel
theorem dX7_forcedPieces_13 : decode cX7_forcedPieces 13 = .ok (.iload_n 2, 1) := by decide +kernel
theorem dX7_forcedPieces_14 : decode cX7_forcedPieces 14 = .ok (.aload_n 0, 1) := by decide +kernel
theorem dX7_forcedPieces_15 : decode cX7_forcedPieces 15 = .ok (.iload_n 1, 1) := by decide +kernel
theorem dX7_forcedPieces_16 : decode cX7_forcedPieces 16 = .ok (.iload_n 3, 1) := by decide +kernel
theorem dX7_forcedPieces_17 : decode cX7_forcedPieces 17 = .ok (.invokevirtual 92, 3) := by decide +kernel
theorem dX7_forcedPieces_20 : decode cX7_forcedPieces 20 = .ok (.iconst 2, 1) := by decide +kernel
theorem dX7_forcedPieces_21 : decode cX7_forcedPieces 21 = .ok (.if_icmp .ne 7, 3) := by decide +kernel
theorem dX7_forcedPieces_24 : decode cX7_forcedPieces 24 = .ok (.iconst 1, 1) := by decide +kernel
theorem dX7_forcedPieces_25 : decode cX7_forcedPieces 25 = .ok (.goto 4, 3) := by decide +kernel
theorem dX7_forcedPieces_28 : decode cX7_forcedPieces 28 = .ok (.iconst 0, 1) := by decide +kernel
theorem dX7_forcedPieces_29 : decode cX7_forcedPieces 29 = .ok (.iadd, 1) := by decide +kernel
theorem dX7_forcedPieces_30 : decode cX7_forcedPieces 30 = .ok (.istore_n 2, 1) := by decide +kernel
theorem dX7_forcedPieces_31 : decode cX7_forcedPieces 31 = .ok (.iinc 3 1, 3) := by decide +kernel
theorem dX7_forcedPieces_34 : decode cX7_forcedPieces 34 = .ok (.goto (-30), 3) := by decide +kernel
theorem dX7_forcedPieces_37 : decode cX7_forcedPieces 37 = .ok (.iload_n 2, 1) := by decide +kernel
theorem dX7_forcedPieces_38 : decode cX7_forcedPieces 38 = .ok (.ireturn, 1) := by decide +kernel
theorem dX7_longestPiece_0 : decode cX7_longestPiece 0 = .ok (.iconst 0, 1) := by decide +kernel
theorem dX7_longestPiece_1 : decode cX7_longestPiece 1 = .ok (.istore_n 2, 1) := by decide +kernel
theorem dX7_longestPiece_2 : decode cX7_longestPiece 2 = .ok (.iconst 0, 1) := by decide +kernel
theorem dX7_longestPiece_3 : decode cX7_longestPiece 3 = .ok (.istore_n 3, 1) := by decide +kernel
theorem dX7_longestPiece_4 : decode cX7_longestPiece 4 = .ok (.iload_n 3, 1) := by decide +kernel
theorem dX7_longestPiece_5 : decode cX7_longestPiece 5 = .ok (.aload_n 0, 1) := by decide +kernel
theorem dX7_longestPiece_6 : decode cX7_longestPiece 6 = .ok (.iload_n 1, 1) := by decide +kernel
theorem dX7_longestPiece_7 : decode cX7_longestPiece 7 = .ok (.invokevirtual 58, 3) := by decide +kernel

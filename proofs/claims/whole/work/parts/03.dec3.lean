theorem dX6_unlikeLengthsWith_1 : decode cX6_unlikeLengthsWith 1 = .ok (.getfield 43, 3) := by decide +kernel
theorem dX6_unlikeLengthsWith_4 : decode cX6_unlikeLengthsWith 4 = .ok (.aload_n 0, 1) := by decide +kernel
theorem dX6_unlikeLengthsWith_5 : decode cX6_unlikeLengthsWith 5 = .ok (.getfield 10, 3) := by decide +kernel
theorem dX6_unlikeLengthsWith_8 : decode cX6_unlikeLengthsWith 8 = .ok (.getfield 134, 3) := by decide +kernel
theorem dX6_unlikeLengthsWith_11 : decode cX6_unlikeLengthsWith 11 = .ok (.invokevirtual 282, 3) := by decide +kernel
theorem dX6_unlikeLengthsWith_14 : decode cX6_unlikeLengthsWith 14 = .ok (.aload_n 0, 1) := by decide +kernel
theorem dX6_unlikeLengthsWith_15 : decode cX6_unlikeLengthsWith 15 = .ok (.getfield 43, 3) := by decide +kernel
theorem dX6_unlikeLengthsWith_18 : decode cX6_unlikeLengthsWith 18 = .ok (.getfield 137, 3) := by decide +kernel
theorem dX6_unlikeLengthsWith_21 : decode cX6_unlikeLengthsWith 21 = .ok (.iconst 1, 1) := by decide +kernel
theorem dX6_unlikeLengthsWith_22 : decode cX6_unlikeLengthsWith 22 = .ok (.iload_n 1, 1) := by decide +kernel
theorem dX6_unlikeLengthsWith_23 : decode cX6_unlikeLengthsWith 23 = .ok (.iastore, 1) := by decide +kernel
theorem dX6_unlikeLengthsWith_24 : decode cX6_unlikeLengthsWith 24 = .ok (.iconst 0, 1) := by decide +kernel
theorem dX6_unlikeLengthsWith_25 : decode cX6_unlikeLengthsWith 25 = .ok (.istore_n 2, 1) := by decide +kernel
theorem dX6_unlikeLengthsWith_26 : decode cX6_unlikeLengthsWith 26 = .ok (.iconst 0, 1) := by decide +kernel
theorem dX6_unlikeLengthsWith_27 : decode cX6_unlikeLengthsWith 27 = .ok (.istore_n 3, 1) := by decide +kernel
theorem dX6_unlikeLengthsWith_28 : decode cX6_unlikeLengthsWith 28 = .ok (.iconst 0, 1) := by decide +kernel
theorem dX6_unlikeLengthsWith_29 : decode cX6_unlikeLengthsWith 29 = .ok (.istore 4, 2) := by decide +kernel
theorem dX6_unlikeLengthsWith_31 : decode cX6_unlikeLengthsWith 31 = .ok (.iload 4, 2) := by decide +kernel
theorem dX6_unlikeLengthsWith_33 : decode cX6_unlikeLengthsWith 33 = .ok (.iconst 4, 1) := by decide +kernel
theorem dX6_unlikeLengthsWith_34 : decode cX6_unlikeLengthsWith 34 = .ok (.if_icmp .ge 113, 3) := by decide +kernel
theorem dX6_unlikeLengthsWith_37 : decode cX6_unlikeLengthsWith 37 = .ok (.aload_n 0, 1) := by decide +kernel
theorem dX6_unlikeLengthsWith_38 : decode cX6_unlikeLengthsWith 38 = .ok (.getfield 36, 3) := by decide +kernel
theorem dX6_unlikeLengthsWith_41 : decode cX6_unlikeLengthsWith 41 = .ok (.aload_n 0, 1) := by decide +kernel
theorem dX6_unlikeLengthsWith_42 : decode cX6_unlikeLengthsWith 42 = .ok (.getfield 10, 3) := by decide +kernel
theorem dX6_unlikeLengthsWith_45 : decode cX6_unlikeLengthsWith 45 = .ok (.getfield 70, 3) := by decide +kernel
theorem dX6_unlikeLengthsWith_48 : decode cX6_unlikeLengthsWith 48 = .ok (.iload 4, 2) := by decide +kernel
theorem dX6_unlikeLengthsWith_50 : decode cX6_unlikeLengthsWith 50 = .ok (.aaload, 1) := by decide +kernel
theorem dX6_unlikeLengthsWith_51 : decode cX6_unlikeLengthsWith 51 = .ok (.invokevirtual 107, 3) := by decide +kernel
theorem dX6_unlikeLengthsWith_54 : decode cX6_unlikeLengthsWith 54 = .ok (.aload_n 0, 1) := by decide +kernel
theorem dX6_unlikeLengthsWith_55 : decode cX6_unlikeLengthsWith 55 = .ok (.getfield 36, 3) := by decide +kernel
theorem dX6_unlikeLengthsWith_58 : decode cX6_unlikeLengthsWith 58 = .ok (.aload_n 0, 1) := by decide +kernel
theorem dX6_unlikeLengthsWith_59 : decode cX6_unlikeLengthsWith 59 = .ok (.getfield 43, 3) := by decide +kernel
theorem dX6_unlikeLengthsWith_62 : decode cX6_unlikeLengthsWith 62 = .ok (.invokevirtual 268, 3) := by decide +kernel
theorem dX6_unlikeLengthsWith_65 : decode cX6_unlikeLengthsWith 65 = .ok (.iconst 0, 1) := by decide +kernel
theorem dX6_unlikeLengthsWith_66 : decode cX6_unlikeLengthsWith 66 = .ok (.istore 5, 2) := by decide +kernel
theorem dX6_unlikeLengthsWith_68 : decode cX6_unlikeLengthsWith 68 = .ok (.iload 5, 2) := by decide +kernel
theorem dX6_unlikeLengthsWith_70 : decode cX6_unlikeLengthsWith 70 = .ok (.aload_n 0, 1) := by decide +kernel
theorem dX6_unlikeLengthsWith_71 : decode cX6_unlikeLengthsWith 71 = .ok (.getfield 36, 3) := by decide +kernel
theorem dX6_unlikeLengthsWith_74 : decode cX6_unlikeLengthsWith 74 = .ok (.getfield 178, 3) := by decide +kernel
theorem dX6_unlikeLengthsWith_77 : decode cX6_unlikeLengthsWith 77 = .ok (.if_icmp .ge 64, 3) := by decide +kernel
theorem dX6_unlikeLengthsWith_80 : decode cX6_unlikeLengthsWith 80 = .ok (.aload_n 0, 1) := by decide +kernel
theorem dX6_unlikeLengthsWith_81 : decode cX6_unlikeLengthsWith 81 = .ok (.getfield 36, 3) := by decide +kernel
theorem dX6_unlikeLengthsWith_84 : decode cX6_unlikeLengthsWith 84 = .ok (.getfield 181, 3) := by decide +kernel
theorem dX6_unlikeLengthsWith_87 : decode cX6_unlikeLengthsWith 87 = .ok (.iload 5, 2) := by decide +kernel
theorem dX6_unlikeLengthsWith_89 : decode cX6_unlikeLengthsWith 89 = .ok (.laload, 1) := by decide +kernel
theorem dX6_unlikeLengthsWith_90 : decode cX6_unlikeLengthsWith 90 = .ok (.lstore 6, 2) := by decide +kernel
theorem dX6_unlikeLengthsWith_92 : decode cX6_unlikeLengthsWith 92 = .ok (.iload_n 2, 1) := by decide +kernel
theorem dX6_unlikeLengthsWith_93 : decode cX6_unlikeLengthsWith 93 = .ok (.aload_n 0, 1) := by decide +kernel
theorem dX6_unlikeLengthsWith_94 : decode cX6_unlikeLengthsWith 94 = .ok (.getfield 47, 3) := by decide +kernel
theorem dX6_unlikeLengthsWith_97 : decode cX6_unlikeLengthsWith 97 = .ok (.arraylength, 1) := by decide +kernel
theorem dX6_unlikeLengthsWith_98 : decode cX6_unlikeLengthsWith 98 = .ok (.if_icmp .ge 37, 3) := by decide +kernel
theorem dX6_unlikeLengthsWith_101 : decode cX6_unlikeLengthsWith 101 = .ok (.aload_n 0, 1) := by decide +kernel
theorem dX6_unlikeLengthsWith_102 : decode cX6_unlikeLengthsWith 102 = .ok (.lload 6, 2) := by decide +kernel
theorem dX6_unlikeLengthsWith_104 : decode cX6_unlikeLengthsWith 104 = .ok (.iload_n 2, 1) := by decide +kernel
theorem dX6_unlikeLengthsWith_105 : decode cX6_unlikeLengthsWith 105 = .ok (.invokevirtual 341, 3) := by decide +kernel
theorem dX6_unlikeLengthsWith_108 : decode cX6_unlikeLengthsWith 108 = .ok (.ifCond .ne 27, 3) := by decide +kernel
theorem dX6_unlikeLengthsWith_111 : decode cX6_unlikeLengthsWith 111 = .ok (.aload_n 0, 1) := by decide +kernel
theorem dX6_unlikeLengthsWith_112 : decode cX6_unlikeLengthsWith 112 = .ok (.getfield 47, 3) := by decide +kernel
theorem dX6_unlikeLengthsWith_115 : decode cX6_unlikeLengthsWith 115 = .ok (.iload_n 2, 1) := by decide +kernel
theorem dX6_unlikeLengthsWith_116 : decode cX6_unlikeLengthsWith 116 = .ok (.lload 6, 2) := by decide +kernel
theorem dX6_unlikeLengthsWith_118 : decode cX6_unlikeLengthsWith 118 = .ok (.lastore, 1) := by decide +kernel
theorem dX6_unlikeLengthsWith_119 : decode cX6_unlikeLengthsWith 119 = .ok (.iinc 2 1, 3) := by decide +kernel
theorem dX6_unlikeLengthsWith_122 : decode cX6_unlikeLengthsWith 122 = .ok (.iload_n 3, 1) := by decide +kernel
theorem dX6_unlikeLengthsWith_123 : decode cX6_unlikeLengthsWith 123 = .ok (.aload_n 0, 1) := by decide +kernel
theorem dX6_unlikeLengthsWith_124 : decode cX6_unlikeLengthsWith 124 = .ok (.getfield 36, 3) := by decide +kernel
theorem dX6_unlikeLengthsWith_127 : decode cX6_unlikeLengthsWith 127 = .ok (.getfield 191, 3) := by decide +kernel
theorem dX6_unlikeLengthsWith_130 : decode cX6_unlikeLengthsWith 130 = .ok (.iload 5, 2) := by decide +kernel
theorem dX6_unlikeLengthsWith_132 : decode cX6_unlikeLengthsWith 132 = .ok (.iaload, 1) := by decide +kernel
theorem dX6_unlikeLengthsWith_133 : decode cX6_unlikeLengthsWith 133 = .ok (.iadd, 1) := by decide +kernel
theorem dX6_unlikeLengthsWith_134 : decode cX6_unlikeLengthsWith 134 = .ok (.istore_n 3, 1) := by decide +kernel
theorem dX6_unlikeLengthsWith_135 : decode cX6_unlikeLengthsWith 135 = .ok (.iinc 5 1, 3) := by decide +kernel
theorem dX6_unlikeLengthsWith_138 : decode cX6_unlikeLengthsWith 138 = .ok (.goto (-70), 3) := by decide +kernel
theorem dX6_unlikeLengthsWith_141 : decode cX6_unlikeLengthsWith 141 = .ok (.iinc 4 1, 3) := by decide +kernel
theorem dX6_unlikeLengthsWith_144 : decode cX6_unlikeLengthsWith 144 = .ok (.goto (-113), 3) := by decide +kernel
theorem dX6_unlikeLengthsWith_147 : decode cX6_unlikeLengthsWith 147 = .ok (.iload_n 3, 1) := by decide +kernel
theorem dX6_unlikeLengthsWith_148 : decode cX6_unlikeLengthsWith 148 = .ok (.ireturn, 1) := by decide +kernel
theorem dX6_hasSeen_0 : decode cX6_hasSeen 0 = .ok (.iconst 0, 1) := by decide +kernel
theorem dX6_hasSeen_1 : decode cX6_hasSeen 1 = .ok (.istore 4, 2) := by decide +kernel
theorem dX6_hasSeen_3 : decode cX6_hasSeen 3 = .ok (.iload 4, 2) := by decide +kernel
theorem dX6_hasSeen_5 : decode cX6_hasSeen 5 = .ok (.iload_n 3, 1) := by decide +kernel
theorem dX6_hasSeen_6 : decode cX6_hasSeen 6 = .ok (.if_icmp .ge 23, 3) := by decide +kernel
theorem dX6_hasSeen_9 : decode cX6_hasSeen 9 = .ok (.aload_n 0, 1) := by decide +kernel
theorem dX6_hasSeen_10 : decode cX6_hasSeen 10 = .ok (.getfield 47, 3) := by decide +kernel
theorem dX6_hasSeen_13 : decode cX6_hasSeen 13 = .ok (.iload 4, 2) := by decide +kernel
theorem dX6_hasSeen_15 : decode cX6_hasSeen 15 = .ok (.laload, 1) := by decide +kernel
theorem dX6_hasSeen_16 : decode cX6_hasSeen 16 = .ok (.lload_n 1, 1) := by decide +kernel
theorem dX6_hasSeen_17 : decode cX6_hasSeen 17 = .ok (.lcmp, 1) := by decide +kernel
theorem dX6_hasSeen_18 : decode cX6_hasSeen 18 = .ok (.ifCond .ne 5, 3) := by decide +kernel
theorem dX6_hasSeen_21 : decode cX6_hasSeen 21 = .ok (.iconst 1, 1) := by decide +kernel
theorem dX6_hasSeen_22 : decode cX6_hasSeen 22 = .ok (.ireturn, 1) := by decide +kernel
theorem dX6_hasSeen_23 : decode cX6_hasSeen 23 = .ok (.iinc 4 1, 3) := by decide +kernel
theorem dX6_hasSeen_26 : decode cX6_hasSeen 26 = .ok (.goto (-23), 3) := by decide +kernel
theorem dX6_hasSeen_29 : decode cX6_hasSeen 29 = .ok (.iconst 0, 1) := by decide +kernel
theorem dX6_hasSeen_30 : decode cX6_hasSeen 30 = .ok (.ireturn, 1) := by decide +kernel
theorem dX6_mix_0 : decode cX6_mix 0 = .ok (.ldc2_w 345, 3) := by decide +kernel
theorem dX6_mix_3 : decode cX6_mix 3 = .ok (.lload_n 0, 1) := by decide +kernel
theorem dX6_mix_4 : decode cX6_mix 4 = .ok (.lmul, 1) := by decide +kernel
theorem dX6_mix_5 : decode cX6_mix 5 = .ok (.lload_n 2, 1) := by decide +kernel
theorem dX6_mix_6 : decode cX6_mix 6 = .ok (.ladd, 1) := by decide +kernel
theorem dX6_mix_7 : decode cX6_mix 7 = .ok (.lreturn, 1) := by decide +kernel
theorem dX6_mixText_0 : decode cX6_mixText 0 = .ok (.lload_n 1, 1) := by decide +kernel
theorem dX6_mixText_1 : decode cX6_mixText 1 = .ok (.lstore 4, 2) := by decide +kernel
theorem dX6_mixText_3 : decode cX6_mixText 3 = .ok (.iconst 0, 1) := by decide +kernel
theorem dX6_mixText_4 : decode cX6_mixText 4 = .ok (.istore 6, 2) := by decide +kernel
theorem dX6_mixText_6 : decode cX6_mixText 6 = .ok (.iload 6, 2) := by decide +kernel
theorem dX6_mixText_8 : decode cX6_mixText 8 = .ok (.iconst 5, 1) := by decide +kernel
theorem dX6_mixText_9 : decode cX6_mixText 9 = .ok (.if_icmp .gt 24, 3) := by decide +kernel
theorem dX6_mixText_12 : decode cX6_mixText 12 = .ok (.lload 4, 2) := by decide +kernel
theorem dX6_mixText_14 : decode cX6_mixText 14 = .ok (.aload_n 0, 1) := by decide +kernel
theorem dX6_mixText_15 : decode cX6_mixText 15 = .ok (.iload_n 3, 1) := by decide +kernel
theorem dX6_mixText_16 : decode cX6_mixText 16 = .ok (.iload 6, 2) := by decide +kernel
theorem dX6_mixText_18 : decode cX6_mixText 18 = .ok (.invokevirtual 347, 3) := by decide +kernel
theorem dX6_mixText_21 : decode cX6_mixText 21 = .ok (.i2l, 1) := by decide +kernel
theorem dX6_mixText_22 : decode cX6_mixText 22 = .ok (.invokestatic 293, 3) := by decide +kernel
theorem dX6_mixText_25 : decode cX6_mixText 25 = .ok (.lstore 4, 2) := by decide +kernel
theorem dX6_mixText_27 : decode cX6_mixText 27 = .ok (.iinc 6 1, 3) := by decide +kernel
theorem dX6_mixText_30 : decode cX6_mixText 30 = .ok (.goto (-24), 3) := by decide +kernel
theorem dX6_mixText_33 : decode cX6_mixText 33 = .ok (.aload_n 0, 1) := by decide +kernel
theorem dX6_mixText_34 : decode cX6_mixText 34 = .ok (.lload 4, 2) := by decide +kernel
theorem dX6_mixText_36 : decode cX6_mixText 36 = .ok (.iload_n 3, 1) := by decide +kernel
theorem dX6_mixText_37 : decode cX6_mixText 37 = .ok (.invokevirtual 351, 3) := by decide +kernel
theorem dX6_mixText_40 : decode cX6_mixText 40 = .ok (.lstore 4, 2) := by decide +kernel
theorem dX6_mixText_42 : decode cX6_mixText 42 = .ok (.aload_n 0, 1) := by decide +kernel
theorem dX6_mixText_43 : decode cX6_mixText 43 = .ok (.lload 4, 2) := by decide +kernel
theorem dX6_mixText_45 : decode cX6_mixText 45 = .ok (.iload_n 3, 1) := by decide +kernel
theorem dX6_mixText_46 : decode cX6_mixText 46 = .ok (.invokevirtual 354, 3) := by decide +kernel
theorem dX6_mixText_49 : decode cX6_mixText 49 = .ok (.lstore 4, 2) := by decide +kernel
theorem dX6_mixText_51 : decode cX6_mixText 51 = .ok (.iconst 0, 1) := by decide +kernel
theorem dX6_mixText_52 : decode cX6_mixText 52 = .ok (.istore 6, 2) := by decide +kernel
theorem dX6_mixText_54 : decode cX6_mixText 54 = .ok (.iload 6, 2) := by decide +kernel
theorem dX6_mixText_56 : decode cX6_mixText 56 = .ok (.iconst 2, 1) := by decide +kernel
theorem dX6_mixText_57 : decode cX6_mixText 57 = .ok (.if_icmp .gt 25, 3) := by decide +kernel
theorem dX6_mixText_60 : decode cX6_mixText 60 = .ok (.lload 4, 2) := by decide +kernel
theorem dX6_mixText_62 : decode cX6_mixText 62 = .ok (.aload_n 0, 1) := by decide +kernel
theorem dX6_mixText_63 : decode cX6_mixText 63 = .ok (.iload_n 3, 1) := by decide +kernel
theorem dX6_mixText_64 : decode cX6_mixText 64 = .ok (.iconst 0, 1) := by decide +kernel
theorem dX6_mixText_65 : decode cX6_mixText 65 = .ok (.iload 6, 2) := by decide +kernel
theorem dX6_mixText_67 : decode cX6_mixText 67 = .ok (.invokevirtual 357, 3) := by decide +kernel
theorem dX6_mixText_70 : decode cX6_mixText 70 = .ok (.i2l, 1) := by decide +kernel
theorem dX6_mixText_71 : decode cX6_mixText 71 = .ok (.invokestatic 293, 3) := by decide +kernel
theorem dX6_mixText_74 : decode cX6_mixText 74 = .ok (.lstore 4, 2) := by decide +kernel
theorem dX6_mixText_76 : decode cX6_mixText 76 = .ok (.iinc 6 1, 3) := by decide +kernel
theorem dX6_mixText_79 : decode cX6_mixText 79 = .ok (.goto (-25), 3) := by decide +kernel
theorem dX6_mixText_82 : decode cX6_mixText 82 = .ok (.iconst 0, 1) := by decide +kernel
theorem dX6_mixText_83 : decode cX6_mixText 83 = .ok (.istore 6, 2) := by decide +kernel
theorem dX6_mixText_85 : decode cX6_mixText 85 = .ok (.iload 6, 2) := by decide +kernel
theorem dX6_mixText_87 : decode cX6_mixText 87 = .ok (.iconst 3, 1) := by decide +kernel
theorem dX6_mixText_88 : decode cX6_mixText 88 = .ok (.if_icmp .gt 24, 3) := by decide +kernel
theorem dX6_mixText_91 : decode cX6_mixText 91 = .ok (.lload 4, 2) := by decide +kernel
theorem dX6_mixText_93 : decode cX6_mixText 93 = .ok (.aload_n 0, 1) := by decide +kernel
theorem dX6_mixText_94 : decode cX6_mixText 94 = .ok (.iload_n 3, 1) := by decide +kernel
theorem dX6_mixText_95 : decode cX6_mixText 95 = .ok (.iload 6, 2) := by decide +kernel
theorem dX6_mixText_97 : decode cX6_mixText 97 = .ok (.invokevirtual 361, 3) := by decide +kernel
theorem dX6_mixText_100 : decode cX6_mixText 100 = .ok (.i2l, 1) := by decide +kernel
theorem dX6_mixText_101 : decode cX6_mixText 101 = .ok (.invokestatic 293, 3) := by decide +kernel
theorem dX6_mixText_104 : decode cX6_mixText 104 = .ok (.lstore 4, 2) := by decide +kernel
theorem dX6_mixText_106 : decode cX6_mixText 106 = .ok (.iinc 6 1, 3) := by decide +kernel
theorem dX6_mixText_109 : decode cX6_mixText 109 = .ok (.goto (-24), 3) := by decide +kernel
theorem dX6_mixText_112 : decode cX6_mixText 112 = .ok (.lload 4, 2) := by decide +kernel
theorem dX6_mixText_114 : decode cX6_mixText 114 = .ok (.aload_n 0, 1) := by decide +kernel
theorem dX6_mixText_115 : decode cX6_mixText 115 = .ok (.iload_n 3, 1) := by decide +kernel
theorem dX6_mixText_116 : decode cX6_mixText 116 = .ok (.iconst 1, 1) := by decide +kernel
theorem dX6_mixText_117 : decode cX6_mixText 117 = .ok (.iconst 2, 1) := by decide +kernel
theorem dX6_mixText_118 : decode cX6_mixText 118 = .ok (.invokevirtual 364, 3) := by decide +kernel
theorem dX6_mixText_121 : decode cX6_mixText 121 = .ok (.i2l, 1) := by decide +kernel
theorem dX6_mixText_122 : decode cX6_mixText 122 = .ok (.invokestatic 293, 3) := by decide +kernel
theorem dX6_mixText_125 : decode cX6_mixText 125 = .ok (.lreturn, 1) := by decide +kernel
theorem dX6_mixSigns_0 : decode cX6_mixSigns 0 = .ok (.lload_n 1, 1) := by decide +kernel
theorem dX6_mixSigns_1 : decode cX6_mixSigns 1 = .ok (.lstore 4, 2) := by decide +kernel
theorem dX6_mixSigns_3 : decode cX6_mixSigns 3 = .ok (.aload_n 0, 1) := by decide +kernel
theorem dX6_mixSigns_4 : decode cX6_mixSigns 4 = .ok (.getfield 10, 3) := by decide +kernel
theorem dX6_mixSigns_7 : decode cX6_mixSigns 7 = .ok (.getfield 70, 3) := by decide +kernel
theorem dX6_mixSigns_10 : decode cX6_mixSigns 10 = .ok (.iload_n 3, 1) := by decide +kernel
theorem dX6_mixSigns_11 : decode cX6_mixSigns 11 = .ok (.aaload, 1) := by decide +kernel
theorem dX6_mixSigns_12 : decode cX6_mixSigns 12 = .ok (.getfield 74, 3) := by decide +kernel
theorem dX6_mixSigns_15 : decode cX6_mixSigns 15 = .ok (.istore 6, 2) := by decide +kernel
theorem dX6_mixSigns_17 : decode cX6_mixSigns 17 = .ok (.iconst 0, 1) := by decide +kernel
theorem dX6_mixSigns_18 : decode cX6_mixSigns 18 = .ok (.istore 7, 2) := by decide +kernel
theorem dX6_mixSigns_20 : decode cX6_mixSigns 20 = .ok (.iload 7, 2) := by decide +kernel
theorem dX6_mixSigns_22 : decode cX6_mixSigns 22 = .ok (.iload 6, 2) := by decide +kernel
theorem dX6_mixSigns_24 : decode cX6_mixSigns 24 = .ok (.if_icmp .ge 41, 3) := by decide +kernel
theorem dX6_mixSigns_27 : decode cX6_mixSigns 27 = .ok (.iconst 0, 1) := by decide +kernel
theorem dX6_mixSigns_28 : decode cX6_mixSigns 28 = .ok (.istore 8, 2) := by decide +kernel
theorem dX6_mixSigns_30 : decode cX6_mixSigns 30 = .ok (.iload 8, 2) := by decide +kernel
theorem dX6_mixSigns_32 : decode cX6_mixSigns 32 = .ok (.iconst 3, 1) := by decide +kernel
theorem dX6_mixSigns_33 : decode cX6_mixSigns 33 = .ok (.if_icmp .gt 26, 3) := by decide +kernel
theorem dX6_mixSigns_36 : decode cX6_mixSigns 36 = .ok (.lload 4, 2) := by decide +kernel
theorem dX6_mixSigns_38 : decode cX6_mixSigns 38 = .ok (.aload_n 0, 1) := by decide +kernel
theorem dX6_mixSigns_39 : decode cX6_mixSigns 39 = .ok (.iload_n 3, 1) := by decide +kernel
theorem dX6_mixSigns_40 : decode cX6_mixSigns 40 = .ok (.iload 7, 2) := by decide +kernel
theorem dX6_mixSigns_42 : decode cX6_mixSigns 42 = .ok (.iload 8, 2) := by decide +kernel
theorem dX6_mixSigns_44 : decode cX6_mixSigns 44 = .ok (.invokevirtual 367, 3) := by decide +kernel
theorem dX6_mixSigns_47 : decode cX6_mixSigns 47 = .ok (.i2l, 1) := by decide +kernel
theorem dX6_mixSigns_48 : decode cX6_mixSigns 48 = .ok (.invokestatic 293, 3) := by decide +kernel
theorem dX6_mixSigns_51 : decode cX6_mixSigns 51 = .ok (.lstore 4, 2) := by decide +kernel
theorem dX6_mixSigns_53 : decode cX6_mixSigns 53 = .ok (.iinc 8 1, 3) := by decide +kernel
theorem dX6_mixSigns_56 : decode cX6_mixSigns 56 = .ok (.goto (-26), 3) := by decide +kernel
theorem dX6_mixSigns_59 : decode cX6_mixSigns 59 = .ok (.iinc 7 1, 3) := by decide +kernel
theorem dX6_mixSigns_62 : decode cX6_mixSigns 62 = .ok (.goto (-42), 3) := by decide +kernel
theorem dX6_mixSigns_65 : decode cX6_mixSigns 65 = .ok (.lload 4, 2) := by decide +kernel
theorem dX6_mixSigns_67 : decode cX6_mixSigns 67 = .ok (.lreturn, 1) := by decide +kernel
theorem dX6_mixPieces_0 : decode cX6_mixPieces 0 = .ok (.lload_n 1, 1) := by decide +kernel
theorem dX6_mixPieces_1 : decode cX6_mixPieces 1 = .ok (.lstore 4, 2) := by decide +kernel
theorem dX6_mixPieces_3 : decode cX6_mixPieces 3 = .ok (.aload_n 0, 1) := by decide +kernel
theorem dX6_mixPieces_4 : decode cX6_mixPieces 4 = .ok (.getfield 10, 3) := by decide +kernel
theorem dX6_mixPieces_7 : decode cX6_mixPieces 7 = .ok (.getfield 70, 3) := by decide +kernel
theorem dX6_mixPieces_10 : decode cX6_mixPieces 10 = .ok (.iload_n 3, 1) := by decide +kernel
theorem dX6_mixPieces_11 : decode cX6_mixPieces 11 = .ok (.aaload, 1) := by decide +kernel
theorem dX6_mixPieces_12 : decode cX6_mixPieces 12 = .ok (.getfield 178, 3) := by decide +kernel
theorem dX6_mixPieces_15 : decode cX6_mixPieces 15 = .ok (.istore 6, 2) := by decide +kernel
theorem dX6_mixPieces_17 : decode cX6_mixPieces 17 = .ok (.iconst 0, 1) := by decide +kernel
theorem dX6_mixPieces_18 : decode cX6_mixPieces 18 = .ok (.istore 7, 2) := by decide +kernel
theorem dX6_mixPieces_20 : decode cX6_mixPieces 20 = .ok (.iload 7, 2) := by decide +kernel
theorem dX6_mixPieces_22 : decode cX6_mixPieces 22 = .ok (.iload 6, 2) := by decide +kernel
theorem dX6_mixPieces_24 : decode cX6_mixPieces 24 = .ok (.if_icmp .ge 41, 3) := by decide +kernel
theorem dX6_mixPieces_27 : decode cX6_mixPieces 27 = .ok (.iconst 0, 1) := by decide +kernel
theorem dX6_mixPieces_28 : decode cX6_mixPieces 28 = .ok (.istore 8, 2) := by decide +kernel
theorem dX6_mixPieces_30 : decode cX6_mixPieces 30 = .ok (.iload 8, 2) := by decide +kernel
theorem dX6_mixPieces_32 : decode cX6_mixPieces 32 = .ok (.iconst 4, 1) := by decide +kernel
theorem dX6_mixPieces_33 : decode cX6_mixPieces 33 = .ok (.if_icmp .gt 26, 3) := by decide +kernel
theorem dX6_mixPieces_36 : decode cX6_mixPieces 36 = .ok (.lload 4, 2) := by decide +kernel
theorem dX6_mixPieces_38 : decode cX6_mixPieces 38 = .ok (.aload_n 0, 1) := by decide +kernel
theorem dX6_mixPieces_39 : decode cX6_mixPieces 39 = .ok (.iload_n 3, 1) := by decide +kernel
theorem dX6_mixPieces_40 : decode cX6_mixPieces 40 = .ok (.iload 7, 2) := by decide +kernel
theorem dX6_mixPieces_42 : decode cX6_mixPieces 42 = .ok (.iload 8, 2) := by decide +kernel
theorem dX6_mixPieces_44 : decode cX6_mixPieces 44 = .ok (.invokevirtual 370, 3) := by decide +kernel
theorem dX6_mixPieces_47 : decode cX6_mixPieces 47 = .ok (.i2l, 1) := by decide +kernel
theorem dX6_mixPieces_48 : decode cX6_mixPieces 48 = .ok (.invokestatic 293, 3) := by decide +kernel
theorem dX6_mixPieces_51 : decode cX6_mixPieces 51 = .ok (.lstore 4, 2) := by decide +kernel
theorem dX6_mixPieces_53 : decode cX6_mixPieces 53 = .ok (.iinc 8 1, 3) := by decide +kernel
theorem dX6_mixPieces_56 : decode cX6_mixPieces 56 = .ok (.goto (-26), 3) := by decide +kernel
theorem dX6_mixPieces_59 : decode cX6_mixPieces 59 = .ok (.iinc 7 1, 3) := by decide +kernel
theorem dX6_mixPieces_62 : decode cX6_mixPieces 62 = .ok (.goto (-42), 3) := by decide +kernel
theorem dX6_mixPieces_65 : decode cX6_mixPieces 65 = .ok (.lload 4, 2) := by decide +kernel
theorem dX6_mixPieces_67 : decode cX6_mixPieces 67 = .ok (.lreturn, 1) := by decide +kernel
theorem dX6_mixSlot_0 : decode cX6_mixSlot 0 = .ok (.aload_n 0, 1) := by decide +kernel
theorem dX6_mixSlot_1 : decode cX6_mixSlot 1 = .ok (.getfield 10, 3) := by decide +kernel
theorem dX6_mixSlot_4 : decode cX6_mixSlot 4 = .ok (.getfield 114, 3) := by decide +kernel
theorem dX6_mixSlot_7 : decode cX6_mixSlot 7 = .ok (.iload_n 3, 1) := by decide +kernel
theorem dX6_mixSlot_8 : decode cX6_mixSlot 8 = .ok (.invokevirtual 207, 3) := by decide +kernel
theorem dX6_mixSlot_11 : decode cX6_mixSlot 11 = .ok (.ifCond .eq 5, 3) := by decide +kernel
theorem dX6_mixSlot_14 : decode cX6_mixSlot 14 = .ok (.lload_n 1, 1) := by decide +kernel
theorem dX6_mixSlot_15 : decode cX6_mixSlot 15 = .ok (.lreturn, 1) := by decide +kernel
theorem dX6_mixSlot_16 : decode cX6_mixSlot 16 = .ok (.lload_n 1, 1) := by decide +kernel
theorem dX6_mixSlot_17 : decode cX6_mixSlot 17 = .ok (.iload_n 3, 1) := by decide +kernel
theorem dX6_mixSlot_18 : decode cX6_mixSlot 18 = .ok (.i2l, 1) := by decide +kernel
theorem dX6_mixSlot_19 : decode cX6_mixSlot 19 = .ok (.invokestatic 293, 3) := by decide +kernel
theorem dX6_mixSlot_22 : decode cX6_mixSlot 22 = .ok (.lstore 4, 2) := by decide +kernel
theorem dX6_mixSlot_24 : decode cX6_mixSlot 24 = .ok (.iconst 0, 1) := by decide +kernel
theorem dX6_mixSlot_25 : decode cX6_mixSlot 25 = .ok (.istore 6, 2) := by decide +kernel
theorem dX6_mixSlot_27 : decode cX6_mixSlot 27 = .ok (.iload 6, 2) := by decide +kernel
theorem dX6_mixSlot_29 : decode cX6_mixSlot 29 = .ok (.iconst 4, 1) := by decide +kernel
theorem dX6_mixSlot_30 : decode cX6_mixSlot 30 = .ok (.if_icmp .gt 24, 3) := by decide +kernel
theorem dX6_mixSlot_33 : decode cX6_mixSlot 33 = .ok (.lload 4, 2) := by decide +kernel
theorem dX6_mixSlot_35 : decode cX6_mixSlot 35 = .ok (.aload_n 0, 1) := by decide +kernel
theorem dX6_mixSlot_36 : decode cX6_mixSlot 36 = .ok (.iload_n 3, 1) := by decide +kernel
theorem dX6_mixSlot_37 : decode cX6_mixSlot 37 = .ok (.iload 6, 2) := by decide +kernel
theorem dX6_mixSlot_39 : decode cX6_mixSlot 39 = .ok (.invokevirtual 373, 3) := by decide +kernel
theorem dX6_mixSlot_42 : decode cX6_mixSlot 42 = .ok (.i2l, 1) := by decide +kernel
theorem dX6_mixSlot_43 : decode cX6_mixSlot 43 = .ok (.invokestatic 293, 3) := by decide +kernel
theorem dX6_mixSlot_46 : decode cX6_mixSlot 46 = .ok (.lstore 4, 2) := by decide +kernel
theorem dX6_mixSlot_48 : decode cX6_mixSlot 48 = .ok (.iinc 6 1, 3) := by decide +kernel
theorem dX6_mixSlot_51 : decode cX6_mixSlot 51 = .ok (.goto (-24), 3) := by decide +kernel
theorem dX6_mixSlot_54 : decode cX6_mixSlot 54 = .ok (.lload 4, 2) := by decide +kernel
theorem dX6_mixSlot_56 : decode cX6_mixSlot 56 = .ok (.lreturn, 1) := by decide +kernel
theorem dX6_bitsOfShare_0 : decode cX6_bitsOfShare 0 = .ok (.dload_n 0, 1) := by decide +kernel
theorem dX6_bitsOfShare_1 : decode cX6_bitsOfShare 1 = .ok (.dconst 0, 1) := by decide +kernel
theorem dX6_bitsOfShare_2 : decode cX6_bitsOfShare 2 = .ok (.dcmp .l, 1) := by decide +kernel
theorem dX6_bitsOfShare_3 : decode cX6_bitsOfShare 3 = .ok (.ifCond .gt 5, 3) := by decide +kernel
theorem dX6_bitsOfShare_6 : decode cX6_bitsOfShare 6 = .ok (.lconst 0, 1) := by decide +kernel
theorem dX6_bitsOfShare_7 : decode cX6_bitsOfShare 7 = .ok (.lreturn, 1) := by decide +kernel
theorem dX6_bitsOfShare_8 : decode cX6_bitsOfShare 8 = .ok (.dload_n 0, 1) := by decide +kernel
theorem dX6_bitsOfShare_9 : decode cX6_bitsOfShare 9 = .ok (.dstore_n 2, 1) := by decide +kernel
theorem dX6_bitsOfShare_10 : decode cX6_bitsOfShare 10 = .ok (.ldc2_w 376, 3) := by decide +kernel
theorem dX6_bitsOfShare_13 : decode cX6_bitsOfShare 13 = .ok (.lstore 4, 2) := by decide +kernel
theorem dX6_bitsOfShare_15 : decode cX6_bitsOfShare 15 = .ok (.dload_n 2, 1) := by decide +kernel
theorem dX6_bitsOfShare_16 : decode cX6_bitsOfShare 16 = .ok (.dconst 1, 1) := by decide +kernel
theorem dX6_bitsOfShare_17 : decode cX6_bitsOfShare 17 = .ok (.dcmp .g, 1) := by decide +kernel
theorem dX6_bitsOfShare_18 : decode cX6_bitsOfShare 18 = .ok (.ifCond .ge 25, 3) := by decide +kernel
theorem dX6_bitsOfShare_21 : decode cX6_bitsOfShare 21 = .ok (.lload 4, 2) := by decide +kernel
theorem dX6_bitsOfShare_23 : decode cX6_bitsOfShare 23 = .ok (.lconst 1, 1) := by decide +kernel
theorem dX6_bitsOfShare_24 : decode cX6_bitsOfShare 24 = .ok (.lcmp, 1) := by decide +kernel
theorem dX6_bitsOfShare_25 : decode cX6_bitsOfShare 25 = .ok (.ifCond .le 18, 3) := by decide +kernel
theorem dX6_bitsOfShare_28 : decode cX6_bitsOfShare 28 = .ok (.dload_n 2, 1) := by decide +kernel
theorem dX6_bitsOfShare_29 : decode cX6_bitsOfShare 29 = .ok (.ldc2_w 378, 3) := by decide +kernel
theorem dX6_bitsOfShare_32 : decode cX6_bitsOfShare 32 = .ok (.dmul, 1) := by decide +kernel
theorem dX6_bitsOfShare_33 : decode cX6_bitsOfShare 33 = .ok (.dstore_n 2, 1) := by decide +kernel
theorem dX6_bitsOfShare_34 : decode cX6_bitsOfShare 34 = .ok (.lload 4, 2) := by decide +kernel
theorem dX6_bitsOfShare_36 : decode cX6_bitsOfShare 36 = .ok (.lconst 1, 1) := by decide +kernel
theorem dX6_bitsOfShare_37 : decode cX6_bitsOfShare 37 = .ok (.lsub, 1) := by decide +kernel
theorem dX6_bitsOfShare_38 : decode cX6_bitsOfShare 38 = .ok (.lstore 4, 2) := by decide +kernel
theorem dX6_bitsOfShare_40 : decode cX6_bitsOfShare 40 = .ok (.goto (-25), 3) := by decide +kernel
theorem dX6_bitsOfShare_43 : decode cX6_bitsOfShare 43 = .ok (.lload 4, 2) := by decide +kernel
theorem dX6_bitsOfShare_45 : decode cX6_bitsOfShare 45 = .ok (.bipush 52, 2) := by decide +kernel
theorem dX6_bitsOfShare_47 : decode cX6_bitsOfShare 47 = .ok (.lshl, 1) := by decide +kernel
theorem dX6_bitsOfShare_48 : decode cX6_bitsOfShare 48 = .ok (.dload_n 2, 1) := by decide +kernel
theorem dX6_bitsOfShare_49 : decode cX6_bitsOfShare 49 = .ok (.dconst 1, 1) := by decide +kernel
theorem dX6_bitsOfShare_50 : decode cX6_bitsOfShare 50 = .ok (.dsub, 1) := by decide +kernel
theorem dX6_bitsOfShare_51 : decode cX6_bitsOfShare 51 = .ok (.ldc2_w 380, 3) := by decide +kernel
theorem dX6_bitsOfShare_54 : decode cX6_bitsOfShare 54 = .ok (.dmul, 1) := by decide +kernel
theorem dX6_bitsOfShare_55 : decode cX6_bitsOfShare 55 = .ok (.d2l, 1) := by decide +kernel
theorem dX6_bitsOfShare_56 : decode cX6_bitsOfShare 56 = .ok (.lor, 1) := by decide +kernel
theorem dX6_bitsOfShare_57 : decode cX6_bitsOfShare 57 = .ok (.lreturn, 1) := by decide +kernel
theorem dX7_init_0 : decode cX7_init 0 = .ok (.aload_n 0, 1) := by decide +kernel
theorem dX7_init_1 : decode cX7_init 1 = .ok (.invokespecial 1, 3) := by decide +kernel
theorem dX7_init_4 : decode cX7_init 4 = .ok (.aload_n 0, 1) := by decide +kernel
theorem dX7_init_5 : decode cX7_init 5 = .ok (.sipush 611, 3) := by decide +kernel
theorem dX7_init_8 : decode cX7_init 8 = .ok (.newarray .int, 2) := by decide +kernel
theorem dX7_init_10 : decode cX7_init 10 = .ok (.putfield 7, 3) := by decide +kernel
theorem dX7_init_13 : decode cX7_init 13 = .ok (.aload_n 0, 1) := by decide +kernel
theorem dX7_init_14 : decode cX7_init 14 = .ok (.bipush 60, 2) := by decide +kernel
theorem dX7_init_16 : decode cX7_init 16 = .ok (.newarray .long, 2) := by decide +kernel
theorem dX7_init_18 : decode cX7_init 18 = .ok (.putfield 13, 3) := by decide +kernel
theorem dX7_init_21 : decode cX7_init 21 = .ok (.aload_n 0, 1) := by decide +kernel
theorem dX7_init_22 : decode cX7_init 22 = .ok (.sipush 3666, 3) := by decide +kernel
theorem dX7_init_25 : decode cX7_init 25 = .ok (.newarray .int, 2) := by decide +kernel
theorem dX7_init_27 : decode cX7_init 27 = .ok (.putfield 17, 3) := by decide +kernel
theorem dX7_init_30 : decode cX7_init 30 = .ok (.aload_n 0, 1) := by decide +kernel
theorem dX7_init_31 : decode cX7_init 31 = .ok (.sipush 360, 3) := by decide +kernel
theorem dX7_init_34 : decode cX7_init 34 = .ok (.newarray .long, 2) := by decide +kernel
theorem dX7_init_36 : decode cX7_init 36 = .ok (.putfield 20, 3) := by decide +kernel
theorem dX7_init_39 : decode cX7_init 39 = .ok (.aload_n 0, 1) := by decide +kernel
theorem dX7_init_40 : decode cX7_init 40 = .ok (.bipush 60, 2) := by decide +kernel
theorem dX7_init_42 : decode cX7_init 42 = .ok (.newarray .int, 2) := by decide +kernel
theorem dX7_init_44 : decode cX7_init 44 = .ok (.putfield 23, 3) := by decide +kernel
theorem dX7_init_47 : decode cX7_init 47 = .ok (.aload_n 0, 1) := by decide +kernel
theorem dX7_init_48 : decode cX7_init 48 = .ok (.bipush 80, 2) := by decide +kernel
theorem dX7_init_50 : decode cX7_init 50 = .ok (.newarray .int, 2) := by decide +kernel
theorem dX7_init_52 : decode cX7_init 52 = .ok (.putfield 26, 3) := by decide +kernel
theorem dX7_init_55 : decode cX7_init 55 = .ok (.aload_n 0, 1) := by decide +kernel
theorem dX7_init_56 : decode cX7_init 56 = .ok (.bipush 40, 2) := by decide +kernel
theorem dX7_init_58 : decode cX7_init 58 = .ok (.newarray .long, 2) := by decide +kernel
theorem dX7_init_60 : decode cX7_init 60 = .ok (.putfield 29, 3) := by decide +kernel
theorem dX7_init_63 : decode cX7_init 63 = .ok (.aload_n 0, 1) := by decide +kernel
theorem dX7_init_64 : decode cX7_init 64 = .ok (.bipush 40, 2) := by decide +kernel
theorem dX7_init_66 : decode cX7_init 66 = .ok (.newarray .int, 2) := by decide +kernel
theorem dX7_init_68 : decode cX7_init 68 = .ok (.putfield 32, 3) := by decide +kernel
theorem dX7_init_71 : decode cX7_init 71 = .ok (.aload_n 0, 1) := by decide +kernel
theorem dX7_init_72 : decode cX7_init 72 = .ok (.bipush 40, 2) := by decide +kernel
theorem dX7_init_74 : decode cX7_init 74 = .ok (.newarray .int, 2) := by decide +kernel
theorem dX7_init_76 : decode cX7_init 76 = .ok (.putfield 35, 3) := by decide +kernel
theorem dX7_init_79 : decode cX7_init 79 = .ok (.aload_n 0, 1) := by decide +kernel
theorem dX7_init_80 : decode cX7_init 80 = .ok (.bipush 40, 2) := by decide +kernel
theorem dX7_init_82 : decode cX7_init 82 = .ok (.newarray .int, 2) := by decide +kernel
theorem dX7_init_84 : decode cX7_init 84 = .ok (.putfield 38, 3) := by decide +kernel
theorem dX7_init_87 : decode cX7_init 87 = .ok (.aload_n 0, 1) := by decide +kernel
theorem dX7_init_88 : decode cX7_init 88 = .ok (.sipush 160, 3) := by decide +kernel
theorem dX7_init_91 : decode cX7_init 91 = .ok (.newarray .long, 2) := by decide +kernel
theorem dX7_init_93 : decode cX7_init 93 = .ok (.putfield 41, 3) := by decide +kernel
theorem dX7_init_96 : decode cX7_init 96 = .ok (.aload_n 0, 1) := by decide +kernel
theorem dX7_init_97 : decode cX7_init 97 = .ok (.sipush 160, 3) := by decide +kernel
theorem dX7_init_100 : decode cX7_init 100 = .ok (.newarray .int, 2) := by decide +kernel
theorem dX7_init_102 : decode cX7_init 102 = .ok (.putfield 44, 3) := by decide +kernel
theorem dX7_init_105 : decode cX7_init 105 = .ok (.aload_n 0, 1) := by decide +kernel
theorem dX7_init_106 : decode cX7_init 106 = .ok (.getfield 7, 3) := by decide +kernel
theorem dX7_init_109 : decode cX7_init 109 = .ok (.iconst 0, 1) := by decide +kernel
theorem dX7_init_110 : decode cX7_init 110 = .ok (.iconst 3, 1) := by decide +kernel
theorem dX7_init_111 : decode cX7_init 111 = .ok (.iastore, 1) := by decide +kernel
theorem dX7_init_112 : decode cX7_init 112 = .ok (.aload_n 0, 1) := by decide +kernel
theorem dX7_init_113 : decode cX7_init 113 = .ok (.getfield 7, 3) := by decide +kernel
theorem dX7_init_116 : decode cX7_init 116 = .ok (.iconst 1, 1) := by decide +kernel
theorem dX7_init_117 : decode cX7_init 117 = .ok (.iconst 4, 1) := by decide +kernel
theorem dX7_init_118 : decode cX7_init 118 = .ok (.iastore, 1) := by decide +kernel
theorem dX7_init_119 : decode cX7_init 119 = .ok (.aload_n 0, 1) := by decide +kernel
theorem dX7_init_120 : decode cX7_init 120 = .ok (.getfield 7, 3) := by decide +kernel
theorem dX7_init_123 : decode cX7_init 123 = .ok (.iconst 3, 1) := by decide +kernel
theorem dX7_init_124 : decode cX7_init 124 = .ok (.iconst 2, 1) := by decide +kernel
theorem dX7_init_125 : decode cX7_init 125 = .ok (.iastore, 1) := by decide +kernel
theorem dX7_init_126 : decode cX7_init 126 = .ok (.aload_n 0, 1) := by decide +kernel
theorem dX7_init_127 : decode cX7_init 127 = .ok (.getfield 7, 3) := by decide +kernel
theorem dX7_init_130 : decode cX7_init 130 = .ok (.iconst 4, 1) := by decide +kernel
theorem dX7_init_131 : decode cX7_init 131 = .ok (.bipush 10, 2) := by decide +kernel
theorem dX7_init_133 : decode cX7_init 133 = .ok (.iastore, 1) := by decide +kernel
theorem dX7_init_134 : decode cX7_init 134 = .ok (.return_, 1) := by decide +kernel
theorem dX7_thrown_0 : decode cX7_thrown 0 = .ok (.aload_n 0, 1) := by decide +kernel
theorem dX7_thrown_1 : decode cX7_thrown 1 = .ok (.getfield 47, 3) := by decide +kernel
theorem dX7_thrown_4 : decode cX7_thrown 4 = .ok (.ireturn, 1) := by decide +kernel
theorem dX7_within_0 : decode cX7_within 0 = .ok (.iload_n 0, 1) := by decide +kernel
theorem dX7_within_1 : decode cX7_within 1 = .ok (.iload_n 1, 1) := by decide +kernel
theorem dX7_within_2 : decode cX7_within 2 = .ok (.if_icmp .lt 12, 3) := by decide +kernel
theorem dX7_within_5 : decode cX7_within 5 = .ok (.iload_n 0, 1) := by decide +kernel
theorem dX7_within_6 : decode cX7_within 6 = .ok (.iload_n 2, 1) := by decide +kernel
theorem dX7_within_7 : decode cX7_within 7 = .ok (.if_icmp .gt 7, 3) := by decide +kernel
theorem dX7_within_10 : decode cX7_within 10 = .ok (.iconst 1, 1) := by decide +kernel
theorem dX7_within_11 : decode cX7_within 11 = .ok (.goto 4, 3) := by decide +kernel
theorem dX7_within_14 : decode cX7_within 14 = .ok (.iconst 0, 1) := by decide +kernel
theorem dX7_within_15 : decode cX7_within 15 = .ok (.ireturn, 1) := by decide +kernel
theorem dX7_save_0 : decode cX7_save 0 = .ok (.aload_n 0, 1) := by decide +kernel
theorem dX7_save_1 : decode cX7_save 1 = .ok (.getfield 51, 3) := by decide +kernel
theorem dX7_save_4 : decode cX7_save 4 = .ok (.bipush 6, 2) := by decide +kernel
theorem dX7_save_6 : decode cX7_save 6 = .ok (.if_icmp .ne 77, 3) := by decide +kernel
theorem dX7_save_9 : decode cX7_save 9 = .ok (.sipush 611, 3) := by decide +kernel
theorem dX7_save_12 : decode cX7_save 12 = .ok (.istore_n 1, 1) := by decide +kernel
theorem dX7_save_13 : decode cX7_save 13 = .ok (.iload_n 1, 1) := by decide +kernel
theorem dX7_save_14 : decode cX7_save 14 = .ok (.sipush 3666, 3) := by decide +kernel
theorem dX7_save_17 : decode cX7_save 17 = .ok (.if_icmp .ge 25, 3) := by decide +kernel
theorem dX7_save_20 : decode cX7_save 20 = .ok (.aload_n 0, 1) := by decide +kernel
theorem dX7_save_21 : decode cX7_save 21 = .ok (.getfield 17, 3) := by decide +kernel
theorem dX7_save_24 : decode cX7_save 24 = .ok (.iload_n 1, 1) := by decide +kernel
theorem dX7_save_25 : decode cX7_save 25 = .ok (.sipush 611, 3) := by decide +kernel
theorem dX7_save_28 : decode cX7_save 28 = .ok (.isub, 1) := by decide +kernel
theorem dX7_save_29 : decode cX7_save 29 = .ok (.aload_n 0, 1) := by decide +kernel
theorem dX7_save_30 : decode cX7_save 30 = .ok (.getfield 17, 3) := by decide +kernel
theorem dX7_save_33 : decode cX7_save 33 = .ok (.iload_n 1, 1) := by decide +kernel
theorem dX7_save_34 : decode cX7_save 34 = .ok (.iaload, 1) := by decide +kernel
theorem dX7_save_35 : decode cX7_save 35 = .ok (.iastore, 1) := by decide +kernel
theorem dX7_save_36 : decode cX7_save 36 = .ok (.iinc 1 1, 3) := by decide +kernel
theorem dX7_save_39 : decode cX7_save 39 = .ok (.goto (-26), 3) := by decide +kernel
theorem dX7_save_42 : decode cX7_save 42 = .ok (.bipush 60, 2) := by decide +kernel
theorem dX7_save_44 : decode cX7_save 44 = .ok (.istore_n 1, 1) := by decide +kernel
theorem dX7_save_45 : decode cX7_save 45 = .ok (.iload_n 1, 1) := by decide +kernel
theorem dX7_save_46 : decode cX7_save 46 = .ok (.sipush 360, 3) := by decide +kernel
theorem dX7_save_49 : decode cX7_save 49 = .ok (.if_icmp .ge 24, 3) := by decide +kernel
theorem dX7_save_52 : decode cX7_save 52 = .ok (.aload_n 0, 1) := by decide +kernel
theorem dX7_save_53 : decode cX7_save 53 = .ok (.getfield 20, 3) := by decide +kernel
theorem dX7_save_56 : decode cX7_save 56 = .ok (.iload_n 1, 1) := by decide +kernel
theorem dX7_save_57 : decode cX7_save 57 = .ok (.bipush 60, 2) := by decide +kernel
theorem dX7_save_59 : decode cX7_save 59 = .ok (.isub, 1) := by decide +kernel
theorem dX7_save_60 : decode cX7_save 60 = .ok (.aload_n 0, 1) := by decide +kernel
theorem dX7_save_61 : decode cX7_save 61 = .ok (.getfield 20, 3) := by decide +kernel
theorem dX7_save_64 : decode cX7_save 64 = .ok (.iload_n 1, 1) := by decide +kernel
theorem dX7_save_65 : decode cX7_save 65 = .ok (.laload, 1) := by decide +kernel
theorem dX7_save_66 : decode cX7_save 66 = .ok (.lastore, 1) := by decide +kernel
theorem dX7_save_67 : decode cX7_save 67 = .ok (.iinc 1 1, 3) := by decide +kernel
theorem dX7_save_70 : decode cX7_save 70 = .ok (.goto (-25), 3) := by decide +kernel
theorem dX7_save_73 : decode cX7_save 73 = .ok (.aload_n 0, 1) := by decide +kernel
theorem dX7_save_74 : decode cX7_save 74 = .ok (.dup, 1) := by decide +kernel
theorem dX7_save_75 : decode cX7_save 75 = .ok (.getfield 51, 3) := by decide +kernel
theorem dX7_save_78 : decode cX7_save 78 = .ok (.iconst 1, 1) := by decide +kernel
theorem dX7_save_79 : decode cX7_save 79 = .ok (.isub, 1) := by decide +kernel
theorem dX7_save_80 : decode cX7_save 80 = .ok (.putfield 51, 3) := by decide +kernel
theorem dX7_save_83 : decode cX7_save 83 = .ok (.iconst 0, 1) := by decide +kernel
theorem dX7_save_84 : decode cX7_save 84 = .ok (.istore_n 1, 1) := by decide +kernel
theorem dX7_save_85 : decode cX7_save 85 = .ok (.iload_n 1, 1) := by decide +kernel
theorem dX7_save_86 : decode cX7_save 86 = .ok (.sipush 611, 3) := by decide +kernel
theorem dX7_save_89 : decode cX7_save 89 = .ok (.if_icmp .ge 30, 3) := by decide +kernel
theorem dX7_save_92 : decode cX7_save 92 = .ok (.aload_n 0, 1) := by decide +kernel
theorem dX7_save_93 : decode cX7_save 93 = .ok (.getfield 17, 3) := by decide +kernel
theorem dX7_save_96 : decode cX7_save 96 = .ok (.sipush 611, 3) := by decide +kernel
theorem dX7_save_99 : decode cX7_save 99 = .ok (.aload_n 0, 1) := by decide +kernel
theorem dX7_save_100 : decode cX7_save 100 = .ok (.getfield 51, 3) := by decide +kernel
theorem dX7_save_103 : decode cX7_save 103 = .ok (.imul, 1) := by decide +kernel
theorem dX7_save_104 : decode cX7_save 104 = .ok (.iload_n 1, 1) := by decide +kernel
theorem dX7_save_105 : decode cX7_save 105 = .ok (.iadd, 1) := by decide +kernel
theorem dX7_save_106 : decode cX7_save 106 = .ok (.aload_n 0, 1) := by decide +kernel
theorem dX7_save_107 : decode cX7_save 107 = .ok (.getfield 7, 3) := by decide +kernel
theorem dX7_save_110 : decode cX7_save 110 = .ok (.iload_n 1, 1) := by decide +kernel
theorem dX7_save_111 : decode cX7_save 111 = .ok (.iaload, 1) := by decide +kernel
theorem dX7_save_112 : decode cX7_save 112 = .ok (.iastore, 1) := by decide +kernel
theorem dX7_save_113 : decode cX7_save 113 = .ok (.iinc 1 1, 3) := by decide +kernel
theorem dX7_save_116 : decode cX7_save 116 = .ok (.goto (-31), 3) := by decide +kernel
theorem dX7_save_119 : decode cX7_save 119 = .ok (.iconst 0, 1) := by decide +kernel
theorem dX7_save_120 : decode cX7_save 120 = .ok (.istore_n 1, 1) := by decide +kernel
theorem dX7_save_121 : decode cX7_save 121 = .ok (.iload_n 1, 1) := by decide +kernel
theorem dX7_save_122 : decode cX7_save 122 = .ok (.bipush 60, 2) := by decide +kernel
theorem dX7_save_124 : decode cX7_save 124 = .ok (.if_icmp .ge 29, 3) := by decide +kernel
theorem dX7_save_127 : decode cX7_save 127 = .ok (.aload_n 0, 1) := by decide +kernel
theorem dX7_save_128 : decode cX7_save 128 = .ok (.getfield 20, 3) := by decide +kernel
theorem dX7_save_131 : decode cX7_save 131 = .ok (.bipush 60, 2) := by decide +kernel
theorem dX7_save_133 : decode cX7_save 133 = .ok (.aload_n 0, 1) := by decide +kernel
theorem dX7_save_134 : decode cX7_save 134 = .ok (.getfield 51, 3) := by decide +kernel
theorem dX7_save_137 : decode cX7_save 137 = .ok (.imul, 1) := by decide +kernel
theorem dX7_save_138 : decode cX7_save 138 = .ok (.iload_n 1, 1) := by decide +kernel
theorem dX7_save_139 : decode cX7_save 139 = .ok (.iadd, 1) := by decide +kernel
theorem dX7_save_140 : decode cX7_save 140 = .ok (.aload_n 0, 1) := by decide +kernel
theorem dX7_save_141 : decode cX7_save 141 = .ok (.getfield 13, 3) := by decide +kernel
theorem dX7_save_144 : decode cX7_save 144 = .ok (.iload_n 1, 1) := by decide +kernel
theorem dX7_save_145 : decode cX7_save 145 = .ok (.laload, 1) := by decide +kernel
theorem dX7_save_146 : decode cX7_save 146 = .ok (.lastore, 1) := by decide +kernel
theorem dX7_save_147 : decode cX7_save 147 = .ok (.iinc 1 1, 3) := by decide +kernel
theorem dX7_save_150 : decode cX7_save 150 = .ok (.goto (-29), 3) := by decide +kernel
theorem dX7_save_153 : decode cX7_save 153 = .ok (.aload_n 0, 1) := by decide +kernel
theorem dX7_save_154 : decode cX7_save 154 = .ok (.dup, 1) := by decide +kernel
theorem dX7_save_155 : decode cX7_save 155 = .ok (.getfield 51, 3) := by decide +kernel
theorem dX7_save_158 : decode cX7_save 158 = .ok (.iconst 1, 1) := by decide +kernel
theorem dX7_save_159 : decode cX7_save 159 = .ok (.iadd, 1) := by decide +kernel
theorem dX7_save_160 : decode cX7_save 160 = .ok (.putfield 51, 3) := by decide +kernel
theorem dX7_save_163 : decode cX7_save 163 = .ok (.return_, 1) := by decide +kernel
theorem dX7_isText_0 : decode cX7_isText 0 = .ok (.iload_n 0, 1) := by decide +kernel
theorem dX7_isText_1 : decode cX7_isText 1 = .ok (.iconst 0, 1) := by decide +kernel
theorem dX7_isText_2 : decode cX7_isText 2 = .ok (.iconst 3, 1) := by decide +kernel
theorem dX7_isText_3 : decode cX7_isText 3 = .ok (.invokestatic 54, 3) := by decide +kernel
theorem dX7_isText_6 : decode cX7_isText 6 = .ok (.ireturn, 1) := by decide +kernel
theorem dX7_signsOf_0 : decode cX7_signsOf 0 = .ok (.aload_n 0, 1) := by decide +kernel
theorem dX7_signsOf_1 : decode cX7_signsOf 1 = .ok (.getfield 7, 3) := by decide +kernel
theorem dX7_signsOf_4 : decode cX7_signsOf 4 = .ok (.bipush 7, 2) := by decide +kernel
theorem dX7_signsOf_6 : decode cX7_signsOf 6 = .ok (.iload_n 1, 1) := by decide +kernel
theorem dX7_signsOf_7 : decode cX7_signsOf 7 = .ok (.iadd, 1) := by decide +kernel
theorem dX7_signsOf_8 : decode cX7_signsOf 8 = .ok (.iaload, 1) := by decide +kernel
theorem dX7_signsOf_9 : decode cX7_signsOf 9 = .ok (.ireturn, 1) := by decide +kernel
theorem dX7_valueAt_0 : decode cX7_valueAt 0 = .ok (.aload_n 0, 1) := by decide +kernel
theorem dX7_valueAt_1 : decode cX7_valueAt 1 = .ok (.getfield 7, 3) := by decide +kernel
theorem dX7_valueAt_4 : decode cX7_valueAt 4 = .ok (.bipush 11, 2) := by decide +kernel
theorem dX7_valueAt_6 : decode cX7_valueAt 6 = .ok (.bipush 40, 2) := by decide +kernel
theorem dX7_valueAt_8 : decode cX7_valueAt 8 = .ok (.iload_n 1, 1) := by decide +kernel
theorem dX7_valueAt_9 : decode cX7_valueAt 9 = .ok (.imul, 1) := by decide +kernel
theorem dX7_valueAt_10 : decode cX7_valueAt 10 = .ok (.iadd, 1) := by decide +kernel
theorem dX7_valueAt_11 : decode cX7_valueAt 11 = .ok (.iload_n 2, 1) := by decide +kernel
theorem dX7_valueAt_12 : decode cX7_valueAt 12 = .ok (.iadd, 1) := by decide +kernel
theorem dX7_valueAt_13 : decode cX7_valueAt 13 = .ok (.iaload, 1) := by decide +kernel
theorem dX7_valueAt_14 : decode cX7_valueAt 14 = .ok (.ireturn, 1) := by decide +kernel
theorem dX7_markAt_0 : decode cX7_markAt 0 = .ok (.aload_n 0, 1) := by decide +kernel
theorem dX7_markAt_1 : decode cX7_markAt 1 = .ok (.getfield 7, 3) := by decide +kernel
theorem dX7_markAt_4 : decode cX7_markAt 4 = .ok (.sipush 171, 3) := by decide +kernel
theorem dX7_markAt_7 : decode cX7_markAt 7 = .ok (.bipush 40, 2) := by decide +kernel
theorem dX7_markAt_9 : decode cX7_markAt 9 = .ok (.iload_n 1, 1) := by decide +kernel
theorem dX7_markAt_10 : decode cX7_markAt 10 = .ok (.imul, 1) := by decide +kernel
theorem dX7_markAt_11 : decode cX7_markAt 11 = .ok (.iadd, 1) := by decide +kernel
theorem dX7_markAt_12 : decode cX7_markAt 12 = .ok (.iload_n 2, 1) := by decide +kernel
theorem dX7_markAt_13 : decode cX7_markAt 13 = .ok (.iadd, 1) := by decide +kernel
theorem dX7_markAt_14 : decode cX7_markAt 14 = .ok (.iaload, 1) := by decide +kernel
theorem dX7_markAt_15 : decode cX7_markAt 15 = .ok (.ireturn, 1) := by decide +kernel
theorem dX7_slotAt_0 : decode cX7_slotAt 0 = .ok (.aload_n 0, 1) := by decide +kernel
theorem dX7_slotAt_1 : decode cX7_slotAt 1 = .ok (.getfield 7, 3) := by decide +kernel
theorem dX7_slotAt_4 : decode cX7_slotAt 4 = .ok (.sipush 331, 3) := by decide +kernel
theorem dX7_slotAt_7 : decode cX7_slotAt 7 = .ok (.bipush 40, 2) := by decide +kernel
theorem dX7_slotAt_9 : decode cX7_slotAt 9 = .ok (.iload_n 1, 1) := by decide +kernel
theorem dX7_slotAt_10 : decode cX7_slotAt 10 = .ok (.imul, 1) := by decide +kernel
theorem dX7_slotAt_11 : decode cX7_slotAt 11 = .ok (.iadd, 1) := by decide +kernel
theorem dX7_slotAt_12 : decode cX7_slotAt 12 = .ok (.iload_n 2, 1) := by decide +kernel
theorem dX7_slotAt_13 : decode cX7_slotAt 13 = .ok (.iadd, 1) := by decide +kernel
theorem dX7_slotAt_14 : decode cX7_slotAt 14 = .ok (.iaload, 1) := by decide +kernel
theorem dX7_slotAt_15 : decode cX7_slotAt 15 = .ok (.ireturn, 1) := by decide +kernel
theorem dX7_takeRow_0 : decode cX7_takeRow 0 = .ok (.aload_n 0, 1) := by decide +kernel
theorem dX7_takeRow_1 : decode cX7_takeRow 1 = .ok (.aload_n 0, 1) := by decide +kernel
theorem dX7_takeRow_2 : decode cX7_takeRow 2 = .ok (.iload_n 1, 1) := by decide +kernel
theorem dX7_takeRow_3 : decode cX7_takeRow 3 = .ok (.invokevirtual 58, 3) := by decide +kernel
theorem dX7_takeRow_6 : decode cX7_takeRow 6 = .ok (.putfield 62, 3) := by decide +kernel
theorem dX7_takeRow_9 : decode cX7_takeRow 9 = .ok (.iconst 0, 1) := by decide +kernel
theorem dX7_takeRow_10 : decode cX7_takeRow 10 = .ok (.istore_n 2, 1) := by decide +kernel
theorem dX7_takeRow_11 : decode cX7_takeRow 11 = .ok (.iload_n 2, 1) := by decide +kernel
theorem dX7_takeRow_12 : decode cX7_takeRow 12 = .ok (.aload_n 0, 1) := by decide +kernel
theorem dX7_takeRow_13 : decode cX7_takeRow 13 = .ok (.getfield 62, 3) := by decide +kernel
theorem dX7_takeRow_16 : decode cX7_takeRow 16 = .ok (.if_icmp .ge 21, 3) := by decide +kernel
theorem dX7_takeRow_19 : decode cX7_takeRow 19 = .ok (.aload_n 0, 1) := by decide +kernel
theorem dX7_takeRow_20 : decode cX7_takeRow 20 = .ok (.getfield 26, 3) := by decide +kernel
theorem dX7_takeRow_23 : decode cX7_takeRow 23 = .ok (.iload_n 2, 1) := by decide +kernel
theorem dX7_takeRow_24 : decode cX7_takeRow 24 = .ok (.aload_n 0, 1) := by decide +kernel
theorem dX7_takeRow_25 : decode cX7_takeRow 25 = .ok (.iload_n 1, 1) := by decide +kernel
theorem dX7_takeRow_26 : decode cX7_takeRow 26 = .ok (.iload_n 2, 1) := by decide +kernel
theorem dX7_takeRow_27 : decode cX7_takeRow 27 = .ok (.invokevirtual 65, 3) := by decide +kernel
theorem dX7_takeRow_30 : decode cX7_takeRow 30 = .ok (.iastore, 1) := by decide +kernel
theorem dX7_takeRow_31 : decode cX7_takeRow 31 = .ok (.iinc 2 1, 3) := by decide +kernel
theorem dX7_takeRow_34 : decode cX7_takeRow 34 = .ok (.goto (-23), 3) := by decide +kernel
theorem dX7_takeRow_37 : decode cX7_takeRow 37 = .ok (.return_, 1) := by decide +kernel
theorem dX7_sumAt_0 : decode cX7_sumAt 0 = .ok (.iconst 0, 1) := by decide +kernel
theorem dX7_sumAt_1 : decode cX7_sumAt 1 = .ok (.istore_n 2, 1) := by decide +kernel
theorem dX7_sumAt_2 : decode cX7_sumAt 2 = .ok (.iconst 0, 1) := by decide +kernel
theorem dX7_sumAt_3 : decode cX7_sumAt 3 = .ok (.istore_n 3, 1) := by decide +kernel
theorem dX7_sumAt_4 : decode cX7_sumAt 4 = .ok (.iload_n 3, 1) := by decide +kernel
theorem dX7_sumAt_5 : decode cX7_sumAt 5 = .ok (.aload_n 0, 1) := by decide +kernel
theorem dX7_sumAt_6 : decode cX7_sumAt 6 = .ok (.getfield 7, 3) := by decide +kernel
theorem dX7_sumAt_9 : decode cX7_sumAt 9 = .ok (.iconst 0, 1) := by decide +kernel
theorem dX7_sumAt_10 : decode cX7_sumAt 10 = .ok (.iaload, 1) := by decide +kernel
theorem dX7_sumAt_11 : decode cX7_sumAt 11 = .ok (.if_icmp .ge 29, 3) := by decide +kernel
theorem dX7_sumAt_14 : decode cX7_sumAt 14 = .ok (.iload_n 3, 1) := by decide +kernel
theorem dX7_sumAt_15 : decode cX7_sumAt 15 = .ok (.iload_n 1, 1) := by decide +kernel
theorem dX7_sumAt_16 : decode cX7_sumAt 16 = .ok (.if_icmp .gt 24, 3) := by decide +kernel
theorem dX7_sumAt_19 : decode cX7_sumAt 19 = .ok (.iload_n 2, 1) := by decide +kernel
theorem dX7_sumAt_20 : decode cX7_sumAt 20 = .ok (.iload_n 3, 1) := by decide +kernel
theorem dX7_sumAt_21 : decode cX7_sumAt 21 = .ok (.iconst 1, 1) := by decide +kernel
theorem dX7_sumAt_22 : decode cX7_sumAt 22 = .ok (.iadd, 1) := by decide +kernel
theorem dX7_sumAt_23 : decode cX7_sumAt 23 = .ok (.aload_n 0, 1) := by decide +kernel
theorem dX7_sumAt_24 : decode cX7_sumAt 24 = .ok (.getfield 26, 3) := by decide +kernel
theorem dX7_sumAt_27 : decode cX7_sumAt 27 = .ok (.iload_n 1, 1) := by decide +kernel
theorem dX7_sumAt_28 : decode cX7_sumAt 28 = .ok (.iload_n 3, 1) := by decide +kernel
theorem dX7_sumAt_29 : decode cX7_sumAt 29 = .ok (.isub, 1) := by decide +kernel
theorem dX7_sumAt_30 : decode cX7_sumAt 30 = .ok (.iaload, 1) := by decide +kernel
theorem dX7_sumAt_31 : decode cX7_sumAt 31 = .ok (.imul, 1) := by decide +kernel
theorem dX7_sumAt_32 : decode cX7_sumAt 32 = .ok (.iadd, 1) := by decide +kernel
theorem dX7_sumAt_33 : decode cX7_sumAt 33 = .ok (.istore_n 2, 1) := by decide +kernel
theorem dX7_sumAt_34 : decode cX7_sumAt 34 = .ok (.iinc 3 1, 3) := by decide +kernel
theorem dX7_sumAt_37 : decode cX7_sumAt 37 = .ok (.goto (-33), 3) := by decide +kernel
theorem dX7_sumAt_40 : decode cX7_sumAt 40 = .ok (.iload_n 2, 1) := by decide +kernel
theorem dX7_sumAt_41 : decode cX7_sumAt 41 = .ok (.ireturn, 1) := by decide +kernel
theorem dX7_endAt_0 : decode cX7_endAt 0 = .ok (.iload_n 2, 1) := by decide +kernel
theorem dX7_endAt_1 : decode cX7_endAt 1 = .ok (.aload_n 0, 1) := by decide +kernel
theorem dX7_endAt_2 : decode cX7_endAt 2 = .ok (.getfield 7, 3) := by decide +kernel
theorem dX7_endAt_5 : decode cX7_endAt 5 = .ok (.iconst 3, 1) := by decide +kernel
theorem dX7_endAt_6 : decode cX7_endAt 6 = .ok (.iaload, 1) := by decide +kernel
theorem dX7_endAt_7 : decode cX7_endAt 7 = .ok (.if_icmp .lt 26, 3) := by decide +kernel
theorem dX7_endAt_10 : decode cX7_endAt 10 = .ok (.aload_n 0, 1) := by decide +kernel
theorem dX7_endAt_11 : decode cX7_endAt 11 = .ok (.iload_n 1, 1) := by decide +kernel
theorem dX7_endAt_12 : decode cX7_endAt 12 = .ok (.invokevirtual 69, 3) := by decide +kernel
theorem dX7_endAt_15 : decode cX7_endAt 15 = .ok (.aload_n 0, 1) := by decide +kernel
theorem dX7_endAt_16 : decode cX7_endAt 16 = .ok (.getfield 7, 3) := by decide +kernel
theorem dX7_endAt_19 : decode cX7_endAt 19 = .ok (.iconst 1, 1) := by decide +kernel
theorem dX7_endAt_20 : decode cX7_endAt 20 = .ok (.iaload, 1) := by decide +kernel
theorem dX7_endAt_21 : decode cX7_endAt 21 = .ok (.irem, 1) := by decide +kernel
theorem dX7_endAt_22 : decode cX7_endAt 22 = .ok (.aload_n 0, 1) := by decide +kernel
theorem dX7_endAt_23 : decode cX7_endAt 23 = .ok (.getfield 7, 3) := by decide +kernel
theorem dX7_endAt_26 : decode cX7_endAt 26 = .ok (.iconst 2, 1) := by decide +kernel
theorem dX7_endAt_27 : decode cX7_endAt 27 = .ok (.iaload, 1) := by decide +kernel
theorem dX7_endAt_28 : decode cX7_endAt 28 = .ok (.if_icmp .ne 5, 3) := by decide +kernel
theorem dX7_endAt_31 : decode cX7_endAt 31 = .ok (.iconst 1, 1) := by decide +kernel
theorem dX7_endAt_32 : decode cX7_endAt 32 = .ok (.ireturn, 1) := by decide +kernel
theorem dX7_endAt_33 : decode cX7_endAt 33 = .ok (.iload_n 2, 1) := by decide +kernel
theorem dX7_endAt_34 : decode cX7_endAt 34 = .ok (.aload_n 0, 1) := by decide +kernel
theorem dX7_endAt_35 : decode cX7_endAt 35 = .ok (.getfield 7, 3) := by decide +kernel
theorem dX7_endAt_38 : decode cX7_endAt 38 = .ok (.iconst 4, 1) := by decide +kernel
theorem dX7_endAt_39 : decode cX7_endAt 39 = .ok (.iaload, 1) := by decide +kernel
theorem dX7_endAt_40 : decode cX7_endAt 40 = .ok (.if_icmp .ne 7, 3) := by decide +kernel
theorem dX7_endAt_43 : decode cX7_endAt 43 = .ok (.iconst 2, 1) := by decide +kernel
theorem dX7_endAt_44 : decode cX7_endAt 44 = .ok (.goto 18, 3) := by decide +kernel
theorem dX7_endAt_47 : decode cX7_endAt 47 = .ok (.iload_n 1, 1) := by decide +kernel
theorem dX7_endAt_48 : decode cX7_endAt 48 = .ok (.aload_n 0, 1) := by decide +kernel
theorem dX7_endAt_49 : decode cX7_endAt 49 = .ok (.getfield 62, 3) := by decide +kernel
theorem dX7_endAt_52 : decode cX7_endAt 52 = .ok (.iconst 1, 1) := by decide +kernel
theorem dX7_endAt_53 : decode cX7_endAt 53 = .ok (.isub, 1) := by decide +kernel
theorem dX7_endAt_54 : decode cX7_endAt 54 = .ok (.if_icmp .ne 7, 3) := by decide +kernel
theorem dX7_endAt_57 : decode cX7_endAt 57 = .ok (.iconst 3, 1) := by decide +kernel
theorem dX7_endAt_58 : decode cX7_endAt 58 = .ok (.goto 4, 3) := by decide +kernel
theorem dX7_endAt_61 : decode cX7_endAt 61 = .ok (.iconst 0, 1) := by decide +kernel
theorem dX7_endAt_62 : decode cX7_endAt 62 = .ok (.ireturn, 1) := by decide +kernel
theorem dX7_cut_0 : decode cX7_cut 0 = .ok (.aload_n 0, 1) := by decide +kernel
theorem dX7_cut_1 : decode cX7_cut 1 = .ok (.iconst 0, 1) := by decide +kernel
theorem dX7_cut_2 : decode cX7_cut 2 = .ok (.putfield 72, 3) := by decide +kernel
theorem dX7_cut_5 : decode cX7_cut 5 = .ok (.lconst 0, 1) := by decide +kernel
theorem dX7_cut_6 : decode cX7_cut 6 = .ok (.lstore_n 1, 1) := by decide +kernel
theorem dX7_cut_7 : decode cX7_cut 7 = .ok (.iconst 0, 1) := by decide +kernel
theorem dX7_cut_8 : decode cX7_cut 8 = .ok (.istore_n 3, 1) := by decide +kernel
theorem dX7_cut_9 : decode cX7_cut 9 = .ok (.iconst 0, 1) := by decide +kernel
theorem dX7_cut_10 : decode cX7_cut 10 = .ok (.istore 4, 2) := by decide +kernel
theorem dX7_cut_12 : decode cX7_cut 12 = .ok (.iload 4, 2) := by decide +kernel
theorem dX7_cut_14 : decode cX7_cut 14 = .ok (.aload_n 0, 1) := by decide +kernel
theorem dX7_cut_15 : decode cX7_cut 15 = .ok (.getfield 62, 3) := by decide +kernel
theorem dX7_cut_18 : decode cX7_cut 18 = .ok (.if_icmp .ge 88, 3) := by decide +kernel
theorem dX7_cut_21 : decode cX7_cut 21 = .ok (.lload_n 1, 1) := by decide +kernel
theorem dX7_cut_22 : decode cX7_cut 22 = .ok (.aload_n 0, 1) := by decide +kernel
theorem dX7_cut_23 : decode cX7_cut 23 = .ok (.getfield 26, 3) := by decide +kernel
theorem dX7_cut_26 : decode cX7_cut 26 = .ok (.iload 4, 2) := by decide +kernel
theorem dX7_cut_28 : decode cX7_cut 28 = .ok (.iaload, 1) := by decide +kernel
theorem dX7_cut_29 : decode cX7_cut 29 = .ok (.iconst 1, 1) := by decide +kernel
theorem dX7_cut_30 : decode cX7_cut 30 = .ok (.isub, 1) := by decide +kernel
theorem dX7_cut_31 : decode cX7_cut 31 = .ok (.i2l, 1) := by decide +kernel
theorem dX7_cut_32 : decode cX7_cut 32 = .ok (.iconst 3, 1) := by decide +kernel
theorem dX7_cut_33 : decode cX7_cut 33 = .ok (.iload_n 3, 1) := by decide +kernel
theorem dX7_cut_34 : decode cX7_cut 34 = .ok (.imul, 1) := by decide +kernel
theorem dX7_cut_35 : decode cX7_cut 35 = .ok (.lshl, 1) := by decide +kernel
theorem dX7_cut_36 : decode cX7_cut 36 = .ok (.lor, 1) := by decide +kernel
theorem dX7_cut_37 : decode cX7_cut 37 = .ok (.lstore_n 1, 1) := by decide +kernel
theorem dX7_cut_38 : decode cX7_cut 38 = .ok (.iinc 3 1, 3) := by decide +kernel
theorem dX7_cut_41 : decode cX7_cut 41 = .ok (.aload_n 0, 1) := by decide +kernel
theorem dX7_cut_42 : decode cX7_cut 42 = .ok (.iload 4, 2) := by decide +kernel
theorem dX7_cut_44 : decode cX7_cut 44 = .ok (.iload_n 3, 1) := by decide +kernel
theorem dX7_cut_45 : decode cX7_cut 45 = .ok (.invokevirtual 75, 3) := by decide +kernel
theorem dX7_cut_48 : decode cX7_cut 48 = .ok (.istore 5, 2) := by decide +kernel
theorem dX7_cut_50 : decode cX7_cut 50 = .ok (.iload 5, 2) := by decide +kernel
theorem dX7_cut_52 : decode cX7_cut 52 = .ok (.ifCond .eq 48, 3) := by decide +kernel
theorem dX7_cut_55 : decode cX7_cut 55 = .ok (.aload_n 0, 1) := by decide +kernel
theorem dX7_cut_56 : decode cX7_cut 56 = .ok (.getfield 29, 3) := by decide +kernel
theorem dX7_cut_59 : decode cX7_cut 59 = .ok (.aload_n 0, 1) := by decide +kernel
theorem dX7_cut_60 : decode cX7_cut 60 = .ok (.getfield 72, 3) := by decide +kernel
theorem dX7_cut_63 : decode cX7_cut 63 = .ok (.lload_n 1, 1) := by decide +kernel
theorem dX7_cut_64 : decode cX7_cut 64 = .ok (.lastore, 1) := by decide +kernel
theorem dX7_cut_65 : decode cX7_cut 65 = .ok (.aload_n 0, 1) := by decide +kernel
theorem dX7_cut_66 : decode cX7_cut 66 = .ok (.getfield 32, 3) := by decide +kernel
theorem dX7_cut_69 : decode cX7_cut 69 = .ok (.aload_n 0, 1) := by decide +kernel
theorem dX7_cut_70 : decode cX7_cut 70 = .ok (.getfield 72, 3) := by decide +kernel
theorem dX7_cut_73 : decode cX7_cut 73 = .ok (.iload_n 3, 1) := by decide +kernel
theorem dX7_cut_74 : decode cX7_cut 74 = .ok (.iastore, 1) := by decide +kernel
theorem dX7_cut_75 : decode cX7_cut 75 = .ok (.aload_n 0, 1) := by decide +kernel
theorem dX7_cut_76 : decode cX7_cut 76 = .ok (.getfield 35, 3) := by decide +kernel
theorem dX7_cut_79 : decode cX7_cut 79 = .ok (.aload_n 0, 1) := by decide +kernel
theorem dX7_cut_80 : decode cX7_cut 80 = .ok (.getfield 72, 3) := by decide +kernel
theorem dX7_cut_83 : decode cX7_cut 83 = .ok (.iload 5, 2) := by decide +kernel
theorem dX7_cut_85 : decode cX7_cut 85 = .ok (.iastore, 1) := by decide +kernel
theorem dX7_cut_86 : decode cX7_cut 86 = .ok (.aload_n 0, 1) := by decide +kernel
theorem dX7_cut_87 : decode cX7_cut 87 = .ok (.dup, 1) := by decide +kernel
theorem dX7_cut_88 : decode cX7_cut 88 = .ok (.getfield 72, 3) := by decide +kernel
theorem dX7_cut_91 : decode cX7_cut 91 = .ok (.iconst 1, 1) := by decide +kernel
theorem dX7_cut_92 : decode cX7_cut 92 = .ok (.iadd, 1) := by decide +kernel
theorem dX7_cut_93 : decode cX7_cut 93 = .ok (.putfield 72, 3) := by decide +kernel
theorem dX7_cut_96 : decode cX7_cut 96 = .ok (.lconst 0, 1) := by decide +kernel
theorem dX7_cut_97 : decode cX7_cut 97 = .ok (.lstore_n 1, 1) := by decide +kernel
theorem dX7_cut_98 : decode cX7_cut 98 = .ok (.iconst 0, 1) := by decide +kernel
theorem dX7_cut_99 : decode cX7_cut 99 = .ok (.istore_n 3, 1) := by decide +kernel
theorem dX7_cut_100 : decode cX7_cut 100 = .ok (.iinc 4 1, 3) := by decide +kernel
theorem dX7_cut_103 : decode cX7_cut 103 = .ok (.goto (-91), 3) := by decide +kernel
theorem dX7_cut_106 : decode cX7_cut 106 = .ok (.return_, 1) := by decide +kernel
theorem dX7_isAlike_0 : decode cX7_isAlike 0 = .ok (.aload_n 0, 1) := by decide +kernel
theorem dX7_isAlike_1 : decode cX7_isAlike 1 = .ok (.getfield 29, 3) := by decide +kernel
theorem dX7_isAlike_4 : decode cX7_isAlike 4 = .ok (.iload_n 1, 1) := by decide +kernel
theorem dX7_isAlike_5 : decode cX7_isAlike 5 = .ok (.laload, 1) := by decide +kernel
theorem dX7_isAlike_6 : decode cX7_isAlike 6 = .ok (.aload_n 0, 1) := by decide +kernel
theorem dX7_isAlike_7 : decode cX7_isAlike 7 = .ok (.getfield 29, 3) := by decide +kernel
theorem dX7_isAlike_10 : decode cX7_isAlike 10 = .ok (.iload_n 2, 1) := by decide +kernel
theorem dX7_isAlike_11 : decode cX7_isAlike 11 = .ok (.laload, 1) := by decide +kernel
theorem dX7_isAlike_12 : decode cX7_isAlike 12 = .ok (.lcmp, 1) := by decide +kernel
theorem dX7_isAlike_13 : decode cX7_isAlike 13 = .ok (.ifCond .ne 22, 3) := by decide +kernel
theorem dX7_isAlike_16 : decode cX7_isAlike 16 = .ok (.aload_n 0, 1) := by decide +kernel
theorem dX7_isAlike_17 : decode cX7_isAlike 17 = .ok (.getfield 32, 3) := by decide +kernel
theorem dX7_isAlike_20 : decode cX7_isAlike 20 = .ok (.iload_n 1, 1) := by decide +kernel
theorem dX7_isAlike_21 : decode cX7_isAlike 21 = .ok (.iaload, 1) := by decide +kernel
theorem dX7_isAlike_22 : decode cX7_isAlike 22 = .ok (.aload_n 0, 1) := by decide +kernel
theorem dX7_isAlike_23 : decode cX7_isAlike 23 = .ok (.getfield 32, 3) := by decide +kernel
theorem dX7_isAlike_26 : decode cX7_isAlike 26 = .ok (.iload_n 2, 1) := by decide +kernel
theorem dX7_isAlike_27 : decode cX7_isAlike 27 = .ok (.iaload, 1) := by decide +kernel
theorem dX7_isAlike_28 : decode cX7_isAlike 28 = .ok (.if_icmp .ne 7, 3) := by decide +kernel
theorem dX7_isAlike_31 : decode cX7_isAlike 31 = .ok (.iconst 1, 1) := by decide +kernel
theorem dX7_isAlike_32 : decode cX7_isAlike 32 = .ok (.goto 4, 3) := by decide +kernel
theorem dX7_isAlike_35 : decode cX7_isAlike 35 = .ok (.iconst 0, 1) := by decide +kernel
theorem dX7_isAlike_36 : decode cX7_isAlike 36 = .ok (.ireturn, 1) := by decide +kernel
theorem dX7_isFirstSuch_0 : decode cX7_isFirstSuch 0 = .ok (.iconst 1, 1) := by decide +kernel
theorem dX7_isFirstSuch_1 : decode cX7_isFirstSuch 1 = .ok (.istore_n 2, 1) := by decide +kernel
theorem dX7_isFirstSuch_2 : decode cX7_isFirstSuch 2 = .ok (.iconst 0, 1) := by decide +kernel
theorem dX7_isFirstSuch_3 : decode cX7_isFirstSuch 3 = .ok (.istore_n 3, 1) := by decide +kernel
theorem dX7_isFirstSuch_4 : decode cX7_isFirstSuch 4 = .ok (.iload_n 3, 1) := by decide +kernel
theorem dX7_isFirstSuch_5 : decode cX7_isFirstSuch 5 = .ok (.iload_n 1, 1) := by decide +kernel
theorem dX7_isFirstSuch_6 : decode cX7_isFirstSuch 6 = .ok (.if_icmp .ge 28, 3) := by decide +kernel
theorem dX7_isFirstSuch_9 : decode cX7_isFirstSuch 9 = .ok (.iload_n 2, 1) := by decide +kernel
theorem dX7_isFirstSuch_10 : decode cX7_isFirstSuch 10 = .ok (.ifCond .eq 16, 3) := by decide +kernel
theorem dX7_isFirstSuch_13 : decode cX7_isFirstSuch 13 = .ok (.aload_n 0, 1) := by decide +kernel
theorem dX7_isFirstSuch_14 : decode cX7_isFirstSuch 14 = .ok (.iload_n 3, 1) := by decide +kernel
theorem dX7_isFirstSuch_15 : decode cX7_isFirstSuch 15 = .ok (.iload_n 1, 1) := by decide +kernel
theorem dX7_isFirstSuch_16 : decode cX7_isFirstSuch 16 = .ok (.invokevirtual 78, 3) := by decide +kernel
theorem dX7_isFirstSuch_19 : decode cX7_isFirstSuch 19 = .ok (.ifCond .ne 7, 3) := by decide +kernel
theorem dX7_isFirstSuch_22 : decode cX7_isFirstSuch 22 = .ok (.iconst 1, 1) := by decide +kernel
theorem dX7_isFirstSuch_23 : decode cX7_isFirstSuch 23 = .ok (.goto 4, 3) := by decide +kernel
theorem dX7_isFirstSuch_26 : decode cX7_isFirstSuch 26 = .ok (.iconst 0, 1) := by decide +kernel
theorem dX7_isFirstSuch_27 : decode cX7_isFirstSuch 27 = .ok (.istore_n 2, 1) := by decide +kernel
theorem dX7_isFirstSuch_28 : decode cX7_isFirstSuch 28 = .ok (.iinc 3 1, 3) := by decide +kernel
theorem dX7_isFirstSuch_31 : decode cX7_isFirstSuch 31 = .ok (.goto (-27), 3) := by decide +kernel
theorem dX7_isFirstSuch_34 : decode cX7_isFirstSuch 34 = .ok (.iload_n 2, 1) := by decide +kernel
theorem dX7_isFirstSuch_35 : decode cX7_isFirstSuch 35 = .ok (.ireturn, 1) := by decide +kernel
theorem dX7_isKept_0 : decode cX7_isKept 0 = .ok (.aload_n 0, 1) := by decide +kernel
theorem dX7_isKept_1 : decode cX7_isKept 1 = .ok (.getfield 7, 3) := by decide +kernel
theorem dX7_isKept_4 : decode cX7_isKept 4 = .ok (.sipush 491, 3) := by decide +kernel
theorem dX7_isKept_7 : decode cX7_isKept 7 = .ok (.iload_n 1, 1) := by decide +kernel
theorem dX7_isKept_8 : decode cX7_isKept 8 = .ok (.iadd, 1) := by decide +kernel
theorem dX7_isKept_9 : decode cX7_isKept 9 = .ok (.iaload, 1) := by decide +kernel
theorem dX7_isKept_10 : decode cX7_isKept 10 = .ok (.ifCond .le 7, 3) := by decide +kernel
theorem dX7_isKept_13 : decode cX7_isKept 13 = .ok (.iconst 1, 1) := by decide +kernel
theorem dX7_isKept_14 : decode cX7_isKept 14 = .ok (.goto 4, 3) := by decide +kernel
theorem dX7_isKept_17 : decode cX7_isKept 17 = .ok (.iconst 0, 1) := by decide +kernel
theorem dX7_isKept_18 : decode cX7_isKept 18 = .ok (.ireturn, 1) := by decide +kernel
theorem dX7_slotFor_0 : decode cX7_slotFor 0 = .ok (.iconst (-1), 1) := by decide +kernel
theorem dX7_slotFor_1 : decode cX7_slotFor 1 = .ok (.istore_n 2, 1) := by decide +kernel
theorem dX7_slotFor_2 : decode cX7_slotFor 2 = .ok (.iconst 0, 1) := by decide +kernel
theorem dX7_slotFor_3 : decode cX7_slotFor 3 = .ok (.istore_n 3, 1) := by decide +kernel
theorem dX7_slotFor_4 : decode cX7_slotFor 4 = .ok (.iload_n 3, 1) := by decide +kernel
theorem dX7_slotFor_5 : decode cX7_slotFor 5 = .ok (.bipush 60, 2) := by decide +kernel
theorem dX7_slotFor_7 : decode cX7_slotFor 7 = .ok (.if_icmp .ge 62, 3) := by decide +kernel
theorem dX7_slotFor_10 : decode cX7_slotFor 10 = .ok (.aload_n 0, 1) := by decide +kernel
theorem dX7_slotFor_11 : decode cX7_slotFor 11 = .ok (.getfield 7, 3) := by decide +kernel
theorem dX7_slotFor_14 : decode cX7_slotFor 14 = .ok (.sipush 491, 3) := by decide +kernel
theorem dX7_slotFor_17 : decode cX7_slotFor 17 = .ok (.iload_n 3, 1) := by decide +kernel
theorem dX7_slotFor_18 : decode cX7_slotFor 18 = .ok (.iadd, 1) := by decide +kernel
theorem dX7_slotFor_19 : decode cX7_slotFor 19 = .ok (.iaload, 1) := by decide +kernel
theorem dX7_slotFor_20 : decode cX7_slotFor 20 = .ok (.aload_n 0, 1) := by decide +kernel
theorem dX7_slotFor_21 : decode cX7_slotFor 21 = .ok (.getfield 32, 3) := by decide +kernel
theorem dX7_slotFor_24 : decode cX7_slotFor 24 = .ok (.iload_n 1, 1) := by decide +kernel
theorem dX7_slotFor_25 : decode cX7_slotFor 25 = .ok (.iaload, 1) := by decide +kernel
theorem dX7_slotFor_26 : decode cX7_slotFor 26 = .ok (.if_icmp .ne 23, 3) := by decide +kernel
theorem dX7_slotFor_29 : decode cX7_slotFor 29 = .ok (.aload_n 0, 1) := by decide +kernel
theorem dX7_slotFor_30 : decode cX7_slotFor 30 = .ok (.getfield 13, 3) := by decide +kernel
theorem dX7_slotFor_33 : decode cX7_slotFor 33 = .ok (.iload_n 3, 1) := by decide +kernel
theorem dX7_slotFor_34 : decode cX7_slotFor 34 = .ok (.laload, 1) := by decide +kernel
theorem dX7_slotFor_35 : decode cX7_slotFor 35 = .ok (.aload_n 0, 1) := by decide +kernel
theorem dX7_slotFor_36 : decode cX7_slotFor 36 = .ok (.getfield 29, 3) := by decide +kernel
theorem dX7_slotFor_39 : decode cX7_slotFor 39 = .ok (.iload_n 1, 1) := by decide +kernel
theorem dX7_slotFor_40 : decode cX7_slotFor 40 = .ok (.laload, 1) := by decide +kernel
theorem dX7_slotFor_41 : decode cX7_slotFor 41 = .ok (.lcmp, 1) := by decide +kernel
theorem dX7_slotFor_42 : decode cX7_slotFor 42 = .ok (.ifCond .ne 7, 3) := by decide +kernel
theorem dX7_slotFor_45 : decode cX7_slotFor 45 = .ok (.iconst 1, 1) := by decide +kernel
theorem dX7_slotFor_46 : decode cX7_slotFor 46 = .ok (.goto 4, 3) := by decide +kernel
theorem dX7_slotFor_49 : decode cX7_slotFor 49 = .ok (.iconst 0, 1) := by decide +kernel
theorem dX7_slotFor_50 : decode cX7_slotFor 50 = .ok (.istore 4, 2) := by decide +kernel
theorem dX7_slotFor_52 : decode cX7_slotFor 52 = .ok (.iload 4, 2) := by decide +kernel
theorem dX7_slotFor_54 : decode cX7_slotFor 54 = .ok (.ifCond .eq 7, 3) := by decide +kernel
theorem dX7_slotFor_57 : decode cX7_slotFor 57 = .ok (.iload_n 3, 1) := by decide +kernel
theorem dX7_slotFor_58 : decode cX7_slotFor 58 = .ok (.goto 4, 3) := by decide +kernel
theorem dX7_slotFor_61 : decode cX7_slotFor 61 = .ok (.iload_n 2, 1) := by decide +kernel
theorem dX7_slotFor_62 : decode cX7_slotFor 62 = .ok (.istore_n 2, 1) := by decide +kernel
theorem dX7_slotFor_63 : decode cX7_slotFor 63 = .ok (.iinc 3 1, 3) := by decide +kernel
theorem dX7_slotFor_66 : decode cX7_slotFor 66 = .ok (.goto (-62), 3) := by decide +kernel
theorem dX7_slotFor_69 : decode cX7_slotFor 69 = .ok (.iload_n 2, 1) := by decide +kernel
theorem dX7_slotFor_70 : decode cX7_slotFor 70 = .ok (.ireturn, 1) := by decide +kernel
theorem dX7_freeSlots_0 : decode cX7_freeSlots 0 = .ok (.iconst 0, 1) := by decide +kernel
theorem dX7_freeSlots_1 : decode cX7_freeSlots 1 = .ok (.istore_n 1, 1) := by decide +kernel
theorem dX7_freeSlots_2 : decode cX7_freeSlots 2 = .ok (.iconst 0, 1) := by decide +kernel
theorem dX7_freeSlots_3 : decode cX7_freeSlots 3 = .ok (.istore_n 2, 1) := by decide +kernel
theorem dX7_freeSlots_4 : decode cX7_freeSlots 4 = .ok (.iload_n 2, 1) := by decide +kernel
theorem dX7_freeSlots_5 : decode cX7_freeSlots 5 = .ok (.bipush 60, 2) := by decide +kernel
theorem dX7_freeSlots_7 : decode cX7_freeSlots 7 = .ok (.if_icmp .ge 25, 3) := by decide +kernel
theorem dX7_freeSlots_10 : decode cX7_freeSlots 10 = .ok (.iload_n 1, 1) := by decide +kernel
theorem dX7_freeSlots_11 : decode cX7_freeSlots 11 = .ok (.aload_n 0, 1) := by decide +kernel
theorem dX7_freeSlots_12 : decode cX7_freeSlots 12 = .ok (.iload_n 2, 1) := by decide +kernel
theorem dX7_freeSlots_13 : decode cX7_freeSlots 13 = .ok (.invokevirtual 82, 3) := by decide +kernel
theorem dX7_freeSlots_16 : decode cX7_freeSlots 16 = .ok (.ifCond .eq 7, 3) := by decide +kernel
theorem dX7_freeSlots_19 : decode cX7_freeSlots 19 = .ok (.iconst 0, 1) := by decide +kernel
theorem dX7_freeSlots_20 : decode cX7_freeSlots 20 = .ok (.goto 4, 3) := by decide +kernel
theorem dX7_freeSlots_23 : decode cX7_freeSlots 23 = .ok (.iconst 1, 1) := by decide +kernel
theorem dX7_freeSlots_24 : decode cX7_freeSlots 24 = .ok (.iadd, 1) := by decide +kernel
theorem dX7_freeSlots_25 : decode cX7_freeSlots 25 = .ok (.istore_n 1, 1) := by decide +kernel
theorem dX7_freeSlots_26 : decode cX7_freeSlots 26 = .ok (.iinc 2 1, 3) := by decide +kernel
theorem dX7_freeSlots_29 : decode cX7_freeSlots 29 = .ok (.goto (-25), 3) := by decide +kernel
theorem dX7_freeSlots_32 : decode cX7_freeSlots 32 = .ok (.iload_n 1, 1) := by decide +kernel
theorem dX7_freeSlots_33 : decode cX7_freeSlots 33 = .ok (.ireturn, 1) := by decide +kernel
theorem dX7_storeSize_0 : decode cX7_storeSize 0 = .ok (.iconst 0, 1) := by decide +kernel
theorem dX7_storeSize_1 : decode cX7_storeSize 1 = .ok (.istore_n 1, 1) := by decide +kernel
theorem dX7_storeSize_2 : decode cX7_storeSize 2 = .ok (.iconst 0, 1) := by decide +kernel
theorem dX7_storeSize_3 : decode cX7_storeSize 3 = .ok (.istore_n 2, 1) := by decide +kernel
theorem dX7_storeSize_4 : decode cX7_storeSize 4 = .ok (.iload_n 2, 1) := by decide +kernel
theorem dX7_storeSize_5 : decode cX7_storeSize 5 = .ok (.bipush 60, 2) := by decide +kernel
theorem dX7_storeSize_7 : decode cX7_storeSize 7 = .ok (.if_icmp .ge 22, 3) := by decide +kernel
theorem dX7_storeSize_10 : decode cX7_storeSize 10 = .ok (.iload_n 1, 1) := by decide +kernel
theorem dX7_storeSize_11 : decode cX7_storeSize 11 = .ok (.aload_n 0, 1) := by decide +kernel
theorem dX7_storeSize_12 : decode cX7_storeSize 12 = .ok (.getfield 7, 3) := by decide +kernel
theorem dX7_storeSize_15 : decode cX7_storeSize 15 = .ok (.sipush 491, 3) := by decide +kernel
theorem dX7_storeSize_18 : decode cX7_storeSize 18 = .ok (.iload_n 2, 1) := by decide +kernel
theorem dX7_storeSize_19 : decode cX7_storeSize 19 = .ok (.iadd, 1) := by decide +kernel
theorem dX7_storeSize_20 : decode cX7_storeSize 20 = .ok (.iaload, 1) := by decide +kernel
theorem dX7_storeSize_21 : decode cX7_storeSize 21 = .ok (.iadd, 1) := by decide +kernel
theorem dX7_storeSize_22 : decode cX7_storeSize 22 = .ok (.istore_n 1, 1) := by decide +kernel
theorem dX7_storeSize_23 : decode cX7_storeSize 23 = .ok (.iinc 2 1, 3) := by decide +kernel
theorem dX7_storeSize_26 : decode cX7_storeSize 26 = .ok (.goto (-22), 3) := by decide +kernel
theorem dX7_storeSize_29 : decode cX7_storeSize 29 = .ok (.iload_n 1, 1) := by decide +kernel
theorem dX7_storeSize_30 : decode cX7_storeSize 30 = .ok (.ireturn, 1) := by decide +kernel
theorem dX7_missing_0 : decode cX7_missing 0 = .ok (.iconst 0, 1) := by decide +kernel
theorem dX7_missing_1 : decode cX7_missing 1 = .ok (.istore_n 2, 1) := by decide +kernel
theorem dX7_missing_2 : decode cX7_missing 2 = .ok (.iconst 0, 1) := by decide +kernel
theorem dX7_missing_3 : decode cX7_missing 3 = .ok (.istore_n 3, 1) := by decide +kernel
theorem dX7_missing_4 : decode cX7_missing 4 = .ok (.iload_n 3, 1) := by decide +kernel
theorem dX7_missing_5 : decode cX7_missing 5 = .ok (.aload_n 0, 1) := by decide +kernel
theorem dX7_missing_6 : decode cX7_missing 6 = .ok (.getfield 72, 3) := by decide +kernel
theorem dX7_missing_9 : decode cX7_missing 9 = .ok (.if_icmp .ge 59, 3) := by decide +kernel
theorem dX7_missing_12 : decode cX7_missing 12 = .ok (.aload_n 0, 1) := by decide +kernel
theorem dX7_missing_13 : decode cX7_missing 13 = .ok (.iload_n 3, 1) := by decide +kernel
theorem dX7_missing_14 : decode cX7_missing 14 = .ok (.invokevirtual 86, 3) := by decide +kernel
theorem dX7_missing_17 : decode cX7_missing 17 = .ok (.ifCond .eq 16, 3) := by decide +kernel
theorem dX7_missing_20 : decode cX7_missing 20 = .ok (.aload_n 0, 1) := by decide +kernel
theorem dX7_missing_21 : decode cX7_missing 21 = .ok (.iload_n 3, 1) := by decide +kernel
theorem dX7_missing_22 : decode cX7_missing 22 = .ok (.invokevirtual 89, 3) := by decide +kernel
theorem dX7_missing_25 : decode cX7_missing 25 = .ok (.iconst (-1), 1) := by decide +kernel
theorem dX7_missing_26 : decode cX7_missing 26 = .ok (.if_icmp .ne 7, 3) := by decide +kernel
theorem dX7_missing_29 : decode cX7_missing 29 = .ok (.iconst 1, 1) := by decide +kernel
theorem dX7_missing_30 : decode cX7_missing 30 = .ok (.goto 4, 3) := by decide +kernel
theorem dX7_missing_33 : decode cX7_missing 33 = .ok (.iconst 0, 1) := by decide +kernel
theorem dX7_missing_34 : decode cX7_missing 34 = .ok (.istore 4, 2) := by decide +kernel
theorem dX7_missing_36 : decode cX7_missing 36 = .ok (.iload_n 2, 1) := by decide +kernel
theorem dX7_missing_37 : decode cX7_missing 37 = .ok (.iload 4, 2) := by decide +kernel
theorem dX7_missing_39 : decode cX7_missing 39 = .ok (.ifCond .eq 20, 3) := by decide +kernel
theorem dX7_missing_42 : decode cX7_missing 42 = .ok (.iload_n 1, 1) := by decide +kernel
theorem dX7_missing_43 : decode cX7_missing 43 = .ok (.ifCond .eq 12, 3) := by decide +kernel
theorem dX7_missing_46 : decode cX7_missing 46 = .ok (.aload_n 0, 1) := by decide +kernel
theorem dX7_missing_47 : decode cX7_missing 47 = .ok (.getfield 32, 3) := by decide +kernel
theorem dX7_missing_50 : decode cX7_missing 50 = .ok (.iload_n 3, 1) := by decide +kernel
theorem dX7_missing_51 : decode cX7_missing 51 = .ok (.iaload, 1) := by decide +kernel
theorem dX7_missing_52 : decode cX7_missing 52 = .ok (.goto 8, 3) := by decide +kernel
theorem dX7_missing_55 : decode cX7_missing 55 = .ok (.iconst 1, 1) := by decide +kernel
theorem dX7_missing_56 : decode cX7_missing 56 = .ok (.goto 4, 3) := by decide +kernel
theorem dX7_missing_59 : decode cX7_missing 59 = .ok (.iconst 0, 1) := by decide +kernel
theorem dX7_missing_60 : decode cX7_missing 60 = .ok (.iadd, 1) := by decide +kernel
theorem dX7_missing_61 : decode cX7_missing 61 = .ok (.istore_n 2, 1) := by decide +kernel
theorem dX7_missing_62 : decode cX7_missing 62 = .ok (.iinc 3 1, 3) := by decide +kernel
theorem dX7_missing_65 : decode cX7_missing 65 = .ok (.goto (-61), 3) := by decide +kernel
theorem dX7_missing_68 : decode cX7_missing 68 = .ok (.iload_n 2, 1) := by decide +kernel
theorem dX7_missing_69 : decode cX7_missing 69 = .ok (.ireturn, 1) := by decide +kernel
theorem dX7_ownersBut_0 : decode cX7_ownersBut 0 = .ok (.aload_n 0, 1) := by decide +kernel
theorem dX7_ownersBut_1 : decode cX7_ownersBut 1 = .ok (.getfield 7, 3) := by decide +kernel
theorem dX7_ownersBut_4 : decode cX7_ownersBut 4 = .ok (.sipush 551, 3) := by decide +kernel
theorem dX7_ownersBut_7 : decode cX7_ownersBut 7 = .ok (.iload_n 1, 1) := by decide +kernel
theorem dX7_ownersBut_8 : decode cX7_ownersBut 8 = .ok (.iadd, 1) := by decide +kernel
theorem dX7_ownersBut_9 : decode cX7_ownersBut 9 = .ok (.iaload, 1) := by decide +kernel
theorem dX7_ownersBut_10 : decode cX7_ownersBut 10 = .ok (.istore_n 3, 1) := by decide +kernel
theorem dX7_ownersBut_11 : decode cX7_ownersBut 11 = .ok (.iconst 0, 1) := by decide +kernel
theorem dX7_ownersBut_12 : decode cX7_ownersBut 12 = .ok (.istore 4, 2) := by decide +kernel
theorem dX7_ownersBut_14 : decode cX7_ownersBut 14 = .ok (.iload 4, 2) := by decide +kernel
theorem dX7_ownersBut_16 : decode cX7_ownersBut 16 = .ok (.aload_n 0, 1) := by decide +kernel
theorem dX7_ownersBut_17 : decode cX7_ownersBut 17 = .ok (.iload_n 2, 1) := by decide +kernel
theorem dX7_ownersBut_18 : decode cX7_ownersBut 18 = .ok (.invokevirtual 58, 3) := by decide +kernel
theorem dX7_ownersBut_21 : decode cX7_ownersBut 21 = .ok (.if_icmp .ge 38, 3) := by decide +kernel
theorem dX7_ownersBut_24 : decode cX7_ownersBut 24 = .ok (.iload_n 3, 1) := by decide +kernel
theorem dX7_ownersBut_25 : decode cX7_ownersBut 25 = .ok (.aload_n 0, 1) := by decide +kernel
theorem dX7_ownersBut_26 : decode cX7_ownersBut 26 = .ok (.iload_n 2, 1) := by decide +kernel
theorem dX7_ownersBut_27 : decode cX7_ownersBut 27 = .ok (.iload 4, 2) := by decide +kernel
theorem dX7_ownersBut_29 : decode cX7_ownersBut 29 = .ok (.invokevirtual 92, 3) := by decide +kernel
theorem dX7_ownersBut_32 : decode cX7_ownersBut 32 = .ok (.ifCond .eq 18, 3) := by decide +kernel
theorem dX7_ownersBut_35 : decode cX7_ownersBut 35 = .ok (.aload_n 0, 1) := by decide +kernel
theorem dX7_ownersBut_36 : decode cX7_ownersBut 36 = .ok (.iload_n 2, 1) := by decide +kernel
theorem dX7_ownersBut_37 : decode cX7_ownersBut 37 = .ok (.iload 4, 2) := by decide +kernel
theorem dX7_ownersBut_39 : decode cX7_ownersBut 39 = .ok (.invokevirtual 95, 3) := by decide +kernel
theorem dX7_ownersBut_42 : decode cX7_ownersBut 42 = .ok (.iload_n 1, 1) := by decide +kernel
theorem dX7_ownersBut_43 : decode cX7_ownersBut 43 = .ok (.if_icmp .ne 7, 3) := by decide +kernel
theorem dX7_ownersBut_46 : decode cX7_ownersBut 46 = .ok (.iconst 1, 1) := by decide +kernel
theorem dX7_ownersBut_47 : decode cX7_ownersBut 47 = .ok (.goto 4, 3) := by decide +kernel
theorem dX7_ownersBut_50 : decode cX7_ownersBut 50 = .ok (.iconst 0, 1) := by decide +kernel
theorem dX7_ownersBut_51 : decode cX7_ownersBut 51 = .ok (.isub, 1) := by decide +kernel
theorem dX7_ownersBut_52 : decode cX7_ownersBut 52 = .ok (.istore_n 3, 1) := by decide +kernel
theorem dX7_ownersBut_53 : decode cX7_ownersBut 53 = .ok (.iinc 4 1, 3) := by decide +kernel
theorem dX7_ownersBut_56 : decode cX7_ownersBut 56 = .ok (.goto (-42), 3) := by decide +kernel
theorem dX7_ownersBut_59 : decode cX7_ownersBut 59 = .ok (.iload_n 3, 1) := by decide +kernel
theorem dX7_ownersBut_60 : decode cX7_ownersBut 60 = .ok (.ireturn, 1) := by decide +kernel
theorem dX7_isNew_0 : decode cX7_isNew 0 = .ok (.iconst 0, 1) := by decide +kernel
theorem dX7_isNew_1 : decode cX7_isNew 1 = .ok (.istore_n 2, 1) := by decide +kernel
theorem dX7_isNew_2 : decode cX7_isNew 2 = .ok (.iconst 0, 1) := by decide +kernel
theorem dX7_isNew_3 : decode cX7_isNew 3 = .ok (.istore_n 3, 1) := by decide +kernel
theorem dX7_isNew_4 : decode cX7_isNew 4 = .ok (.iload_n 3, 1) := by decide +kernel
theorem dX7_isNew_5 : decode cX7_isNew 5 = .ok (.aload_n 0, 1) := by decide +kernel
theorem dX7_isNew_6 : decode cX7_isNew 6 = .ok (.getfield 72, 3) := by decide +kernel
theorem dX7_isNew_9 : decode cX7_isNew 9 = .ok (.if_icmp .ge 54, 3) := by decide +kernel
theorem dX7_isNew_12 : decode cX7_isNew 12 = .ok (.iload_n 2, 1) := by decide +kernel
theorem dX7_isNew_13 : decode cX7_isNew 13 = .ok (.ifCond .ne 38, 3) := by decide +kernel
theorem dX7_isNew_16 : decode cX7_isNew 16 = .ok (.aload_n 0, 1) := by decide +kernel
theorem dX7_isNew_17 : decode cX7_isNew 17 = .ok (.getfield 7, 3) := by decide +kernel
theorem dX7_isNew_20 : decode cX7_isNew 20 = .ok (.sipush 491, 3) := by decide +kernel
theorem dX7_isNew_23 : decode cX7_isNew 23 = .ok (.iload_n 1, 1) := by decide +kernel
theorem dX7_isNew_24 : decode cX7_isNew 24 = .ok (.iadd, 1) := by decide +kernel
theorem dX7_isNew_25 : decode cX7_isNew 25 = .ok (.iaload, 1) := by decide +kernel
theorem dX7_isNew_26 : decode cX7_isNew 26 = .ok (.aload_n 0, 1) := by decide +kernel
theorem dX7_isNew_27 : decode cX7_isNew 27 = .ok (.getfield 32, 3) := by decide +kernel
theorem dX7_isNew_30 : decode cX7_isNew 30 = .ok (.iload_n 3, 1) := by decide +kernel
theorem dX7_isNew_31 : decode cX7_isNew 31 = .ok (.iaload, 1) := by decide +kernel
theorem dX7_isNew_32 : decode cX7_isNew 32 = .ok (.if_icmp .ne 23, 3) := by decide +kernel
theorem dX7_isNew_35 : decode cX7_isNew 35 = .ok (.aload_n 0, 1) := by decide +kernel
theorem dX7_isNew_36 : decode cX7_isNew 36 = .ok (.getfield 13, 3) := by decide +kernel
theorem dX7_isNew_39 : decode cX7_isNew 39 = .ok (.iload_n 1, 1) := by decide +kernel
theorem dX7_isNew_40 : decode cX7_isNew 40 = .ok (.laload, 1) := by decide +kernel
theorem dX7_isNew_41 : decode cX7_isNew 41 = .ok (.aload_n 0, 1) := by decide +kernel
theorem dX7_isNew_42 : decode cX7_isNew 42 = .ok (.getfield 29, 3) := by decide +kernel
theorem dX7_isNew_45 : decode cX7_isNew 45 = .ok (.iload_n 3, 1) := by decide +kernel
theorem dX7_isNew_46 : decode cX7_isNew 46 = .ok (.laload, 1) := by decide +kernel
theorem dX7_isNew_47 : decode cX7_isNew 47 = .ok (.lcmp, 1) := by decide +kernel
theorem dX7_isNew_48 : decode cX7_isNew 48 = .ok (.ifCond .ne 7, 3) := by decide +kernel
theorem dX7_isNew_51 : decode cX7_isNew 51 = .ok (.iconst 1, 1) := by decide +kernel
theorem dX7_isNew_52 : decode cX7_isNew 52 = .ok (.goto 4, 3) := by decide +kernel
theorem dX7_isNew_55 : decode cX7_isNew 55 = .ok (.iconst 0, 1) := by decide +kernel
theorem dX7_isNew_56 : decode cX7_isNew 56 = .ok (.istore_n 2, 1) := by decide +kernel
theorem dX7_isNew_57 : decode cX7_isNew 57 = .ok (.iinc 3 1, 3) := by decide +kernel
theorem dX7_isNew_60 : decode cX7_isNew 60 = .ok (.goto (-56), 3) := by decide +kernel
theorem dX7_isNew_63 : decode cX7_isNew 63 = .ok (.iload_n 2, 1) := by decide +kernel
theorem dX7_isNew_64 : decode cX7_isNew 64 = .ok (.ireturn, 1) := by decide +kernel
theorem dX7_canBeSwept_0 : decode cX7_canBeSwept 0 = .ok (.aload_n 0, 1) := by decide +kernel
theorem dX7_canBeSwept_1 : decode cX7_canBeSwept 1 = .ok (.iload_n 1, 1) := by decide +kernel
theorem dX7_canBeSwept_2 : decode cX7_canBeSwept 2 = .ok (.invokevirtual 82, 3) := by decide +kernel
theorem dX7_canBeSwept_5 : decode cX7_canBeSwept 5 = .ok (.ifCond .eq 24, 3) := by decide +kernel
theorem dX7_canBeSwept_8 : decode cX7_canBeSwept 8 = .ok (.aload_n 0, 1) := by decide +kernel
theorem dX7_canBeSwept_9 : decode cX7_canBeSwept 9 = .ok (.iload_n 1, 1) := by decide +kernel
theorem dX7_canBeSwept_10 : decode cX7_canBeSwept 10 = .ok (.iload_n 2, 1) := by decide +kernel
theorem dX7_canBeSwept_11 : decode cX7_canBeSwept 11 = .ok (.invokevirtual 98, 3) := by decide +kernel
theorem dX7_canBeSwept_14 : decode cX7_canBeSwept 14 = .ok (.ifCond .ne 15, 3) := by decide +kernel
theorem dX7_canBeSwept_17 : decode cX7_canBeSwept 17 = .ok (.aload_n 0, 1) := by decide +kernel
theorem dX7_canBeSwept_18 : decode cX7_canBeSwept 18 = .ok (.iload_n 1, 1) := by decide +kernel
theorem dX7_canBeSwept_19 : decode cX7_canBeSwept 19 = .ok (.invokevirtual 101, 3) := by decide +kernel
theorem dX7_canBeSwept_22 : decode cX7_canBeSwept 22 = .ok (.ifCond .ne 7, 3) := by decide +kernel
theorem dX7_canBeSwept_25 : decode cX7_canBeSwept 25 = .ok (.iconst 1, 1) := by decide +kernel
theorem dX7_canBeSwept_26 : decode cX7_canBeSwept 26 = .ok (.goto 4, 3) := by decide +kernel
theorem dX7_canBeSwept_29 : decode cX7_canBeSwept 29 = .ok (.iconst 0, 1) := by decide +kernel
theorem dX7_canBeSwept_30 : decode cX7_canBeSwept 30 = .ok (.ireturn, 1) := by decide +kernel
theorem dX7_fitsAsItIs_0 : decode cX7_fitsAsItIs 0 = .ok (.aload_n 0, 1) := by decide +kernel
theorem dX7_fitsAsItIs_1 : decode cX7_fitsAsItIs 1 = .ok (.iconst 0, 1) := by decide +kernel
theorem dX7_fitsAsItIs_2 : decode cX7_fitsAsItIs 2 = .ok (.invokevirtual 104, 3) := by decide +kernel
theorem dX7_fitsAsItIs_5 : decode cX7_fitsAsItIs 5 = .ok (.aload_n 0, 1) := by decide +kernel
theorem dX7_fitsAsItIs_6 : decode cX7_fitsAsItIs 6 = .ok (.invokevirtual 108, 3) := by decide +kernel
theorem dX7_fitsAsItIs_9 : decode cX7_fitsAsItIs 9 = .ok (.if_icmp .gt 23, 3) := by decide +kernel
theorem dX7_fitsAsItIs_12 : decode cX7_fitsAsItIs 12 = .ok (.aload_n 0, 1) := by decide +kernel
theorem dX7_fitsAsItIs_13 : decode cX7_fitsAsItIs 13 = .ok (.invokevirtual 112, 3) := by decide +kernel
theorem dX7_fitsAsItIs_16 : decode cX7_fitsAsItIs 16 = .ok (.aload_n 0, 1) := by decide +kernel
theorem dX7_fitsAsItIs_17 : decode cX7_fitsAsItIs 17 = .ok (.iconst 1, 1) := by decide +kernel
theorem dX7_fitsAsItIs_18 : decode cX7_fitsAsItIs 18 = .ok (.invokevirtual 104, 3) := by decide +kernel
theorem dX7_fitsAsItIs_21 : decode cX7_fitsAsItIs 21 = .ok (.iadd, 1) := by decide +kernel
theorem dX7_fitsAsItIs_22 : decode cX7_fitsAsItIs 22 = .ok (.sipush 150, 3) := by decide +kernel
theorem dX7_fitsAsItIs_25 : decode cX7_fitsAsItIs 25 = .ok (.if_icmp .gt 7, 3) := by decide +kernel
theorem dX7_fitsAsItIs_28 : decode cX7_fitsAsItIs 28 = .ok (.iconst 1, 1) := by decide +kernel
theorem dX7_fitsAsItIs_29 : decode cX7_fitsAsItIs 29 = .ok (.goto 4, 3) := by decide +kernel
theorem dX7_fitsAsItIs_32 : decode cX7_fitsAsItIs 32 = .ok (.iconst 0, 1) := by decide +kernel
theorem dX7_fitsAsItIs_33 : decode cX7_fitsAsItIs 33 = .ok (.ireturn, 1) := by decide +kernel
theorem dX7_fitsSwept_0 : decode cX7_fitsSwept 0 = .ok (.aload_n 0, 1) := by decide +kernel
theorem dX7_fitsSwept_1 : decode cX7_fitsSwept 1 = .ok (.invokevirtual 108, 3) := by decide +kernel
theorem dX7_fitsSwept_4 : decode cX7_fitsSwept 4 = .ok (.istore_n 2, 1) := by decide +kernel
theorem dX7_fitsSwept_5 : decode cX7_fitsSwept 5 = .ok (.aload_n 0, 1) := by decide +kernel
theorem dX7_fitsSwept_6 : decode cX7_fitsSwept 6 = .ok (.invokevirtual 112, 3) := by decide +kernel
theorem dX7_fitsSwept_9 : decode cX7_fitsSwept 9 = .ok (.istore_n 3, 1) := by decide +kernel
theorem dX7_fitsSwept_10 : decode cX7_fitsSwept 10 = .ok (.iconst 0, 1) := by decide +kernel
theorem dX7_fitsSwept_11 : decode cX7_fitsSwept 11 = .ok (.istore 4, 2) := by decide +kernel
theorem dX7_fitsSwept_13 : decode cX7_fitsSwept 13 = .ok (.iload 4, 2) := by decide +kernel
theorem dX7_fitsSwept_15 : decode cX7_fitsSwept 15 = .ok (.bipush 60, 2) := by decide +kernel
theorem dX7_fitsSwept_17 : decode cX7_fitsSwept 17 = .ok (.if_icmp .ge 36, 3) := by decide +kernel
theorem dX7_fitsSwept_20 : decode cX7_fitsSwept 20 = .ok (.aload_n 0, 1) := by decide +kernel
theorem dX7_fitsSwept_21 : decode cX7_fitsSwept 21 = .ok (.iload 4, 2) := by decide +kernel
theorem dX7_fitsSwept_23 : decode cX7_fitsSwept 23 = .ok (.iload_n 1, 1) := by decide +kernel
theorem dX7_fitsSwept_24 : decode cX7_fitsSwept 24 = .ok (.invokevirtual 115, 3) := by decide +kernel
theorem dX7_fitsSwept_27 : decode cX7_fitsSwept 27 = .ok (.ifCond .eq 20, 3) := by decide +kernel
theorem dX7_fitsSwept_30 : decode cX7_fitsSwept 30 = .ok (.iinc 2 1, 3) := by decide +kernel
theorem dX7_fitsSwept_33 : decode cX7_fitsSwept 33 = .ok (.iload_n 3, 1) := by decide +kernel
theorem dX7_fitsSwept_34 : decode cX7_fitsSwept 34 = .ok (.aload_n 0, 1) := by decide +kernel
theorem dX7_fitsSwept_35 : decode cX7_fitsSwept 35 = .ok (.getfield 7, 3) := by decide +kernel
theorem dX7_fitsSwept_38 : decode cX7_fitsSwept 38 = .ok (.sipush 491, 3) := by decide +kernel
theorem dX7_fitsSwept_41 : decode cX7_fitsSwept 41 = .ok (.iload 4, 2) := by decide +kernel
theorem dX7_fitsSwept_43 : decode cX7_fitsSwept 43 = .ok (.iadd, 1) := by decide +kernel
theorem dX7_fitsSwept_44 : decode cX7_fitsSwept 44 = .ok (.iaload, 1) := by decide +kernel
theorem dX7_fitsSwept_45 : decode cX7_fitsSwept 45 = .ok (.isub, 1) := by decide +kernel
theorem dX7_fitsSwept_46 : decode cX7_fitsSwept 46 = .ok (.istore_n 3, 1) := by decide +kernel
theorem dX7_fitsSwept_47 : decode cX7_fitsSwept 47 = .ok (.iinc 4 1, 3) := by decide +kernel
theorem dX7_fitsSwept_50 : decode cX7_fitsSwept 50 = .ok (.goto (-37), 3) := by decide +kernel
theorem dX7_fitsSwept_53 : decode cX7_fitsSwept 53 = .ok (.aload_n 0, 1) := by decide +kernel
theorem dX7_fitsSwept_54 : decode cX7_fitsSwept 54 = .ok (.iconst 0, 1) := by decide +kernel
theorem dX7_fitsSwept_55 : decode cX7_fitsSwept 55 = .ok (.invokevirtual 104, 3) := by decide +kernel
theorem dX7_fitsSwept_58 : decode cX7_fitsSwept 58 = .ok (.iload_n 2, 1) := by decide +kernel
theorem dX7_fitsSwept_59 : decode cX7_fitsSwept 59 = .ok (.if_icmp .gt 20, 3) := by decide +kernel
theorem dX7_fitsSwept_62 : decode cX7_fitsSwept 62 = .ok (.iload_n 3, 1) := by decide +kernel
theorem dX7_fitsSwept_63 : decode cX7_fitsSwept 63 = .ok (.aload_n 0, 1) := by decide +kernel
theorem dX7_fitsSwept_64 : decode cX7_fitsSwept 64 = .ok (.iconst 1, 1) := by decide +kernel
theorem dX7_fitsSwept_65 : decode cX7_fitsSwept 65 = .ok (.invokevirtual 104, 3) := by decide +kernel
theorem dX7_fitsSwept_68 : decode cX7_fitsSwept 68 = .ok (.iadd, 1) := by decide +kernel
theorem dX7_fitsSwept_69 : decode cX7_fitsSwept 69 = .ok (.sipush 150, 3) := by decide +kernel
theorem dX7_fitsSwept_72 : decode cX7_fitsSwept 72 = .ok (.if_icmp .gt 7, 3) := by decide +kernel
theorem dX7_fitsSwept_75 : decode cX7_fitsSwept 75 = .ok (.iconst 1, 1) := by decide +kernel
theorem dX7_fitsSwept_76 : decode cX7_fitsSwept 76 = .ok (.goto 4, 3) := by decide +kernel
theorem dX7_fitsSwept_79 : decode cX7_fitsSwept 79 = .ok (.iconst 0, 1) := by decide +kernel
theorem dX7_fitsSwept_80 : decode cX7_fitsSwept 80 = .ok (.ireturn, 1) := by decide +kernel
theorem dX7_isRefused_0 : decode cX7_isRefused 0 = .ok (.aload_n 0, 1) := by decide +kernel
theorem dX7_isRefused_1 : decode cX7_isRefused 1 = .ok (.invokevirtual 118, 3) := by decide +kernel
theorem dX7_isRefused_4 : decode cX7_isRefused 4 = .ok (.ifCond .ne 15, 3) := by decide +kernel
theorem dX7_isRefused_7 : decode cX7_isRefused 7 = .ok (.aload_n 0, 1) := by decide +kernel
theorem dX7_isRefused_8 : decode cX7_isRefused 8 = .ok (.iload_n 1, 1) := by decide +kernel
theorem dX7_isRefused_9 : decode cX7_isRefused 9 = .ok (.invokevirtual 122, 3) := by decide +kernel
theorem dX7_isRefused_12 : decode cX7_isRefused 12 = .ok (.ifCond .ne 7, 3) := by decide +kernel
theorem dX7_isRefused_15 : decode cX7_isRefused 15 = .ok (.iconst 1, 1) := by decide +kernel
theorem dX7_isRefused_16 : decode cX7_isRefused 16 = .ok (.goto 4, 3) := by decide +kernel
theorem dX7_isRefused_19 : decode cX7_isRefused 19 = .ok (.iconst 0, 1) := by decide +kernel
theorem dX7_isRefused_20 : decode cX7_isRefused 20 = .ok (.ireturn, 1) := by decide +kernel
theorem dX7_sweepSlot_0 : decode cX7_sweepSlot 0 = .ok (.aload_n 0, 1) := by decide +kernel
theorem dX7_sweepSlot_1 : decode cX7_sweepSlot 1 = .ok (.getfield 7, 3) := by decide +kernel
theorem dX7_sweepSlot_4 : decode cX7_sweepSlot 4 = .ok (.sipush 491, 3) := by decide +kernel
theorem dX7_sweepSlot_7 : decode cX7_sweepSlot 7 = .ok (.iload_n 1, 1) := by decide +kernel
theorem dX7_sweepSlot_8 : decode cX7_sweepSlot 8 = .ok (.iadd, 1) := by decide +kernel
theorem dX7_sweepSlot_9 : decode cX7_sweepSlot 9 = .ok (.iconst 0, 1) := by decide +kernel
theorem dX7_sweepSlot_10 : decode cX7_sweepSlot 10 = .ok (.iastore, 1) := by decide +kernel
theorem dX7_sweepSlot_11 : decode cX7_sweepSlot 11 = .ok (.aload_n 0, 1) := by decide +kernel
theorem dX7_sweepSlot_12 : decode cX7_sweepSlot 12 = .ok (.getfield 7, 3) := by decide +kernel
theorem dX7_sweepSlot_15 : decode cX7_sweepSlot 15 = .ok (.sipush 551, 3) := by decide +kernel
theorem dX7_sweepSlot_18 : decode cX7_sweepSlot 18 = .ok (.iload_n 1, 1) := by decide +kernel
theorem dX7_sweepSlot_19 : decode cX7_sweepSlot 19 = .ok (.iadd, 1) := by decide +kernel
theorem dX7_sweepSlot_20 : decode cX7_sweepSlot 20 = .ok (.iconst 0, 1) := by decide +kernel
theorem dX7_sweepSlot_21 : decode cX7_sweepSlot 21 = .ok (.iastore, 1) := by decide +kernel
theorem dX7_sweepSlot_22 : decode cX7_sweepSlot 22 = .ok (.aload_n 0, 1) := by decide +kernel
theorem dX7_sweepSlot_23 : decode cX7_sweepSlot 23 = .ok (.getfield 13, 3) := by decide +kernel
theorem dX7_sweepSlot_26 : decode cX7_sweepSlot 26 = .ok (.iload_n 1, 1) := by decide +kernel
theorem dX7_sweepSlot_27 : decode cX7_sweepSlot 27 = .ok (.lconst 0, 1) := by decide +kernel
theorem dX7_sweepSlot_28 : decode cX7_sweepSlot 28 = .ok (.lastore, 1) := by decide +kernel
theorem dX7_sweepSlot_29 : decode cX7_sweepSlot 29 = .ok (.aload_n 0, 1) := by decide +kernel
theorem dX7_sweepSlot_30 : decode cX7_sweepSlot 30 = .ok (.getfield 7, 3) := by decide +kernel
theorem dX7_sweepSlot_33 : decode cX7_sweepSlot 33 = .ok (.bipush 6, 2) := by decide +kernel
theorem dX7_sweepSlot_35 : decode cX7_sweepSlot 35 = .ok (.dup2, 1) := by decide +kernel
theorem dX7_sweepSlot_36 : decode cX7_sweepSlot 36 = .ok (.iaload, 1) := by decide +kernel
theorem dX7_sweepSlot_37 : decode cX7_sweepSlot 37 = .ok (.iconst 1, 1) := by decide +kernel
theorem dX7_sweepSlot_38 : decode cX7_sweepSlot 38 = .ok (.iadd, 1) := by decide +kernel
theorem dX7_sweepSlot_39 : decode cX7_sweepSlot 39 = .ok (.iastore, 1) := by decide +kernel
theorem dX7_sweepSlot_40 : decode cX7_sweepSlot 40 = .ok (.return_, 1) := by decide +kernel
theorem dX7_clearText_0 : decode cX7_clearText 0 = .ok (.iconst 0, 1) := by decide +kernel
theorem dX7_clearText_1 : decode cX7_clearText 1 = .ok (.istore_n 2, 1) := by decide +kernel
theorem dX7_clearText_2 : decode cX7_clearText 2 = .ok (.iload_n 2, 1) := by decide +kernel
theorem dX7_clearText_3 : decode cX7_clearText 3 = .ok (.bipush 60, 2) := by decide +kernel
theorem dX7_clearText_5 : decode cX7_clearText 5 = .ok (.if_icmp .ge 25, 3) := by decide +kernel
theorem dX7_clearText_8 : decode cX7_clearText 8 = .ok (.aload_n 0, 1) := by decide +kernel
theorem dX7_clearText_9 : decode cX7_clearText 9 = .ok (.getfield 7, 3) := by decide +kernel
theorem dX7_clearText_12 : decode cX7_clearText 12 = .ok (.sipush 551, 3) := by decide +kernel
theorem dX7_clearText_15 : decode cX7_clearText 15 = .ok (.iload_n 2, 1) := by decide +kernel
theorem dX7_clearText_16 : decode cX7_clearText 16 = .ok (.iadd, 1) := by decide +kernel
theorem dX7_clearText_17 : decode cX7_clearText 17 = .ok (.aload_n 0, 1) := by decide +kernel
theorem dX7_clearText_18 : decode cX7_clearText 18 = .ok (.iload_n 2, 1) := by decide +kernel
theorem dX7_clearText_19 : decode cX7_clearText 19 = .ok (.iload_n 1, 1) := by decide +kernel
theorem dX7_clearText_20 : decode cX7_clearText 20 = .ok (.invokevirtual 98, 3) := by decide +kernel
theorem dX7_clearText_23 : decode cX7_clearText 23 = .ok (.iastore, 1) := by decide +kernel
theorem dX7_clearText_24 : decode cX7_clearText 24 = .ok (.iinc 2 1, 3) := by decide +kernel
theorem dX7_clearText_27 : decode cX7_clearText 27 = .ok (.goto (-25), 3) := by decide +kernel
theorem dX7_clearText_30 : decode cX7_clearText 30 = .ok (.aload_n 0, 1) := by decide +kernel
theorem dX7_clearText_31 : decode cX7_clearText 31 = .ok (.getfield 7, 3) := by decide +kernel
theorem dX7_clearText_34 : decode cX7_clearText 34 = .ok (.bipush 7, 2) := by decide +kernel
theorem dX7_clearText_36 : decode cX7_clearText 36 = .ok (.iload_n 1, 1) := by decide +kernel
theorem dX7_clearText_37 : decode cX7_clearText 37 = .ok (.iadd, 1) := by decide +kernel
theorem dX7_clearText_38 : decode cX7_clearText 38 = .ok (.iconst 0, 1) := by decide +kernel
theorem dX7_clearText_39 : decode cX7_clearText 39 = .ok (.iastore, 1) := by decide +kernel
theorem dX7_clearText_40 : decode cX7_clearText 40 = .ok (.iconst 0, 1) := by decide +kernel
theorem dX7_clearText_41 : decode cX7_clearText 41 = .ok (.istore_n 2, 1) := by decide +kernel
theorem dX7_clearText_42 : decode cX7_clearText 42 = .ok (.iload_n 2, 1) := by decide +kernel
theorem dX7_clearText_43 : decode cX7_clearText 43 = .ok (.bipush 40, 2) := by decide +kernel
theorem dX7_clearText_45 : decode cX7_clearText 45 = .ok (.if_icmp .ge 56, 3) := by decide +kernel
theorem dX7_clearText_48 : decode cX7_clearText 48 = .ok (.aload_n 0, 1) := by decide +kernel
theorem dX7_clearText_49 : decode cX7_clearText 49 = .ok (.getfield 7, 3) := by decide +kernel
theorem dX7_clearText_52 : decode cX7_clearText 52 = .ok (.bipush 11, 2) := by decide +kernel
theorem dX7_clearText_54 : decode cX7_clearText 54 = .ok (.bipush 40, 2) := by decide +kernel
theorem dX7_clearText_56 : decode cX7_clearText 56 = .ok (.iload_n 1, 1) := by decide +kernel
theorem dX7_clearText_57 : decode cX7_clearText 57 = .ok (.imul, 1) := by decide +kernel
theorem dX7_clearText_58 : decode cX7_clearText 58 = .ok (.iadd, 1) := by decide +kernel
theorem dX7_clearText_59 : decode cX7_clearText 59 = .ok (.iload_n 2, 1) := by decide +kernel
theorem dX7_clearText_60 : decode cX7_clearText 60 = .ok (.iadd, 1) := by decide +kernel
theorem dX7_clearText_61 : decode cX7_clearText 61 = .ok (.iconst 0, 1) := by decide +kernel
theorem dX7_clearText_62 : decode cX7_clearText 62 = .ok (.iastore, 1) := by decide +kernel
theorem dX7_clearText_63 : decode cX7_clearText 63 = .ok (.aload_n 0, 1) := by decide +kernel
theorem dX7_clearText_64 : decode cX7_clearText 64 = .ok (.getfield 7, 3) := by decide +kernel
theorem dX7_clearText_67 : decode cX7_clearText 67 = .ok (.sipush 171, 3) := by decide +kernel
theorem dX7_clearText_70 : decode cX7_clearText 70 = .ok (.bipush 40, 2) := by decide +kernel
theorem dX7_clearText_72 : decode cX7_clearText 72 = .ok (.iload_n 1, 1) := by decide +kernel
theorem dX7_clearText_73 : decode cX7_clearText 73 = .ok (.imul, 1) := by decide +kernel
theorem dX7_clearText_74 : decode cX7_clearText 74 = .ok (.iadd, 1) := by decide +kernel
theorem dX7_clearText_75 : decode cX7_clearText 75 = .ok (.iload_n 2, 1) := by decide +kernel
theorem dX7_clearText_76 : decode cX7_clearText 76 = .ok (.iadd, 1) := by decide +kernel
theorem dX7_clearText_77 : decode cX7_clearText 77 = .ok (.iconst 0, 1) := by decide +kernel
theorem dX7_clearText_78 : decode cX7_clearText 78 = .ok (.iastore, 1) := by decide +kernel
theorem dX7_clearText_79 : decode cX7_clearText 79 = .ok (.aload_n 0, 1) := by decide +kernel
theorem dX7_clearText_80 : decode cX7_clearText 80 = .ok (.getfield 7, 3) := by decide +kernel
theorem dX7_clearText_83 : decode cX7_clearText 83 = .ok (.sipush 331, 3) := by decide +kernel
theorem dX7_clearText_86 : decode cX7_clearText 86 = .ok (.bipush 40, 2) := by decide +kernel
theorem dX7_clearText_88 : decode cX7_clearText 88 = .ok (.iload_n 1, 1) := by decide +kernel
theorem dX7_clearText_89 : decode cX7_clearText 89 = .ok (.imul, 1) := by decide +kernel
theorem dX7_clearText_90 : decode cX7_clearText 90 = .ok (.iadd, 1) := by decide +kernel
theorem dX7_clearText_91 : decode cX7_clearText 91 = .ok (.iload_n 2, 1) := by decide +kernel
theorem dX7_clearText_92 : decode cX7_clearText 92 = .ok (.iadd, 1) := by decide +kernel
theorem dX7_clearText_93 : decode cX7_clearText 93 = .ok (.iconst 0, 1) := by decide +kernel
theorem dX7_clearText_94 : decode cX7_clearText 94 = .ok (.iastore, 1) := by decide +kernel
theorem dX7_clearText_95 : decode cX7_clearText 95 = .ok (.iinc 2 1, 3) := by decide +kernel
theorem dX7_clearText_98 : decode cX7_clearText 98 = .ok (.goto (-56), 3) := by decide +kernel
theorem dX7_clearText_101 : decode cX7_clearText 101 = .ok (.return_, 1) := by decide +kernel
theorem dX7_lowestFree_0 : decode cX7_lowestFree 0 = .ok (.iconst 0, 1) := by decide +kernel
theorem dX7_lowestFree_1 : decode cX7_lowestFree 1 = .ok (.istore_n 1, 1) := by decide +kernel
theorem dX7_lowestFree_2 : decode cX7_lowestFree 2 = .ok (.aload_n 0, 1) := by decide +kernel
theorem dX7_lowestFree_3 : decode cX7_lowestFree 3 = .ok (.iload_n 1, 1) := by decide +kernel
theorem dX7_lowestFree_4 : decode cX7_lowestFree 4 = .ok (.invokevirtual 82, 3) := by decide +kernel
theorem dX7_lowestFree_7 : decode cX7_lowestFree 7 = .ok (.ifCond .eq 9, 3) := by decide +kernel
theorem dX7_lowestFree_10 : decode cX7_lowestFree 10 = .ok (.iinc 1 1, 3) := by decide +kernel
theorem dX7_lowestFree_13 : decode cX7_lowestFree 13 = .ok (.goto (-11), 3) := by decide +kernel
theorem dX7_lowestFree_16 : decode cX7_lowestFree 16 = .ok (.iload_n 1, 1) := by decide +kernel
theorem dX7_lowestFree_17 : decode cX7_lowestFree 17 = .ok (.ireturn, 1) := by decide +kernel
theorem dX7_comes_0 : decode cX7_comes 0 = .ok (.aload_n 0, 1) := by decide +kernel
theorem dX7_comes_1 : decode cX7_comes 1 = .ok (.iload_n 1, 1) := by decide +kernel
theorem dX7_comes_2 : decode cX7_comes 2 = .ok (.invokevirtual 89, 3) := by decide +kernel
theorem dX7_comes_5 : decode cX7_comes 5 = .ok (.istore_n 2, 1) := by decide +kernel
theorem dX7_comes_6 : decode cX7_comes 6 = .ok (.iload_n 2, 1) := by decide +kernel
theorem dX7_comes_7 : decode cX7_comes 7 = .ok (.iconst (-1), 1) := by decide +kernel
theorem dX7_comes_8 : decode cX7_comes 8 = .ok (.if_icmp .ne 46, 3) := by decide +kernel
theorem dX7_comes_11 : decode cX7_comes 11 = .ok (.aload_n 0, 1) := by decide +kernel
theorem dX7_comes_12 : decode cX7_comes 12 = .ok (.invokevirtual 125, 3) := by decide +kernel
theorem dX7_comes_15 : decode cX7_comes 15 = .ok (.istore_n 2, 1) := by decide +kernel
theorem dX7_comes_16 : decode cX7_comes 16 = .ok (.aload_n 0, 1) := by decide +kernel
theorem dX7_comes_17 : decode cX7_comes 17 = .ok (.getfield 7, 3) := by decide +kernel
theorem dX7_comes_20 : decode cX7_comes 20 = .ok (.sipush 491, 3) := by decide +kernel
theorem dX7_comes_23 : decode cX7_comes 23 = .ok (.iload_n 2, 1) := by decide +kernel
theorem dX7_comes_24 : decode cX7_comes 24 = .ok (.iadd, 1) := by decide +kernel
theorem dX7_comes_25 : decode cX7_comes 25 = .ok (.aload_n 0, 1) := by decide +kernel
theorem dX7_comes_26 : decode cX7_comes 26 = .ok (.getfield 32, 3) := by decide +kernel
theorem dX7_comes_29 : decode cX7_comes 29 = .ok (.iload_n 1, 1) := by decide +kernel
theorem dX7_comes_30 : decode cX7_comes 30 = .ok (.iaload, 1) := by decide +kernel
theorem dX7_comes_31 : decode cX7_comes 31 = .ok (.iastore, 1) := by decide +kernel
theorem dX7_comes_32 : decode cX7_comes 32 = .ok (.aload_n 0, 1) := by decide +kernel
theorem dX7_comes_33 : decode cX7_comes 33 = .ok (.getfield 13, 3) := by decide +kernel
theorem dX7_comes_36 : decode cX7_comes 36 = .ok (.iload_n 2, 1) := by decide +kernel
theorem dX7_comes_37 : decode cX7_comes 37 = .ok (.aload_n 0, 1) := by decide +kernel
theorem dX7_comes_38 : decode cX7_comes 38 = .ok (.getfield 29, 3) := by decide +kernel
theorem dX7_comes_41 : decode cX7_comes 41 = .ok (.iload_n 1, 1) := by decide +kernel
theorem dX7_comes_42 : decode cX7_comes 42 = .ok (.laload, 1) := by decide +kernel
theorem dX7_comes_43 : decode cX7_comes 43 = .ok (.lastore, 1) := by decide +kernel
theorem dX7_comes_44 : decode cX7_comes 44 = .ok (.aload_n 0, 1) := by decide +kernel
theorem dX7_comes_45 : decode cX7_comes 45 = .ok (.getfield 7, 3) := by decide +kernel
theorem dX7_comes_48 : decode cX7_comes 48 = .ok (.iconst 5, 1) := by decide +kernel
theorem dX7_comes_49 : decode cX7_comes 49 = .ok (.dup2, 1) := by decide +kernel
theorem dX7_comes_50 : decode cX7_comes 50 = .ok (.iaload, 1) := by decide +kernel
theorem dX7_comes_51 : decode cX7_comes 51 = .ok (.iconst 1, 1) := by decide +kernel
theorem dX7_comes_52 : decode cX7_comes 52 = .ok (.iadd, 1) := by decide +kernel
theorem dX7_comes_53 : decode cX7_comes 53 = .ok (.iastore, 1) := by decide +kernel
theorem dX7_comes_54 : decode cX7_comes 54 = .ok (.aload_n 0, 1) := by decide +kernel
theorem dX7_comes_55 : decode cX7_comes 55 = .ok (.getfield 7, 3) := by decide +kernel
theorem dX7_comes_58 : decode cX7_comes 58 = .ok (.sipush 551, 3) := by decide +kernel
theorem dX7_comes_61 : decode cX7_comes 61 = .ok (.iload_n 2, 1) := by decide +kernel
theorem dX7_comes_62 : decode cX7_comes 62 = .ok (.iadd, 1) := by decide +kernel
theorem dX7_comes_63 : decode cX7_comes 63 = .ok (.dup2, 1) := by decide +kernel
theorem dX7_comes_64 : decode cX7_comes 64 = .ok (.iaload, 1) := by decide +kernel
theorem dX7_comes_65 : decode cX7_comes 65 = .ok (.iconst 1, 1) := by decide +kernel
theorem dX7_comes_66 : decode cX7_comes 66 = .ok (.iadd, 1) := by decide +kernel
theorem dX7_comes_67 : decode cX7_comes 67 = .ok (.iastore, 1) := by decide +kernel
theorem dX7_comes_68 : decode cX7_comes 68 = .ok (.iload_n 2, 1) := by decide +kernel
theorem dX7_comes_69 : decode cX7_comes 69 = .ok (.ireturn, 1) := by decide +kernel
theorem dX7_lay_0 : decode cX7_lay 0 = .ok (.aload_n 0, 1) := by decide +kernel
theorem dX7_lay_1 : decode cX7_lay 1 = .ok (.invokevirtual 118, 3) := by decide +kernel
theorem dX7_lay_4 : decode cX7_lay 4 = .ok (.ifCond .ne 7, 3) := by decide +kernel
theorem dX7_lay_7 : decode cX7_lay 7 = .ok (.iconst 1, 1) := by decide +kernel
theorem dX7_lay_8 : decode cX7_lay 8 = .ok (.goto 4, 3) := by decide +kernel
theorem dX7_lay_11 : decode cX7_lay 11 = .ok (.iconst 0, 1) := by decide +kernel
theorem dX7_lay_12 : decode cX7_lay 12 = .ok (.istore_n 2, 1) := by decide +kernel
theorem dX7_lay_13 : decode cX7_lay 13 = .ok (.aload_n 0, 1) := by decide +kernel
theorem dX7_lay_14 : decode cX7_lay 14 = .ok (.iload_n 1, 1) := by decide +kernel
theorem dX7_lay_15 : decode cX7_lay 15 = .ok (.invokevirtual 128, 3) := by decide +kernel
theorem dX7_lay_18 : decode cX7_lay 18 = .ok (.iconst 0, 1) := by decide +kernel
theorem dX7_lay_19 : decode cX7_lay 19 = .ok (.istore_n 3, 1) := by decide +kernel
theorem dX7_lay_20 : decode cX7_lay 20 = .ok (.iload_n 3, 1) := by decide +kernel
theorem dX7_lay_21 : decode cX7_lay 21 = .ok (.bipush 60, 2) := by decide +kernel
theorem dX7_lay_23 : decode cX7_lay 23 = .ok (.if_icmp .ge 27, 3) := by decide +kernel
theorem dX7_lay_26 : decode cX7_lay 26 = .ok (.iload_n 2, 1) := by decide +kernel
theorem dX7_lay_27 : decode cX7_lay 27 = .ok (.ifCond .eq 23, 3) := by decide +kernel
theorem dX7_lay_30 : decode cX7_lay 30 = .ok (.aload_n 0, 1) := by decide +kernel
theorem dX7_lay_31 : decode cX7_lay 31 = .ok (.iload_n 3, 1) := by decide +kernel
theorem dX7_lay_32 : decode cX7_lay 32 = .ok (.iload_n 1, 1) := by decide +kernel
theorem dX7_lay_33 : decode cX7_lay 33 = .ok (.invokevirtual 115, 3) := by decide +kernel
theorem dX7_lay_36 : decode cX7_lay 36 = .ok (.ifCond .eq 8, 3) := by decide +kernel
theorem dX7_lay_39 : decode cX7_lay 39 = .ok (.aload_n 0, 1) := by decide +kernel
theorem dX7_lay_40 : decode cX7_lay 40 = .ok (.iload_n 3, 1) := by decide +kernel
theorem dX7_lay_41 : decode cX7_lay 41 = .ok (.invokevirtual 132, 3) := by decide +kernel
theorem dX7_lay_44 : decode cX7_lay 44 = .ok (.iinc 3 1, 3) := by decide +kernel

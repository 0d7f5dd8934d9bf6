theorem dX7_held_120 : decode cX7_held 120 = .ok (.lload 14, 2) := by decide +kernel
theorem dX7_held_122 : decode cX7_held 122 = .ok (.lstore 12, 2) := by decide +kernel
theorem dX7_held_124 : decode cX7_held 124 = .ok (.lload 23, 2) := by decide +kernel
theorem dX7_held_126 : decode cX7_held 126 = .ok (.lstore 14, 2) := by decide +kernel
theorem dX7_held_128 : decode cX7_held 128 = .ok (.iload 16, 2) := by decide +kernel
theorem dX7_held_130 : decode cX7_held 130 = .ok (.ineg, 1) := by decide +kernel
theorem dX7_held_131 : decode cX7_held 131 = .ok (.istore 16, 2) := by decide +kernel
theorem dX7_held_133 : decode cX7_held 133 = .ok (.goto (-116), 3) := by decide +kernel
theorem dX7_keepRound_0 : decode cX7_keepRound 0 = .ok (.aload_n 0, 1) := by decide +kernel
theorem dX7_keepRound_1 : decode cX7_keepRound 1 = .ok (.dup, 1) := by decide +kernel
theorem dX7_keepRound_2 : decode cX7_keepRound 2 = .ok (.getfield 114, 3) := by decide +kernel
theorem dX7_keepRound_5 : decode cX7_keepRound 5 = .ok (.iconst 1, 1) := by decide +kernel
theorem dX7_keepRound_6 : decode cX7_keepRound 6 = .ok (.iadd, 1) := by decide +kernel
theorem dX7_keepRound_7 : decode cX7_keepRound 7 = .ok (.putfield 114, 3) := by decide +kernel
theorem dX7_keepRound_10 : decode cX7_keepRound 10 = .ok (.aload_n 0, 1) := by decide +kernel
theorem dX7_keepRound_11 : decode cX7_keepRound 11 = .ok (.getfield 59, 3) := by decide +kernel
theorem dX7_keepRound_14 : decode cX7_keepRound 14 = .ok (.iload_n 1, 1) := by decide +kernel
theorem dX7_keepRound_15 : decode cX7_keepRound 15 = .ok (.laload, 1) := by decide +kernel
theorem dX7_keepRound_16 : decode cX7_keepRound 16 = .ok (.aload_n 0, 1) := by decide +kernel
theorem dX7_keepRound_17 : decode cX7_keepRound 17 = .ok (.getfield 62, 3) := by decide +kernel
theorem dX7_keepRound_20 : decode cX7_keepRound 20 = .ok (.iload_n 1, 1) := by decide +kernel
theorem dX7_keepRound_21 : decode cX7_keepRound 21 = .ok (.laload, 1) := by decide +kernel
theorem dX7_keepRound_22 : decode cX7_keepRound 22 = .ok (.lcmp, 1) := by decide +kernel
theorem dX7_keepRound_23 : decode cX7_keepRound 23 = .ok (.ifCond .le 116, 3) := by decide +kernel
theorem dX7_keepRound_26 : decode cX7_keepRound 26 = .ok (.aload_n 0, 1) := by decide +kernel
theorem dX7_keepRound_27 : decode cX7_keepRound 27 = .ok (.getfield 40, 3) := by decide +kernel
theorem dX7_keepRound_30 : decode cX7_keepRound 30 = .ok (.aload_n 0, 1) := by decide +kernel
theorem dX7_keepRound_31 : decode cX7_keepRound 31 = .ok (.getfield 117, 3) := by decide +kernel
theorem dX7_keepRound_34 : decode cX7_keepRound 34 = .ok (.iload_n 1, 1) := by decide +kernel
theorem dX7_keepRound_35 : decode cX7_keepRound 35 = .ok (.iastore, 1) := by decide +kernel
theorem dX7_keepRound_36 : decode cX7_keepRound 36 = .ok (.aload_n 0, 1) := by decide +kernel
theorem dX7_keepRound_37 : decode cX7_keepRound 37 = .ok (.getfield 43, 3) := by decide +kernel
theorem dX7_keepRound_40 : decode cX7_keepRound 40 = .ok (.aload_n 0, 1) := by decide +kernel
theorem dX7_keepRound_41 : decode cX7_keepRound 41 = .ok (.getfield 117, 3) := by decide +kernel
theorem dX7_keepRound_44 : decode cX7_keepRound 44 = .ok (.iconst 0, 1) := by decide +kernel
theorem dX7_keepRound_45 : decode cX7_keepRound 45 = .ok (.iastore, 1) := by decide +kernel
theorem dX7_keepRound_46 : decode cX7_keepRound 46 = .ok (.iconst 0, 1) := by decide +kernel
theorem dX7_keepRound_47 : decode cX7_keepRound 47 = .ok (.istore_n 2, 1) := by decide +kernel
theorem dX7_keepRound_48 : decode cX7_keepRound 48 = .ok (.iload_n 2, 1) := by decide +kernel
theorem dX7_keepRound_49 : decode cX7_keepRound 49 = .ok (.iload_n 1, 1) := by decide +kernel
theorem dX7_keepRound_50 : decode cX7_keepRound 50 = .ok (.if_icmp .ge 49, 3) := by decide +kernel
theorem dX7_keepRound_53 : decode cX7_keepRound 53 = .ok (.aload_n 0, 1) := by decide +kernel
theorem dX7_keepRound_54 : decode cX7_keepRound 54 = .ok (.getfield 46, 3) := by decide +kernel
theorem dX7_keepRound_57 : decode cX7_keepRound 57 = .ok (.bipush 8, 2) := by decide +kernel
theorem dX7_keepRound_59 : decode cX7_keepRound 59 = .ok (.aload_n 0, 1) := by decide +kernel
theorem dX7_keepRound_60 : decode cX7_keepRound 60 = .ok (.getfield 117, 3) := by decide +kernel
theorem dX7_keepRound_63 : decode cX7_keepRound 63 = .ok (.imul, 1) := by decide +kernel
theorem dX7_keepRound_64 : decode cX7_keepRound 64 = .ok (.iload_n 2, 1) := by decide +kernel
theorem dX7_keepRound_65 : decode cX7_keepRound 65 = .ok (.iadd, 1) := by decide +kernel
theorem dX7_keepRound_66 : decode cX7_keepRound 66 = .ok (.aload_n 0, 1) := by decide +kernel
theorem dX7_keepRound_67 : decode cX7_keepRound 67 = .ok (.getfield 56, 3) := by decide +kernel
theorem dX7_keepRound_70 : decode cX7_keepRound 70 = .ok (.iload_n 2, 1) := by decide +kernel
theorem dX7_keepRound_71 : decode cX7_keepRound 71 = .ok (.iaload, 1) := by decide +kernel
theorem dX7_keepRound_72 : decode cX7_keepRound 72 = .ok (.iastore, 1) := by decide +kernel
theorem dX7_keepRound_73 : decode cX7_keepRound 73 = .ok (.aload_n 0, 1) := by decide +kernel
theorem dX7_keepRound_74 : decode cX7_keepRound 74 = .ok (.getfield 43, 3) := by decide +kernel
theorem dX7_keepRound_77 : decode cX7_keepRound 77 = .ok (.aload_n 0, 1) := by decide +kernel
theorem dX7_keepRound_78 : decode cX7_keepRound 78 = .ok (.getfield 117, 3) := by decide +kernel
theorem dX7_keepRound_81 : decode cX7_keepRound 81 = .ok (.dup2, 1) := by decide +kernel
theorem dX7_keepRound_82 : decode cX7_keepRound 82 = .ok (.iaload, 1) := by decide +kernel
theorem dX7_keepRound_83 : decode cX7_keepRound 83 = .ok (.iconst 1, 1) := by decide +kernel
theorem dX7_keepRound_84 : decode cX7_keepRound 84 = .ok (.aload_n 0, 1) := by decide +kernel
theorem dX7_keepRound_85 : decode cX7_keepRound 85 = .ok (.getfield 56, 3) := by decide +kernel
theorem dX7_keepRound_88 : decode cX7_keepRound 88 = .ok (.iload_n 2, 1) := by decide +kernel
theorem dX7_keepRound_89 : decode cX7_keepRound 89 = .ok (.iaload, 1) := by decide +kernel
theorem dX7_keepRound_90 : decode cX7_keepRound 90 = .ok (.ishl, 1) := by decide +kernel
theorem dX7_keepRound_91 : decode cX7_keepRound 91 = .ok (.ior, 1) := by decide +kernel
theorem dX7_keepRound_92 : decode cX7_keepRound 92 = .ok (.iastore, 1) := by decide +kernel
theorem dX7_keepRound_93 : decode cX7_keepRound 93 = .ok (.iinc 2 1, 3) := by decide +kernel
theorem dX7_keepRound_96 : decode cX7_keepRound 96 = .ok (.goto (-48), 3) := by decide +kernel
theorem dX7_keepRound_99 : decode cX7_keepRound 99 = .ok (.aload_n 0, 1) := by decide +kernel
theorem dX7_keepRound_100 : decode cX7_keepRound 100 = .ok (.getfield 49, 3) := by decide +kernel
theorem dX7_keepRound_103 : decode cX7_keepRound 103 = .ok (.aload_n 0, 1) := by decide +kernel
theorem dX7_keepRound_104 : decode cX7_keepRound 104 = .ok (.getfield 117, 3) := by decide +kernel
theorem dX7_keepRound_107 : decode cX7_keepRound 107 = .ok (.aload_n 0, 1) := by decide +kernel
theorem dX7_keepRound_108 : decode cX7_keepRound 108 = .ok (.getfield 59, 3) := by decide +kernel
theorem dX7_keepRound_111 : decode cX7_keepRound 111 = .ok (.iload_n 1, 1) := by decide +kernel
theorem dX7_keepRound_112 : decode cX7_keepRound 112 = .ok (.laload, 1) := by decide +kernel
theorem dX7_keepRound_113 : decode cX7_keepRound 113 = .ok (.lastore, 1) := by decide +kernel
theorem dX7_keepRound_114 : decode cX7_keepRound 114 = .ok (.aload_n 0, 1) := by decide +kernel
theorem dX7_keepRound_115 : decode cX7_keepRound 115 = .ok (.getfield 53, 3) := by decide +kernel
theorem dX7_keepRound_118 : decode cX7_keepRound 118 = .ok (.aload_n 0, 1) := by decide +kernel
theorem dX7_keepRound_119 : decode cX7_keepRound 119 = .ok (.getfield 117, 3) := by decide +kernel
theorem dX7_keepRound_122 : decode cX7_keepRound 122 = .ok (.aload_n 0, 1) := by decide +kernel
theorem dX7_keepRound_123 : decode cX7_keepRound 123 = .ok (.getfield 62, 3) := by decide +kernel
theorem dX7_keepRound_126 : decode cX7_keepRound 126 = .ok (.iload_n 1, 1) := by decide +kernel
theorem dX7_keepRound_127 : decode cX7_keepRound 127 = .ok (.laload, 1) := by decide +kernel
theorem dX7_keepRound_128 : decode cX7_keepRound 128 = .ok (.lastore, 1) := by decide +kernel
theorem dX7_keepRound_129 : decode cX7_keepRound 129 = .ok (.aload_n 0, 1) := by decide +kernel
theorem dX7_keepRound_130 : decode cX7_keepRound 130 = .ok (.dup, 1) := by decide +kernel
theorem dX7_keepRound_131 : decode cX7_keepRound 131 = .ok (.getfield 117, 3) := by decide +kernel
theorem dX7_keepRound_134 : decode cX7_keepRound 134 = .ok (.iconst 1, 1) := by decide +kernel
theorem dX7_keepRound_135 : decode cX7_keepRound 135 = .ok (.iadd, 1) := by decide +kernel
theorem dX7_keepRound_136 : decode cX7_keepRound 136 = .ok (.putfield 117, 3) := by decide +kernel
theorem dX7_keepRound_139 : decode cX7_keepRound 139 = .ok (.return_, 1) := by decide +kernel
theorem dX7_layRounds_0 : decode cX7_layRounds 0 = .ok (.aload_n 0, 1) := by decide +kernel
theorem dX7_layRounds_1 : decode cX7_layRounds 1 = .ok (.iconst 0, 1) := by decide +kernel
theorem dX7_layRounds_2 : decode cX7_layRounds 2 = .ok (.putfield 114, 3) := by decide +kernel
theorem dX7_layRounds_5 : decode cX7_layRounds 5 = .ok (.aload_n 0, 1) := by decide +kernel
theorem dX7_layRounds_6 : decode cX7_layRounds 6 = .ok (.iconst 0, 1) := by decide +kernel
theorem dX7_layRounds_7 : decode cX7_layRounds 7 = .ok (.putfield 117, 3) := by decide +kernel
theorem dX7_layRounds_10 : decode cX7_layRounds 10 = .ok (.aload_n 0, 1) := by decide +kernel
theorem dX7_layRounds_11 : decode cX7_layRounds 11 = .ok (.getfield 59, 3) := by decide +kernel
theorem dX7_layRounds_14 : decode cX7_layRounds 14 = .ok (.iconst 0, 1) := by decide +kernel
theorem dX7_layRounds_15 : decode cX7_layRounds 15 = .ok (.lconst 1, 1) := by decide +kernel
theorem dX7_layRounds_16 : decode cX7_layRounds 16 = .ok (.lastore, 1) := by decide +kernel
theorem dX7_layRounds_17 : decode cX7_layRounds 17 = .ok (.aload_n 0, 1) := by decide +kernel
theorem dX7_layRounds_18 : decode cX7_layRounds 18 = .ok (.getfield 62, 3) := by decide +kernel
theorem dX7_layRounds_21 : decode cX7_layRounds 21 = .ok (.iconst 0, 1) := by decide +kernel
theorem dX7_layRounds_22 : decode cX7_layRounds 22 = .ok (.lconst 1, 1) := by decide +kernel
theorem dX7_layRounds_23 : decode cX7_layRounds 23 = .ok (.lastore, 1) := by decide +kernel
theorem dX7_layRounds_24 : decode cX7_layRounds 24 = .ok (.iconst 0, 1) := by decide +kernel
theorem dX7_layRounds_25 : decode cX7_layRounds 25 = .ok (.istore_n 2, 1) := by decide +kernel
theorem dX7_layRounds_26 : decode cX7_layRounds 26 = .ok (.iload_n 2, 1) := by decide +kernel
theorem dX7_layRounds_27 : decode cX7_layRounds 27 = .ok (.bipush 8, 2) := by decide +kernel
theorem dX7_layRounds_29 : decode cX7_layRounds 29 = .ok (.if_icmp .ge 335, 3) := by decide +kernel
theorem dX7_layRounds_32 : decode cX7_layRounds 32 = .ok (.iconst 0, 1) := by decide +kernel
theorem dX7_layRounds_33 : decode cX7_layRounds 33 = .ok (.istore_n 3, 1) := by decide +kernel
theorem dX7_layRounds_34 : decode cX7_layRounds 34 = .ok (.iconst 1, 1) := by decide +kernel
theorem dX7_layRounds_35 : decode cX7_layRounds 35 = .ok (.iload_n 2, 1) := by decide +kernel
theorem dX7_layRounds_36 : decode cX7_layRounds 36 = .ok (.ishl, 1) := by decide +kernel
theorem dX7_layRounds_37 : decode cX7_layRounds 37 = .ok (.istore 4, 2) := by decide +kernel
theorem dX7_layRounds_39 : decode cX7_layRounds 39 = .ok (.iload_n 2, 1) := by decide +kernel
theorem dX7_layRounds_40 : decode cX7_layRounds 40 = .ok (.istore 5, 2) := by decide +kernel
theorem dX7_layRounds_42 : decode cX7_layRounds 42 = .ok (.iconst 0, 1) := by decide +kernel
theorem dX7_layRounds_43 : decode cX7_layRounds 43 = .ok (.istore 6, 2) := by decide +kernel
theorem dX7_layRounds_45 : decode cX7_layRounds 45 = .ok (.iconst 1, 1) := by decide +kernel
theorem dX7_layRounds_46 : decode cX7_layRounds 46 = .ok (.istore 7, 2) := by decide +kernel
theorem dX7_layRounds_48 : decode cX7_layRounds 48 = .ok (.iload 7, 2) := by decide +kernel
theorem dX7_layRounds_50 : decode cX7_layRounds 50 = .ok (.ifCond .eq 308, 3) := by decide +kernel
theorem dX7_layRounds_53 : decode cX7_layRounds 53 = .ok (.iload 6, 2) := by decide +kernel
theorem dX7_layRounds_55 : decode cX7_layRounds 55 = .ok (.aload_n 0, 1) := by decide +kernel
theorem dX7_layRounds_56 : decode cX7_layRounds 56 = .ok (.getfield 81, 3) := by decide +kernel
theorem dX7_layRounds_59 : decode cX7_layRounds 59 = .ok (.if_icmp .ne 88, 3) := by decide +kernel
theorem dX7_layRounds_62 : decode cX7_layRounds 62 = .ok (.iload_n 3, 1) := by decide +kernel
theorem dX7_layRounds_63 : decode cX7_layRounds 63 = .ok (.ifCond .le 7, 3) := by decide +kernel
theorem dX7_layRounds_66 : decode cX7_layRounds 66 = .ok (.iconst 1, 1) := by decide +kernel
theorem dX7_layRounds_67 : decode cX7_layRounds 67 = .ok (.goto 4, 3) := by decide +kernel
theorem dX7_layRounds_70 : decode cX7_layRounds 70 = .ok (.iconst 0, 1) := by decide +kernel
theorem dX7_layRounds_71 : decode cX7_layRounds 71 = .ok (.istore 7, 2) := by decide +kernel
theorem dX7_layRounds_73 : decode cX7_layRounds 73 = .ok (.iload 7, 2) := by decide +kernel
theorem dX7_layRounds_75 : decode cX7_layRounds 75 = .ok (.ifCond .eq (-27), 3) := by decide +kernel
theorem dX7_layRounds_78 : decode cX7_layRounds 78 = .ok (.iinc 3 (-1), 3) := by decide +kernel
theorem dX7_layRounds_81 : decode cX7_layRounds 81 = .ok (.aload_n 0, 1) := by decide +kernel
theorem dX7_layRounds_82 : decode cX7_layRounds 82 = .ok (.getfield 56, 3) := by decide +kernel
theorem dX7_layRounds_85 : decode cX7_layRounds 85 = .ok (.iload_n 3, 1) := by decide +kernel
theorem dX7_layRounds_86 : decode cX7_layRounds 86 = .ok (.iaload, 1) := by decide +kernel
theorem dX7_layRounds_87 : decode cX7_layRounds 87 = .ok (.iconst 1, 1) := by decide +kernel
theorem dX7_layRounds_88 : decode cX7_layRounds 88 = .ok (.iadd, 1) := by decide +kernel
theorem dX7_layRounds_89 : decode cX7_layRounds 89 = .ok (.istore 6, 2) := by decide +kernel
theorem dX7_layRounds_91 : decode cX7_layRounds 91 = .ok (.aload_n 0, 1) := by decide +kernel
theorem dX7_layRounds_92 : decode cX7_layRounds 92 = .ok (.getfield 7, 3) := by decide +kernel
theorem dX7_layRounds_95 : decode cX7_layRounds 95 = .ok (.aload_n 0, 1) := by decide +kernel
theorem dX7_layRounds_96 : decode cX7_layRounds 96 = .ok (.getfield 56, 3) := by decide +kernel
theorem dX7_layRounds_99 : decode cX7_layRounds 99 = .ok (.iload_n 3, 1) := by decide +kernel
theorem dX7_layRounds_100 : decode cX7_layRounds 100 = .ok (.iaload, 1) := by decide +kernel
theorem dX7_layRounds_101 : decode cX7_layRounds 101 = .ok (.iaload, 1) := by decide +kernel
theorem dX7_layRounds_102 : decode cX7_layRounds 102 = .ok (.istore 5, 2) := by decide +kernel
theorem dX7_layRounds_104 : decode cX7_layRounds 104 = .ok (.aload_n 0, 1) := by decide +kernel
theorem dX7_layRounds_105 : decode cX7_layRounds 105 = .ok (.getfield 16, 3) := by decide +kernel
theorem dX7_layRounds_108 : decode cX7_layRounds 108 = .ok (.aload_n 0, 1) := by decide +kernel
theorem dX7_layRounds_109 : decode cX7_layRounds 109 = .ok (.getfield 56, 3) := by decide +kernel
theorem dX7_layRounds_112 : decode cX7_layRounds 112 = .ok (.iload_n 3, 1) := by decide +kernel
theorem dX7_layRounds_113 : decode cX7_layRounds 113 = .ok (.iaload, 1) := by decide +kernel
theorem dX7_layRounds_114 : decode cX7_layRounds 114 = .ok (.iaload, 1) := by decide +kernel
theorem dX7_layRounds_115 : decode cX7_layRounds 115 = .ok (.iload_n 2, 1) := by decide +kernel
theorem dX7_layRounds_116 : decode cX7_layRounds 116 = .ok (.if_icmp .ne 8, 3) := by decide +kernel
theorem dX7_layRounds_119 : decode cX7_layRounds 119 = .ok (.iload 4, 2) := by decide +kernel
theorem dX7_layRounds_121 : decode cX7_layRounds 121 = .ok (.goto 21, 3) := by decide +kernel
theorem dX7_layRounds_124 : decode cX7_layRounds 124 = .ok (.iload 4, 2) := by decide +kernel
theorem dX7_layRounds_126 : decode cX7_layRounds 126 = .ok (.iconst 1, 1) := by decide +kernel
theorem dX7_layRounds_127 : decode cX7_layRounds 127 = .ok (.aload_n 0, 1) := by decide +kernel
theorem dX7_layRounds_128 : decode cX7_layRounds 128 = .ok (.getfield 16, 3) := by decide +kernel
theorem dX7_layRounds_131 : decode cX7_layRounds 131 = .ok (.aload_n 0, 1) := by decide +kernel
theorem dX7_layRounds_132 : decode cX7_layRounds 132 = .ok (.getfield 56, 3) := by decide +kernel
theorem dX7_layRounds_135 : decode cX7_layRounds 135 = .ok (.iload_n 3, 1) := by decide +kernel
theorem dX7_layRounds_136 : decode cX7_layRounds 136 = .ok (.iaload, 1) := by decide +kernel
theorem dX7_layRounds_137 : decode cX7_layRounds 137 = .ok (.iaload, 1) := by decide +kernel
theorem dX7_layRounds_138 : decode cX7_layRounds 138 = .ok (.ishl, 1) := by decide +kernel
theorem dX7_layRounds_139 : decode cX7_layRounds 139 = .ok (.iconst (-1), 1) := by decide +kernel
theorem dX7_layRounds_140 : decode cX7_layRounds 140 = .ok (.ixor, 1) := by decide +kernel
theorem dX7_layRounds_141 : decode cX7_layRounds 141 = .ok (.iand, 1) := by decide +kernel
theorem dX7_layRounds_142 : decode cX7_layRounds 142 = .ok (.istore 4, 2) := by decide +kernel
theorem dX7_layRounds_144 : decode cX7_layRounds 144 = .ok (.goto (-96), 3) := by decide +kernel
theorem dX7_layRounds_147 : decode cX7_layRounds 147 = .ok (.aload_n 0, 1) := by decide +kernel
theorem dX7_layRounds_148 : decode cX7_layRounds 148 = .ok (.getfield 7, 3) := by decide +kernel
theorem dX7_layRounds_151 : decode cX7_layRounds 151 = .ok (.iload 6, 2) := by decide +kernel
theorem dX7_layRounds_153 : decode cX7_layRounds 153 = .ok (.iaload, 1) := by decide +kernel
theorem dX7_layRounds_154 : decode cX7_layRounds 154 = .ok (.iload 5, 2) := by decide +kernel
theorem dX7_layRounds_156 : decode cX7_layRounds 156 = .ok (.if_icmp .ne 25, 3) := by decide +kernel
theorem dX7_layRounds_159 : decode cX7_layRounds 159 = .ok (.iload_n 1, 1) := by decide +kernel
theorem dX7_layRounds_160 : decode cX7_layRounds 160 = .ok (.iload 6, 2) := by decide +kernel
theorem dX7_layRounds_162 : decode cX7_layRounds 162 = .ok (.ishr, 1) := by decide +kernel
theorem dX7_layRounds_163 : decode cX7_layRounds 163 = .ok (.iconst 1, 1) := by decide +kernel
theorem dX7_layRounds_164 : decode cX7_layRounds 164 = .ok (.iand, 1) := by decide +kernel
theorem dX7_layRounds_165 : decode cX7_layRounds 165 = .ok (.ifCond .ne 16, 3) := by decide +kernel
theorem dX7_layRounds_168 : decode cX7_layRounds 168 = .ok (.aload_n 0, 1) := by decide +kernel
theorem dX7_layRounds_169 : decode cX7_layRounds 169 = .ok (.iload 6, 2) := by decide +kernel
theorem dX7_layRounds_171 : decode cX7_layRounds 171 = .ok (.invokevirtual 97, 3) := by decide +kernel
theorem dX7_layRounds_174 : decode cX7_layRounds 174 = .ok (.ifCond .eq 7, 3) := by decide +kernel
theorem dX7_layRounds_177 : decode cX7_layRounds 177 = .ok (.iconst 1, 1) := by decide +kernel
theorem dX7_layRounds_178 : decode cX7_layRounds 178 = .ok (.goto 4, 3) := by decide +kernel
theorem dX7_layRounds_181 : decode cX7_layRounds 181 = .ok (.iconst 0, 1) := by decide +kernel
theorem dX7_layRounds_182 : decode cX7_layRounds 182 = .ok (.istore 8, 2) := by decide +kernel
theorem dX7_layRounds_184 : decode cX7_layRounds 184 = .ok (.iload 8, 2) := by decide +kernel
theorem dX7_layRounds_186 : decode cX7_layRounds 186 = .ok (.ifCond .eq 18, 3) := by decide +kernel
theorem dX7_layRounds_189 : decode cX7_layRounds 189 = .ok (.aload_n 0, 1) := by decide +kernel
theorem dX7_layRounds_190 : decode cX7_layRounds 190 = .ok (.getfield 16, 3) := by decide +kernel
theorem dX7_layRounds_193 : decode cX7_layRounds 193 = .ok (.iload 6, 2) := by decide +kernel
theorem dX7_layRounds_195 : decode cX7_layRounds 195 = .ok (.iaload, 1) := by decide +kernel
theorem dX7_layRounds_196 : decode cX7_layRounds 196 = .ok (.iload_n 2, 1) := by decide +kernel
theorem dX7_layRounds_197 : decode cX7_layRounds 197 = .ok (.if_icmp .ne 7, 3) := by decide +kernel
theorem dX7_layRounds_200 : decode cX7_layRounds 200 = .ok (.iconst 1, 1) := by decide +kernel
theorem dX7_layRounds_201 : decode cX7_layRounds 201 = .ok (.goto 4, 3) := by decide +kernel
theorem dX7_layRounds_204 : decode cX7_layRounds 204 = .ok (.iconst 0, 1) := by decide +kernel
theorem dX7_layRounds_205 : decode cX7_layRounds 205 = .ok (.istore 9, 2) := by decide +kernel
theorem dX7_layRounds_207 : decode cX7_layRounds 207 = .ok (.iload 8, 2) := by decide +kernel
theorem dX7_layRounds_209 : decode cX7_layRounds 209 = .ok (.ifCond .eq 33, 3) := by decide +kernel
theorem dX7_layRounds_212 : decode cX7_layRounds 212 = .ok (.aload_n 0, 1) := by decide +kernel
theorem dX7_layRounds_213 : decode cX7_layRounds 213 = .ok (.getfield 16, 3) := by decide +kernel
theorem dX7_layRounds_216 : decode cX7_layRounds 216 = .ok (.iload 6, 2) := by decide +kernel
theorem dX7_layRounds_218 : decode cX7_layRounds 218 = .ok (.iaload, 1) := by decide +kernel
theorem dX7_layRounds_219 : decode cX7_layRounds 219 = .ok (.iload_n 2, 1) := by decide +kernel
theorem dX7_layRounds_220 : decode cX7_layRounds 220 = .ok (.if_icmp .le 22, 3) := by decide +kernel
theorem dX7_layRounds_223 : decode cX7_layRounds 223 = .ok (.iload 4, 2) := by decide +kernel
theorem dX7_layRounds_225 : decode cX7_layRounds 225 = .ok (.aload_n 0, 1) := by decide +kernel
theorem dX7_layRounds_226 : decode cX7_layRounds 226 = .ok (.getfield 16, 3) := by decide +kernel
theorem dX7_layRounds_229 : decode cX7_layRounds 229 = .ok (.iload 6, 2) := by decide +kernel
theorem dX7_layRounds_231 : decode cX7_layRounds 231 = .ok (.iaload, 1) := by decide +kernel
theorem dX7_layRounds_232 : decode cX7_layRounds 232 = .ok (.ishr, 1) := by decide +kernel
theorem dX7_layRounds_233 : decode cX7_layRounds 233 = .ok (.iconst 1, 1) := by decide +kernel
theorem dX7_layRounds_234 : decode cX7_layRounds 234 = .ok (.iand, 1) := by decide +kernel
theorem dX7_layRounds_235 : decode cX7_layRounds 235 = .ok (.ifCond .ne 7, 3) := by decide +kernel
theorem dX7_layRounds_238 : decode cX7_layRounds 238 = .ok (.iconst 1, 1) := by decide +kernel
theorem dX7_layRounds_239 : decode cX7_layRounds 239 = .ok (.goto 4, 3) := by decide +kernel
theorem dX7_layRounds_242 : decode cX7_layRounds 242 = .ok (.iconst 0, 1) := by decide +kernel
theorem dX7_layRounds_243 : decode cX7_layRounds 243 = .ok (.istore 10, 2) := by decide +kernel
theorem dX7_layRounds_245 : decode cX7_layRounds 245 = .ok (.iload 9, 2) := by decide +kernel
theorem dX7_layRounds_247 : decode cX7_layRounds 247 = .ok (.ifCond .ne 8, 3) := by decide +kernel
theorem dX7_layRounds_250 : decode cX7_layRounds 250 = .ok (.iload 10, 2) := by decide +kernel
theorem dX7_layRounds_252 : decode cX7_layRounds 252 = .ok (.ifCond .eq 56, 3) := by decide +kernel
theorem dX7_layRounds_255 : decode cX7_layRounds 255 = .ok (.aload_n 0, 1) := by decide +kernel
theorem dX7_layRounds_256 : decode cX7_layRounds 256 = .ok (.getfield 56, 3) := by decide +kernel
theorem dX7_layRounds_259 : decode cX7_layRounds 259 = .ok (.iload_n 3, 1) := by decide +kernel
theorem dX7_layRounds_260 : decode cX7_layRounds 260 = .ok (.iload 6, 2) := by decide +kernel
theorem dX7_layRounds_262 : decode cX7_layRounds 262 = .ok (.iastore, 1) := by decide +kernel
theorem dX7_layRounds_263 : decode cX7_layRounds 263 = .ok (.aload_n 0, 1) := by decide +kernel
theorem dX7_layRounds_264 : decode cX7_layRounds 264 = .ok (.getfield 59, 3) := by decide +kernel
theorem dX7_layRounds_267 : decode cX7_layRounds 267 = .ok (.iload_n 3, 1) := by decide +kernel
theorem dX7_layRounds_268 : decode cX7_layRounds 268 = .ok (.iconst 1, 1) := by decide +kernel
theorem dX7_layRounds_269 : decode cX7_layRounds 269 = .ok (.iadd, 1) := by decide +kernel
theorem dX7_layRounds_270 : decode cX7_layRounds 270 = .ok (.aload_n 0, 1) := by decide +kernel
theorem dX7_layRounds_271 : decode cX7_layRounds 271 = .ok (.getfield 59, 3) := by decide +kernel
theorem dX7_layRounds_274 : decode cX7_layRounds 274 = .ok (.iload_n 3, 1) := by decide +kernel
theorem dX7_layRounds_275 : decode cX7_layRounds 275 = .ok (.laload, 1) := by decide +kernel
theorem dX7_layRounds_276 : decode cX7_layRounds 276 = .ok (.aload_n 0, 1) := by decide +kernel
theorem dX7_layRounds_277 : decode cX7_layRounds 277 = .ok (.iload 6, 2) := by decide +kernel
theorem dX7_layRounds_279 : decode cX7_layRounds 279 = .ok (.invokevirtual 100, 3) := by decide +kernel
theorem dX7_layRounds_282 : decode cX7_layRounds 282 = .ok (.i2l, 1) := by decide +kernel
theorem dX7_layRounds_283 : decode cX7_layRounds 283 = .ok (.lmul, 1) := by decide +kernel
theorem dX7_layRounds_284 : decode cX7_layRounds 284 = .ok (.lastore, 1) := by decide +kernel
theorem dX7_layRounds_285 : decode cX7_layRounds 285 = .ok (.aload_n 0, 1) := by decide +kernel
theorem dX7_layRounds_286 : decode cX7_layRounds 286 = .ok (.getfield 62, 3) := by decide +kernel
theorem dX7_layRounds_289 : decode cX7_layRounds 289 = .ok (.iload_n 3, 1) := by decide +kernel
theorem dX7_layRounds_290 : decode cX7_layRounds 290 = .ok (.iconst 1, 1) := by decide +kernel
theorem dX7_layRounds_291 : decode cX7_layRounds 291 = .ok (.iadd, 1) := by decide +kernel
theorem dX7_layRounds_292 : decode cX7_layRounds 292 = .ok (.aload_n 0, 1) := by decide +kernel
theorem dX7_layRounds_293 : decode cX7_layRounds 293 = .ok (.getfield 62, 3) := by decide +kernel
theorem dX7_layRounds_296 : decode cX7_layRounds 296 = .ok (.iload_n 3, 1) := by decide +kernel
theorem dX7_layRounds_297 : decode cX7_layRounds 297 = .ok (.laload, 1) := by decide +kernel
theorem dX7_layRounds_298 : decode cX7_layRounds 298 = .ok (.aload_n 0, 1) := by decide +kernel
theorem dX7_layRounds_299 : decode cX7_layRounds 299 = .ok (.getfield 13, 3) := by decide +kernel
theorem dX7_layRounds_302 : decode cX7_layRounds 302 = .ok (.iload 6, 2) := by decide +kernel
theorem dX7_layRounds_304 : decode cX7_layRounds 304 = .ok (.iaload, 1) := by decide +kernel
theorem dX7_layRounds_305 : decode cX7_layRounds 305 = .ok (.i2l, 1) := by decide +kernel
theorem dX7_layRounds_306 : decode cX7_layRounds 306 = .ok (.lmul, 1) := by decide +kernel
theorem dX7_layRounds_307 : decode cX7_layRounds 307 = .ok (.lastore, 1) := by decide +kernel
theorem dX7_layRounds_308 : decode cX7_layRounds 308 = .ok (.iload 9, 2) := by decide +kernel
theorem dX7_layRounds_310 : decode cX7_layRounds 310 = .ok (.ifCond .eq 10, 3) := by decide +kernel
theorem dX7_layRounds_313 : decode cX7_layRounds 313 = .ok (.aload_n 0, 1) := by decide +kernel
theorem dX7_layRounds_314 : decode cX7_layRounds 314 = .ok (.iload_n 3, 1) := by decide +kernel
theorem dX7_layRounds_315 : decode cX7_layRounds 315 = .ok (.iconst 1, 1) := by decide +kernel
theorem dX7_layRounds_316 : decode cX7_layRounds 316 = .ok (.iadd, 1) := by decide +kernel
theorem dX7_layRounds_317 : decode cX7_layRounds 317 = .ok (.invokevirtual 120, 3) := by decide +kernel
theorem dX7_layRounds_320 : decode cX7_layRounds 320 = .ok (.iload 10, 2) := by decide +kernel
theorem dX7_layRounds_322 : decode cX7_layRounds 322 = .ok (.ifCond .eq 30, 3) := by decide +kernel
theorem dX7_layRounds_325 : decode cX7_layRounds 325 = .ok (.aload_n 0, 1) := by decide +kernel
theorem dX7_layRounds_326 : decode cX7_layRounds 326 = .ok (.getfield 16, 3) := by decide +kernel
theorem dX7_layRounds_329 : decode cX7_layRounds 329 = .ok (.iload 6, 2) := by decide +kernel
theorem dX7_layRounds_331 : decode cX7_layRounds 331 = .ok (.iaload, 1) := by decide +kernel
theorem dX7_layRounds_332 : decode cX7_layRounds 332 = .ok (.istore 5, 2) := by decide +kernel
theorem dX7_layRounds_334 : decode cX7_layRounds 334 = .ok (.iload 4, 2) := by decide +kernel
theorem dX7_layRounds_336 : decode cX7_layRounds 336 = .ok (.iconst 1, 1) := by decide +kernel
theorem dX7_layRounds_337 : decode cX7_layRounds 337 = .ok (.iload 5, 2) := by decide +kernel
theorem dX7_layRounds_339 : decode cX7_layRounds 339 = .ok (.ishl, 1) := by decide +kernel
theorem dX7_layRounds_340 : decode cX7_layRounds 340 = .ok (.ior, 1) := by decide +kernel
theorem dX7_layRounds_341 : decode cX7_layRounds 341 = .ok (.istore 4, 2) := by decide +kernel
theorem dX7_layRounds_343 : decode cX7_layRounds 343 = .ok (.iinc 3 1, 3) := by decide +kernel
theorem dX7_layRounds_346 : decode cX7_layRounds 346 = .ok (.iconst 0, 1) := by decide +kernel
theorem dX7_layRounds_347 : decode cX7_layRounds 347 = .ok (.istore 6, 2) := by decide +kernel
theorem dX7_layRounds_349 : decode cX7_layRounds 349 = .ok (.goto 6, 3) := by decide +kernel
theorem dX7_layRounds_352 : decode cX7_layRounds 352 = .ok (.iinc 6 1, 3) := by decide +kernel
theorem dX7_layRounds_355 : decode cX7_layRounds 355 = .ok (.goto (-307), 3) := by decide +kernel
theorem dX7_layRounds_358 : decode cX7_layRounds 358 = .ok (.iinc 2 1, 3) := by decide +kernel
theorem dX7_layRounds_361 : decode cX7_layRounds 361 = .ok (.goto (-335), 3) := by decide +kernel
theorem dX7_layRounds_364 : decode cX7_layRounds 364 = .ok (.return_, 1) := by decide +kernel
theorem dX7_rounds_0 : decode cX7_rounds 0 = .ok (.iload_n 1, 1) := by decide +kernel
theorem dX7_rounds_1 : decode cX7_rounds 1 = .ok (.iconst 0, 1) := by decide +kernel
theorem dX7_rounds_2 : decode cX7_rounds 2 = .ok (.iconst 1, 1) := by decide +kernel
theorem dX7_rounds_3 : decode cX7_rounds 3 = .ok (.invokestatic 77, 3) := by decide +kernel
theorem dX7_rounds_6 : decode cX7_rounds 6 = .ok (.ifCond .ne 6, 3) := by decide +kernel
theorem dX7_rounds_9 : decode cX7_rounds 9 = .ok (.bipush (-2), 2) := by decide +kernel
theorem dX7_rounds_11 : decode cX7_rounds 11 = .ok (.ireturn, 1) := by decide +kernel
theorem dX7_rounds_12 : decode cX7_rounds 12 = .ok (.aload_n 0, 1) := by decide +kernel
theorem dX7_rounds_13 : decode cX7_rounds 13 = .ok (.iconst 0, 1) := by decide +kernel
theorem dX7_rounds_14 : decode cX7_rounds 14 = .ok (.invokevirtual 124, 3) := by decide +kernel
theorem dX7_rounds_17 : decode cX7_rounds 17 = .ok (.iload_n 1, 1) := by decide +kernel
theorem dX7_rounds_18 : decode cX7_rounds 18 = .ok (.ifCond .ne 10, 3) := by decide +kernel
theorem dX7_rounds_21 : decode cX7_rounds 21 = .ok (.aload_n 0, 1) := by decide +kernel
theorem dX7_rounds_22 : decode cX7_rounds 22 = .ok (.getfield 114, 3) := by decide +kernel
theorem dX7_rounds_25 : decode cX7_rounds 25 = .ok (.goto 7, 3) := by decide +kernel
theorem dX7_rounds_28 : decode cX7_rounds 28 = .ok (.aload_n 0, 1) := by decide +kernel
theorem dX7_rounds_29 : decode cX7_rounds 29 = .ok (.getfield 117, 3) := by decide +kernel
theorem dX7_rounds_32 : decode cX7_rounds 32 = .ok (.ireturn, 1) := by decide +kernel
theorem dX7_round_0 : decode cX7_round 0 = .ok (.aload_n 0, 1) := by decide +kernel
theorem dX7_round_1 : decode cX7_round 1 = .ok (.iconst 0, 1) := by decide +kernel
theorem dX7_round_2 : decode cX7_round 2 = .ok (.invokevirtual 124, 3) := by decide +kernel
theorem dX7_round_5 : decode cX7_round 5 = .ok (.iload_n 1, 1) := by decide +kernel
theorem dX7_round_6 : decode cX7_round 6 = .ok (.iconst 0, 1) := by decide +kernel
theorem dX7_round_7 : decode cX7_round 7 = .ok (.aload_n 0, 1) := by decide +kernel
theorem dX7_round_8 : decode cX7_round 8 = .ok (.getfield 117, 3) := by decide +kernel
theorem dX7_round_11 : decode cX7_round 11 = .ok (.iconst 1, 1) := by decide +kernel
theorem dX7_round_12 : decode cX7_round 12 = .ok (.isub, 1) := by decide +kernel
theorem dX7_round_13 : decode cX7_round 13 = .ok (.invokestatic 77, 3) := by decide +kernel
theorem dX7_round_16 : decode cX7_round 16 = .ok (.ifCond .ne 5, 3) := by decide +kernel
theorem dX7_round_19 : decode cX7_round 19 = .ok (.iconst (-1), 1) := by decide +kernel
theorem dX7_round_20 : decode cX7_round 20 = .ok (.ireturn, 1) := by decide +kernel
theorem dX7_round_21 : decode cX7_round 21 = .ok (.iload_n 2, 1) := by decide +kernel
theorem dX7_round_22 : decode cX7_round 22 = .ok (.iconst (-1), 1) := by decide +kernel
theorem dX7_round_23 : decode cX7_round 23 = .ok (.if_icmp .ne 12, 3) := by decide +kernel
theorem dX7_round_26 : decode cX7_round 26 = .ok (.aload_n 0, 1) := by decide +kernel
theorem dX7_round_27 : decode cX7_round 27 = .ok (.getfield 40, 3) := by decide +kernel
theorem dX7_round_30 : decode cX7_round 30 = .ok (.iload_n 1, 1) := by decide +kernel
theorem dX7_round_31 : decode cX7_round 31 = .ok (.iaload, 1) := by decide +kernel
theorem dX7_round_32 : decode cX7_round 32 = .ok (.goto 35, 3) := by decide +kernel
theorem dX7_round_35 : decode cX7_round 35 = .ok (.iload_n 2, 1) := by decide +kernel
theorem dX7_round_36 : decode cX7_round 36 = .ok (.iconst 0, 1) := by decide +kernel
theorem dX7_round_37 : decode cX7_round 37 = .ok (.aload_n 0, 1) := by decide +kernel
theorem dX7_round_38 : decode cX7_round 38 = .ok (.getfield 40, 3) := by decide +kernel
theorem dX7_round_41 : decode cX7_round 41 = .ok (.iload_n 1, 1) := by decide +kernel
theorem dX7_round_42 : decode cX7_round 42 = .ok (.iaload, 1) := by decide +kernel
theorem dX7_round_43 : decode cX7_round 43 = .ok (.iconst 1, 1) := by decide +kernel
theorem dX7_round_44 : decode cX7_round 44 = .ok (.isub, 1) := by decide +kernel
theorem dX7_round_45 : decode cX7_round 45 = .ok (.invokestatic 77, 3) := by decide +kernel
theorem dX7_round_48 : decode cX7_round 48 = .ok (.ifCond .eq 17, 3) := by decide +kernel
theorem dX7_round_51 : decode cX7_round 51 = .ok (.aload_n 0, 1) := by decide +kernel
theorem dX7_round_52 : decode cX7_round 52 = .ok (.getfield 46, 3) := by decide +kernel
theorem dX7_round_55 : decode cX7_round 55 = .ok (.bipush 8, 2) := by decide +kernel
theorem dX7_round_57 : decode cX7_round 57 = .ok (.iload_n 1, 1) := by decide +kernel
theorem dX7_round_58 : decode cX7_round 58 = .ok (.imul, 1) := by decide +kernel
theorem dX7_round_59 : decode cX7_round 59 = .ok (.iload_n 2, 1) := by decide +kernel
theorem dX7_round_60 : decode cX7_round 60 = .ok (.iadd, 1) := by decide +kernel
theorem dX7_round_61 : decode cX7_round 61 = .ok (.iaload, 1) := by decide +kernel
theorem dX7_round_62 : decode cX7_round 62 = .ok (.goto 5, 3) := by decide +kernel
theorem dX7_round_65 : decode cX7_round 65 = .ok (.bipush (-6), 2) := by decide +kernel
theorem dX7_round_67 : decode cX7_round 67 = .ok (.ireturn, 1) := by decide +kernel
theorem dX7_term_0 : decode cX7_term 0 = .ok (.lload_n 0, 1) := by decide +kernel
theorem dX7_term_1 : decode cX7_term 1 = .ok (.lstore 5, 2) := by decide +kernel
theorem dX7_term_3 : decode cX7_term 3 = .ok (.lload_n 2, 1) := by decide +kernel
theorem dX7_term_4 : decode cX7_term 4 = .ok (.lstore 7, 2) := by decide +kernel
theorem dX7_term_6 : decode cX7_term 6 = .ok (.lload 7, 2) := by decide +kernel
theorem dX7_term_8 : decode cX7_term 8 = .ok (.lconst 0, 1) := by decide +kernel
theorem dX7_term_9 : decode cX7_term 9 = .ok (.lcmp, 1) := by decide +kernel
theorem dX7_term_10 : decode cX7_term 10 = .ok (.ifCond .eq 21, 3) := by decide +kernel
theorem dX7_term_13 : decode cX7_term 13 = .ok (.lload 5, 2) := by decide +kernel
theorem dX7_term_15 : decode cX7_term 15 = .ok (.lload 7, 2) := by decide +kernel
theorem dX7_term_17 : decode cX7_term 17 = .ok (.lrem, 1) := by decide +kernel
theorem dX7_term_18 : decode cX7_term 18 = .ok (.lstore 9, 2) := by decide +kernel
theorem dX7_term_20 : decode cX7_term 20 = .ok (.lload 7, 2) := by decide +kernel
theorem dX7_term_22 : decode cX7_term 22 = .ok (.lstore 5, 2) := by decide +kernel
theorem dX7_term_24 : decode cX7_term 24 = .ok (.lload 9, 2) := by decide +kernel
theorem dX7_term_26 : decode cX7_term 26 = .ok (.lstore 7, 2) := by decide +kernel
theorem dX7_term_28 : decode cX7_term 28 = .ok (.goto (-22), 3) := by decide +kernel
theorem dX7_term_31 : decode cX7_term 31 = .ok (.iload 4, 2) := by decide +kernel
theorem dX7_term_33 : decode cX7_term 33 = .ok (.ifCond .ne 10, 3) := by decide +kernel
theorem dX7_term_36 : decode cX7_term 36 = .ok (.lload_n 0, 1) := by decide +kernel
theorem dX7_term_37 : decode cX7_term 37 = .ok (.lload 5, 2) := by decide +kernel
theorem dX7_term_39 : decode cX7_term 39 = .ok (.ldiv, 1) := by decide +kernel
theorem dX7_term_40 : decode cX7_term 40 = .ok (.goto 7, 3) := by decide +kernel
theorem dX7_term_43 : decode cX7_term 43 = .ok (.lload_n 2, 1) := by decide +kernel
theorem dX7_term_44 : decode cX7_term 44 = .ok (.lload 5, 2) := by decide +kernel
theorem dX7_term_46 : decode cX7_term 46 = .ok (.ldiv, 1) := by decide +kernel
theorem dX7_term_47 : decode cX7_term 47 = .ok (.lreturn, 1) := by decide +kernel
theorem dX7_product_0 : decode cX7_product 0 = .ok (.aload_n 0, 1) := by decide +kernel
theorem dX7_product_1 : decode cX7_product 1 = .ok (.iconst 0, 1) := by decide +kernel
theorem dX7_product_2 : decode cX7_product 2 = .ok (.invokevirtual 124, 3) := by decide +kernel
theorem dX7_product_5 : decode cX7_product 5 = .ok (.iload_n 1, 1) := by decide +kernel
theorem dX7_product_6 : decode cX7_product 6 = .ok (.iconst 0, 1) := by decide +kernel
theorem dX7_product_7 : decode cX7_product 7 = .ok (.aload_n 0, 1) := by decide +kernel
theorem dX7_product_8 : decode cX7_product 8 = .ok (.getfield 117, 3) := by decide +kernel
theorem dX7_product_11 : decode cX7_product 11 = .ok (.iconst 1, 1) := by decide +kernel
theorem dX7_product_12 : decode cX7_product 12 = .ok (.isub, 1) := by decide +kernel
theorem dX7_product_13 : decode cX7_product 13 = .ok (.invokestatic 77, 3) := by decide +kernel
theorem dX7_product_16 : decode cX7_product 16 = .ok (.ifCond .ne 7, 3) := by decide +kernel
theorem dX7_product_19 : decode cX7_product 19 = .ok (.ldc2_w 127, 3) := by decide +kernel
theorem dX7_product_22 : decode cX7_product 22 = .ok (.lreturn, 1) := by decide +kernel
theorem dX7_product_23 : decode cX7_product 23 = .ok (.iload_n 2, 1) := by decide +kernel
theorem dX7_product_24 : decode cX7_product 24 = .ok (.iconst 0, 1) := by decide +kernel
theorem dX7_product_25 : decode cX7_product 25 = .ok (.iconst 1, 1) := by decide +kernel
theorem dX7_product_26 : decode cX7_product 26 = .ok (.invokestatic 77, 3) := by decide +kernel
theorem dX7_product_29 : decode cX7_product 29 = .ok (.ifCond .eq 22, 3) := by decide +kernel
theorem dX7_product_32 : decode cX7_product 32 = .ok (.aload_n 0, 1) := by decide +kernel
theorem dX7_product_33 : decode cX7_product 33 = .ok (.getfield 49, 3) := by decide +kernel
theorem dX7_product_36 : decode cX7_product 36 = .ok (.iload_n 1, 1) := by decide +kernel
theorem dX7_product_37 : decode cX7_product 37 = .ok (.laload, 1) := by decide +kernel
theorem dX7_product_38 : decode cX7_product 38 = .ok (.aload_n 0, 1) := by decide +kernel
theorem dX7_product_39 : decode cX7_product 39 = .ok (.getfield 53, 3) := by decide +kernel
theorem dX7_product_42 : decode cX7_product 42 = .ok (.iload_n 1, 1) := by decide +kernel
theorem dX7_product_43 : decode cX7_product 43 = .ok (.laload, 1) := by decide +kernel
theorem dX7_product_44 : decode cX7_product 44 = .ok (.iload_n 2, 1) := by decide +kernel
theorem dX7_product_45 : decode cX7_product 45 = .ok (.invokestatic 129, 3) := by decide +kernel
theorem dX7_product_48 : decode cX7_product 48 = .ok (.goto 6, 3) := by decide +kernel
theorem dX7_product_51 : decode cX7_product 51 = .ok (.ldc2_w 133, 3) := by decide +kernel
theorem dX7_product_54 : decode cX7_product 54 = .ok (.lreturn, 1) := by decide +kernel
theorem dX7_mostOf_0 : decode cX7_mostOf 0 = .ok (.bipush (-6), 2) := by decide +kernel
theorem dX7_mostOf_2 : decode cX7_mostOf 2 = .ok (.istore_n 1, 1) := by decide +kernel
theorem dX7_mostOf_3 : decode cX7_mostOf 3 = .ok (.iconst 0, 1) := by decide +kernel
theorem dX7_mostOf_4 : decode cX7_mostOf 4 = .ok (.istore_n 2, 1) := by decide +kernel
theorem dX7_mostOf_5 : decode cX7_mostOf 5 = .ok (.iload_n 2, 1) := by decide +kernel
theorem dX7_mostOf_6 : decode cX7_mostOf 6 = .ok (.aload_n 0, 1) := by decide +kernel
theorem dX7_mostOf_7 : decode cX7_mostOf 7 = .ok (.getfield 117, 3) := by decide +kernel
theorem dX7_mostOf_10 : decode cX7_mostOf 10 = .ok (.if_icmp .ge 49, 3) := by decide +kernel
theorem dX7_mostOf_13 : decode cX7_mostOf 13 = .ok (.iload_n 1, 1) := by decide +kernel
theorem dX7_mostOf_14 : decode cX7_mostOf 14 = .ok (.ifCond .lt 33, 3) := by decide +kernel
theorem dX7_mostOf_17 : decode cX7_mostOf 17 = .ok (.aload_n 0, 1) := by decide +kernel
theorem dX7_mostOf_18 : decode cX7_mostOf 18 = .ok (.getfield 49, 3) := by decide +kernel
theorem dX7_mostOf_21 : decode cX7_mostOf 21 = .ok (.iload_n 2, 1) := by decide +kernel
theorem dX7_mostOf_22 : decode cX7_mostOf 22 = .ok (.laload, 1) := by decide +kernel
theorem dX7_mostOf_23 : decode cX7_mostOf 23 = .ok (.aload_n 0, 1) := by decide +kernel
theorem dX7_mostOf_24 : decode cX7_mostOf 24 = .ok (.getfield 53, 3) := by decide +kernel
theorem dX7_mostOf_27 : decode cX7_mostOf 27 = .ok (.iload_n 2, 1) := by decide +kernel
theorem dX7_mostOf_28 : decode cX7_mostOf 28 = .ok (.laload, 1) := by decide +kernel
theorem dX7_mostOf_29 : decode cX7_mostOf 29 = .ok (.aload_n 0, 1) := by decide +kernel
theorem dX7_mostOf_30 : decode cX7_mostOf 30 = .ok (.getfield 49, 3) := by decide +kernel
theorem dX7_mostOf_33 : decode cX7_mostOf 33 = .ok (.iload_n 1, 1) := by decide +kernel
theorem dX7_mostOf_34 : decode cX7_mostOf 34 = .ok (.laload, 1) := by decide +kernel
theorem dX7_mostOf_35 : decode cX7_mostOf 35 = .ok (.aload_n 0, 1) := by decide +kernel
theorem dX7_mostOf_36 : decode cX7_mostOf 36 = .ok (.getfield 53, 3) := by decide +kernel
theorem dX7_mostOf_39 : decode cX7_mostOf 39 = .ok (.iload_n 1, 1) := by decide +kernel
theorem dX7_mostOf_40 : decode cX7_mostOf 40 = .ok (.laload, 1) := by decide +kernel
theorem dX7_mostOf_41 : decode cX7_mostOf 41 = .ok (.invokestatic 135, 3) := by decide +kernel
theorem dX7_mostOf_44 : decode cX7_mostOf 44 = .ok (.ifCond .le 7, 3) := by decide +kernel
theorem dX7_mostOf_47 : decode cX7_mostOf 47 = .ok (.iload_n 2, 1) := by decide +kernel
theorem dX7_mostOf_48 : decode cX7_mostOf 48 = .ok (.goto 4, 3) := by decide +kernel
theorem dX7_mostOf_51 : decode cX7_mostOf 51 = .ok (.iload_n 1, 1) := by decide +kernel
theorem dX7_mostOf_52 : decode cX7_mostOf 52 = .ok (.istore_n 1, 1) := by decide +kernel
theorem dX7_mostOf_53 : decode cX7_mostOf 53 = .ok (.iinc 2 1, 3) := by decide +kernel
theorem dX7_mostOf_56 : decode cX7_mostOf 56 = .ok (.goto (-51), 3) := by decide +kernel
theorem dX7_mostOf_59 : decode cX7_mostOf 59 = .ok (.iload_n 1, 1) := by decide +kernel
theorem dX7_mostOf_60 : decode cX7_mostOf 60 = .ok (.ireturn, 1) := by decide +kernel
theorem dX7_best_0 : decode cX7_best 0 = .ok (.iload_n 1, 1) := by decide +kernel
theorem dX7_best_1 : decode cX7_best 1 = .ok (.iconst 0, 1) := by decide +kernel
theorem dX7_best_2 : decode cX7_best 2 = .ok (.iconst 1, 1) := by decide +kernel
theorem dX7_best_3 : decode cX7_best 3 = .ok (.invokestatic 77, 3) := by decide +kernel
theorem dX7_best_6 : decode cX7_best 6 = .ok (.ifCond .ne 6, 3) := by decide +kernel
theorem dX7_best_9 : decode cX7_best 9 = .ok (.bipush (-2), 2) := by decide +kernel
theorem dX7_best_11 : decode cX7_best 11 = .ok (.ireturn, 1) := by decide +kernel
theorem dX7_best_12 : decode cX7_best 12 = .ok (.aload_n 0, 1) := by decide +kernel
theorem dX7_best_13 : decode cX7_best 13 = .ok (.iconst 0, 1) := by decide +kernel
theorem dX7_best_14 : decode cX7_best 14 = .ok (.invokevirtual 124, 3) := by decide +kernel
theorem dX7_best_17 : decode cX7_best 17 = .ok (.bipush (-6), 2) := by decide +kernel
theorem dX7_best_19 : decode cX7_best 19 = .ok (.istore_n 2, 1) := by decide +kernel
theorem dX7_best_20 : decode cX7_best 20 = .ok (.iconst 0, 1) := by decide +kernel
theorem dX7_best_21 : decode cX7_best 21 = .ok (.istore_n 3, 1) := by decide +kernel
theorem dX7_best_22 : decode cX7_best 22 = .ok (.iload_n 3, 1) := by decide +kernel
theorem dX7_best_23 : decode cX7_best 23 = .ok (.aload_n 0, 1) := by decide +kernel
theorem dX7_best_24 : decode cX7_best 24 = .ok (.getfield 117, 3) := by decide +kernel
theorem dX7_best_27 : decode cX7_best 27 = .ok (.if_icmp .ge 34, 3) := by decide +kernel
theorem dX7_best_30 : decode cX7_best 30 = .ok (.iload_n 2, 1) := by decide +kernel
theorem dX7_best_31 : decode cX7_best 31 = .ok (.ifCond .lt 18, 3) := by decide +kernel
theorem dX7_best_34 : decode cX7_best 34 = .ok (.aload_n 0, 1) := by decide +kernel
theorem dX7_best_35 : decode cX7_best 35 = .ok (.getfield 40, 3) := by decide +kernel
theorem dX7_best_38 : decode cX7_best 38 = .ok (.iload_n 3, 1) := by decide +kernel
theorem dX7_best_39 : decode cX7_best 39 = .ok (.iaload, 1) := by decide +kernel
theorem dX7_best_40 : decode cX7_best 40 = .ok (.aload_n 0, 1) := by decide +kernel
theorem dX7_best_41 : decode cX7_best 41 = .ok (.getfield 40, 3) := by decide +kernel
theorem dX7_best_44 : decode cX7_best 44 = .ok (.iload_n 2, 1) := by decide +kernel
theorem dX7_best_45 : decode cX7_best 45 = .ok (.iaload, 1) := by decide +kernel
theorem dX7_best_46 : decode cX7_best 46 = .ok (.if_icmp .ge 7, 3) := by decide +kernel
theorem dX7_best_49 : decode cX7_best 49 = .ok (.iload_n 3, 1) := by decide +kernel
theorem dX7_best_50 : decode cX7_best 50 = .ok (.goto 4, 3) := by decide +kernel
theorem dX7_best_53 : decode cX7_best 53 = .ok (.iload_n 2, 1) := by decide +kernel
theorem dX7_best_54 : decode cX7_best 54 = .ok (.istore_n 2, 1) := by decide +kernel
theorem dX7_best_55 : decode cX7_best 55 = .ok (.iinc 3 1, 3) := by decide +kernel
theorem dX7_best_58 : decode cX7_best 58 = .ok (.goto (-36), 3) := by decide +kernel
theorem dX7_best_61 : decode cX7_best 61 = .ok (.iload_n 1, 1) := by decide +kernel
theorem dX7_best_62 : decode cX7_best 62 = .ok (.ifCond .ne 10, 3) := by decide +kernel
theorem dX7_best_65 : decode cX7_best 65 = .ok (.aload_n 0, 1) := by decide +kernel
theorem dX7_best_66 : decode cX7_best 66 = .ok (.invokevirtual 139, 3) := by decide +kernel
theorem dX7_best_69 : decode cX7_best 69 = .ok (.goto 4, 3) := by decide +kernel
theorem dX7_best_72 : decode cX7_best 72 = .ok (.iload_n 2, 1) := by decide +kernel
theorem dX7_best_73 : decode cX7_best 73 = .ok (.ireturn, 1) := by decide +kernel
theorem dX7_through_0 : decode cX7_through 0 = .ok (.aload_n 0, 1) := by decide +kernel
theorem dX7_through_1 : decode cX7_through 1 = .ok (.iload_n 1, 1) := by decide +kernel
theorem dX7_through_2 : decode cX7_through 2 = .ok (.invokevirtual 94, 3) := by decide +kernel
theorem dX7_through_5 : decode cX7_through 5 = .ok (.ifCond .ne 5, 3) := by decide +kernel
theorem dX7_through_8 : decode cX7_through 8 = .ok (.iconst (-1), 1) := by decide +kernel
theorem dX7_through_9 : decode cX7_through 9 = .ok (.ireturn, 1) := by decide +kernel
theorem dX7_through_10 : decode cX7_through 10 = .ok (.aload_n 0, 1) := by decide +kernel
theorem dX7_through_11 : decode cX7_through 11 = .ok (.iconst 0, 1) := by decide +kernel
theorem dX7_through_12 : decode cX7_through 12 = .ok (.invokevirtual 124, 3) := by decide +kernel
theorem dX7_through_15 : decode cX7_through 15 = .ok (.iconst 0, 1) := by decide +kernel
theorem dX7_through_16 : decode cX7_through 16 = .ok (.istore_n 2, 1) := by decide +kernel
theorem dX7_through_17 : decode cX7_through 17 = .ok (.iconst 0, 1) := by decide +kernel
theorem dX7_through_18 : decode cX7_through 18 = .ok (.istore_n 3, 1) := by decide +kernel
theorem dX7_through_19 : decode cX7_through 19 = .ok (.iload_n 3, 1) := by decide +kernel
theorem dX7_through_20 : decode cX7_through 20 = .ok (.aload_n 0, 1) := by decide +kernel
theorem dX7_through_21 : decode cX7_through 21 = .ok (.getfield 117, 3) := by decide +kernel
theorem dX7_through_24 : decode cX7_through 24 = .ok (.if_icmp .ge 22, 3) := by decide +kernel
theorem dX7_through_27 : decode cX7_through 27 = .ok (.iload_n 2, 1) := by decide +kernel
theorem dX7_through_28 : decode cX7_through 28 = .ok (.aload_n 0, 1) := by decide +kernel
theorem dX7_through_29 : decode cX7_through 29 = .ok (.getfield 43, 3) := by decide +kernel
theorem dX7_through_32 : decode cX7_through 32 = .ok (.iload_n 3, 1) := by decide +kernel
theorem dX7_through_33 : decode cX7_through 33 = .ok (.iaload, 1) := by decide +kernel
theorem dX7_through_34 : decode cX7_through 34 = .ok (.iload_n 1, 1) := by decide +kernel
theorem dX7_through_35 : decode cX7_through 35 = .ok (.ishr, 1) := by decide +kernel
theorem dX7_through_36 : decode cX7_through 36 = .ok (.iconst 1, 1) := by decide +kernel
theorem dX7_through_37 : decode cX7_through 37 = .ok (.iand, 1) := by decide +kernel
theorem dX7_through_38 : decode cX7_through 38 = .ok (.iadd, 1) := by decide +kernel
theorem dX7_through_39 : decode cX7_through 39 = .ok (.istore_n 2, 1) := by decide +kernel
theorem dX7_through_40 : decode cX7_through 40 = .ok (.iinc 3 1, 3) := by decide +kernel
theorem dX7_through_43 : decode cX7_through 43 = .ok (.goto (-24), 3) := by decide +kernel
theorem dX7_through_46 : decode cX7_through 46 = .ok (.iload_n 2, 1) := by decide +kernel
theorem dX7_through_47 : decode cX7_through 47 = .ok (.ireturn, 1) := by decide +kernel
theorem dX7_blamed_0 : decode cX7_blamed 0 = .ok (.aload_n 0, 1) := by decide +kernel
theorem dX7_blamed_1 : decode cX7_blamed 1 = .ok (.iconst 0, 1) := by decide +kernel
theorem dX7_blamed_2 : decode cX7_blamed 2 = .ok (.invokevirtual 124, 3) := by decide +kernel
theorem dX7_blamed_5 : decode cX7_blamed 5 = .ok (.aload_n 0, 1) := by decide +kernel
theorem dX7_blamed_6 : decode cX7_blamed 6 = .ok (.getfield 117, 3) := by decide +kernel
theorem dX7_blamed_9 : decode cX7_blamed 9 = .ok (.ifCond .ne 7, 3) := by decide +kernel
theorem dX7_blamed_12 : decode cX7_blamed 12 = .ok (.iconst 0, 1) := by decide +kernel
theorem dX7_blamed_13 : decode cX7_blamed 13 = .ok (.goto 9, 3) := by decide +kernel
theorem dX7_blamed_16 : decode cX7_blamed 16 = .ok (.aload_n 0, 1) := by decide +kernel
theorem dX7_blamed_17 : decode cX7_blamed 17 = .ok (.getfield 43, 3) := by decide +kernel
theorem dX7_blamed_20 : decode cX7_blamed 20 = .ok (.iconst 0, 1) := by decide +kernel
theorem dX7_blamed_21 : decode cX7_blamed 21 = .ok (.iaload, 1) := by decide +kernel
theorem dX7_blamed_22 : decode cX7_blamed 22 = .ok (.istore_n 1, 1) := by decide +kernel
theorem dX7_blamed_23 : decode cX7_blamed 23 = .ok (.iconst 0, 1) := by decide +kernel
theorem dX7_blamed_24 : decode cX7_blamed 24 = .ok (.istore_n 2, 1) := by decide +kernel
theorem dX7_blamed_25 : decode cX7_blamed 25 = .ok (.iload_n 2, 1) := by decide +kernel
theorem dX7_blamed_26 : decode cX7_blamed 26 = .ok (.aload_n 0, 1) := by decide +kernel
theorem dX7_blamed_27 : decode cX7_blamed 27 = .ok (.getfield 117, 3) := by decide +kernel
theorem dX7_blamed_30 : decode cX7_blamed 30 = .ok (.if_icmp .ge 18, 3) := by decide +kernel
theorem dX7_blamed_33 : decode cX7_blamed 33 = .ok (.iload_n 1, 1) := by decide +kernel
theorem dX7_blamed_34 : decode cX7_blamed 34 = .ok (.aload_n 0, 1) := by decide +kernel
theorem dX7_blamed_35 : decode cX7_blamed 35 = .ok (.getfield 43, 3) := by decide +kernel
theorem dX7_blamed_38 : decode cX7_blamed 38 = .ok (.iload_n 2, 1) := by decide +kernel
theorem dX7_blamed_39 : decode cX7_blamed 39 = .ok (.iaload, 1) := by decide +kernel
theorem dX7_blamed_40 : decode cX7_blamed 40 = .ok (.iand, 1) := by decide +kernel
theorem dX7_blamed_41 : decode cX7_blamed 41 = .ok (.istore_n 1, 1) := by decide +kernel
theorem dX7_blamed_42 : decode cX7_blamed 42 = .ok (.iinc 2 1, 3) := by decide +kernel
theorem dX7_blamed_45 : decode cX7_blamed 45 = .ok (.goto (-20), 3) := by decide +kernel
theorem dX7_blamed_48 : decode cX7_blamed 48 = .ok (.iload_n 1, 1) := by decide +kernel
theorem dX7_blamed_49 : decode cX7_blamed 49 = .ok (.ireturn, 1) := by decide +kernel
theorem dX7_bits_0 : decode cX7_bits 0 = .ok (.iconst 0, 1) := by decide +kernel
theorem dX7_bits_1 : decode cX7_bits 1 = .ok (.istore_n 1, 1) := by decide +kernel
theorem dX7_bits_2 : decode cX7_bits 2 = .ok (.iconst 0, 1) := by decide +kernel
theorem dX7_bits_3 : decode cX7_bits 3 = .ok (.istore_n 2, 1) := by decide +kernel
theorem dX7_bits_4 : decode cX7_bits 4 = .ok (.iload_n 2, 1) := by decide +kernel
theorem dX7_bits_5 : decode cX7_bits 5 = .ok (.bipush 12, 2) := by decide +kernel
theorem dX7_bits_7 : decode cX7_bits 7 = .ok (.if_icmp .ge 17, 3) := by decide +kernel
theorem dX7_bits_10 : decode cX7_bits 10 = .ok (.iload_n 1, 1) := by decide +kernel
theorem dX7_bits_11 : decode cX7_bits 11 = .ok (.iload_n 0, 1) := by decide +kernel
theorem dX7_bits_12 : decode cX7_bits 12 = .ok (.iload_n 2, 1) := by decide +kernel
theorem dX7_bits_13 : decode cX7_bits 13 = .ok (.ishr, 1) := by decide +kernel
theorem dX7_bits_14 : decode cX7_bits 14 = .ok (.iconst 1, 1) := by decide +kernel
theorem dX7_bits_15 : decode cX7_bits 15 = .ok (.iand, 1) := by decide +kernel
theorem dX7_bits_16 : decode cX7_bits 16 = .ok (.iadd, 1) := by decide +kernel
theorem dX7_bits_17 : decode cX7_bits 17 = .ok (.istore_n 1, 1) := by decide +kernel
theorem dX7_bits_18 : decode cX7_bits 18 = .ok (.iinc 2 1, 3) := by decide +kernel
theorem dX7_bits_21 : decode cX7_bits 21 = .ok (.goto (-17), 3) := by decide +kernel
theorem dX7_bits_24 : decode cX7_bits 24 = .ok (.iload_n 1, 1) := by decide +kernel
theorem dX7_bits_25 : decode cX7_bits 25 = .ok (.ireturn, 1) := by decide +kernel
theorem dX7_cut_0 : decode cX7_cut 0 = .ok (.aload_n 0, 1) := by decide +kernel
theorem dX7_cut_1 : decode cX7_cut 1 = .ok (.iconst 0, 1) := by decide +kernel
theorem dX7_cut_2 : decode cX7_cut 2 = .ok (.invokevirtual 124, 3) := by decide +kernel
theorem dX7_cut_5 : decode cX7_cut 5 = .ok (.bipush (-6), 2) := by decide +kernel
theorem dX7_cut_7 : decode cX7_cut 7 = .ok (.istore_n 1, 1) := by decide +kernel
theorem dX7_cut_8 : decode cX7_cut 8 = .ok (.iconst 0, 1) := by decide +kernel
theorem dX7_cut_9 : decode cX7_cut 9 = .ok (.istore_n 2, 1) := by decide +kernel
theorem dX7_cut_10 : decode cX7_cut 10 = .ok (.iload_n 2, 1) := by decide +kernel
theorem dX7_cut_11 : decode cX7_cut 11 = .ok (.iconst 1, 1) := by decide +kernel
theorem dX7_cut_12 : decode cX7_cut 12 = .ok (.aload_n 0, 1) := by decide +kernel
theorem dX7_cut_13 : decode cX7_cut 13 = .ok (.getfield 81, 3) := by decide +kernel
theorem dX7_cut_16 : decode cX7_cut 16 = .ok (.ishl, 1) := by decide +kernel
theorem dX7_cut_17 : decode cX7_cut 17 = .ok (.if_icmp .ge 80, 3) := by decide +kernel
theorem dX7_cut_20 : decode cX7_cut 20 = .ok (.iload_n 1, 1) := by decide +kernel
theorem dX7_cut_21 : decode cX7_cut 21 = .ok (.ifCond .lt 14, 3) := by decide +kernel
theorem dX7_cut_24 : decode cX7_cut 24 = .ok (.iload_n 2, 1) := by decide +kernel
theorem dX7_cut_25 : decode cX7_cut 25 = .ok (.invokestatic 142, 3) := by decide +kernel
theorem dX7_cut_28 : decode cX7_cut 28 = .ok (.iload_n 1, 1) := by decide +kernel
theorem dX7_cut_29 : decode cX7_cut 29 = .ok (.invokestatic 142, 3) := by decide +kernel
theorem dX7_cut_32 : decode cX7_cut 32 = .ok (.if_icmp .ge 7, 3) := by decide +kernel
theorem dX7_cut_35 : decode cX7_cut 35 = .ok (.iconst 1, 1) := by decide +kernel
theorem dX7_cut_36 : decode cX7_cut 36 = .ok (.goto 4, 3) := by decide +kernel
theorem dX7_cut_39 : decode cX7_cut 39 = .ok (.iconst 0, 1) := by decide +kernel
theorem dX7_cut_40 : decode cX7_cut 40 = .ok (.istore_n 3, 1) := by decide +kernel
theorem dX7_cut_41 : decode cX7_cut 41 = .ok (.iconst 0, 1) := by decide +kernel
theorem dX7_cut_42 : decode cX7_cut 42 = .ok (.istore 4, 2) := by decide +kernel
theorem dX7_cut_44 : decode cX7_cut 44 = .ok (.iload 4, 2) := by decide +kernel
theorem dX7_cut_46 : decode cX7_cut 46 = .ok (.aload_n 0, 1) := by decide +kernel
theorem dX7_cut_47 : decode cX7_cut 47 = .ok (.getfield 117, 3) := by decide +kernel
theorem dX7_cut_50 : decode cX7_cut 50 = .ok (.if_icmp .ge 31, 3) := by decide +kernel
theorem dX7_cut_53 : decode cX7_cut 53 = .ok (.iload_n 3, 1) := by decide +kernel
theorem dX7_cut_54 : decode cX7_cut 54 = .ok (.ifCond .eq 27, 3) := by decide +kernel
theorem dX7_cut_57 : decode cX7_cut 57 = .ok (.aload_n 0, 1) := by decide +kernel
theorem dX7_cut_58 : decode cX7_cut 58 = .ok (.getfield 43, 3) := by decide +kernel
theorem dX7_cut_61 : decode cX7_cut 61 = .ok (.iload 4, 2) := by decide +kernel
theorem dX7_cut_63 : decode cX7_cut 63 = .ok (.iaload, 1) := by decide +kernel
theorem dX7_cut_64 : decode cX7_cut 64 = .ok (.iload_n 2, 1) := by decide +kernel
theorem dX7_cut_65 : decode cX7_cut 65 = .ok (.iand, 1) := by decide +kernel
theorem dX7_cut_66 : decode cX7_cut 66 = .ok (.ifCond .eq 7, 3) := by decide +kernel
theorem dX7_cut_69 : decode cX7_cut 69 = .ok (.iconst 1, 1) := by decide +kernel
theorem dX7_cut_70 : decode cX7_cut 70 = .ok (.goto 4, 3) := by decide +kernel
theorem dX7_cut_73 : decode cX7_cut 73 = .ok (.iconst 0, 1) := by decide +kernel
theorem dX7_cut_74 : decode cX7_cut 74 = .ok (.istore_n 3, 1) := by decide +kernel
theorem dX7_cut_75 : decode cX7_cut 75 = .ok (.iinc 4 1, 3) := by decide +kernel
theorem dX7_cut_78 : decode cX7_cut 78 = .ok (.goto (-34), 3) := by decide +kernel
theorem dX7_cut_81 : decode cX7_cut 81 = .ok (.iload_n 3, 1) := by decide +kernel
theorem dX7_cut_82 : decode cX7_cut 82 = .ok (.ifCond .eq 7, 3) := by decide +kernel
theorem dX7_cut_85 : decode cX7_cut 85 = .ok (.iload_n 2, 1) := by decide +kernel
theorem dX7_cut_86 : decode cX7_cut 86 = .ok (.goto 4, 3) := by decide +kernel
theorem dX7_cut_89 : decode cX7_cut 89 = .ok (.iload_n 1, 1) := by decide +kernel
theorem dX7_cut_90 : decode cX7_cut 90 = .ok (.istore_n 1, 1) := by decide +kernel
theorem dX7_cut_91 : decode cX7_cut 91 = .ok (.iinc 2 1, 3) := by decide +kernel
theorem dX7_cut_94 : decode cX7_cut 94 = .ok (.goto (-84), 3) := by decide +kernel
theorem dX7_cut_97 : decode cX7_cut 97 = .ok (.iload_n 1, 1) := by decide +kernel
theorem dX7_cut_98 : decode cX7_cut 98 = .ok (.ireturn, 1) := by decide +kernel
theorem dX7_move_0 : decode cX7_move 0 = .ok (.aload_n 0, 1) := by decide +kernel
theorem dX7_move_1 : decode cX7_move 1 = .ok (.iload_n 1, 1) := by decide +kernel
theorem dX7_move_2 : decode cX7_move 2 = .ok (.invokevirtual 94, 3) := by decide +kernel
theorem dX7_move_5 : decode cX7_move 5 = .ok (.ifCond .ne 5, 3) := by decide +kernel
theorem dX7_move_8 : decode cX7_move 8 = .ok (.iconst (-1), 1) := by decide +kernel
theorem dX7_move_9 : decode cX7_move 9 = .ok (.ireturn, 1) := by decide +kernel
theorem dX7_move_10 : decode cX7_move 10 = .ok (.aload_n 0, 1) := by decide +kernel
theorem dX7_move_11 : decode cX7_move 11 = .ok (.iload_n 1, 1) := by decide +kernel
theorem dX7_move_12 : decode cX7_move 12 = .ok (.invokevirtual 97, 3) := by decide +kernel
theorem dX7_move_15 : decode cX7_move 15 = .ok (.ifCond .ne 6, 3) := by decide +kernel
theorem dX7_move_18 : decode cX7_move 18 = .ok (.bipush (-3), 2) := by decide +kernel
theorem dX7_move_20 : decode cX7_move 20 = .ok (.ireturn, 1) := by decide +kernel
theorem dX7_move_21 : decode cX7_move 21 = .ok (.aload_n 0, 1) := by decide +kernel
theorem dX7_move_22 : decode cX7_move 22 = .ok (.getfield 19, 3) := by decide +kernel
theorem dX7_move_25 : decode cX7_move 25 = .ok (.iload_n 1, 1) := by decide +kernel
theorem dX7_move_26 : decode cX7_move 26 = .ok (.iaload, 1) := by decide +kernel
theorem dX7_move_27 : decode cX7_move 27 = .ok (.istore_n 2, 1) := by decide +kernel
theorem dX7_move_28 : decode cX7_move 28 = .ok (.iconst 0, 1) := by decide +kernel
theorem dX7_move_29 : decode cX7_move 29 = .ok (.istore_n 3, 1) := by decide +kernel
theorem dX7_move_30 : decode cX7_move 30 = .ok (.iconst 1, 1) := by decide +kernel
theorem dX7_move_31 : decode cX7_move 31 = .ok (.istore 4, 2) := by decide +kernel
theorem dX7_move_33 : decode cX7_move 33 = .ok (.iload 4, 2) := by decide +kernel
theorem dX7_move_35 : decode cX7_move 35 = .ok (.ifCond .eq 54, 3) := by decide +kernel
theorem dX7_move_38 : decode cX7_move 38 = .ok (.aload_n 0, 1) := by decide +kernel
theorem dX7_move_39 : decode cX7_move 39 = .ok (.getfield 19, 3) := by decide +kernel
theorem dX7_move_42 : decode cX7_move 42 = .ok (.iload_n 1, 1) := by decide +kernel
theorem dX7_move_43 : decode cX7_move 43 = .ok (.iload_n 2, 1) := by decide +kernel
theorem dX7_move_44 : decode cX7_move 44 = .ok (.iload_n 3, 1) := by decide +kernel
theorem dX7_move_45 : decode cX7_move 45 = .ok (.isub, 1) := by decide +kernel
theorem dX7_move_46 : decode cX7_move 46 = .ok (.iastore, 1) := by decide +kernel
theorem dX7_move_47 : decode cX7_move 47 = .ok (.aload_n 0, 1) := by decide +kernel
theorem dX7_move_48 : decode cX7_move 48 = .ok (.iconst 0, 1) := by decide +kernel
theorem dX7_move_49 : decode cX7_move 49 = .ok (.invokevirtual 124, 3) := by decide +kernel
theorem dX7_move_52 : decode cX7_move 52 = .ok (.aload_n 0, 1) := by decide +kernel
theorem dX7_move_53 : decode cX7_move 53 = .ok (.getfield 117, 3) := by decide +kernel
theorem dX7_move_56 : decode cX7_move 56 = .ok (.ifCond .le 14, 3) := by decide +kernel
theorem dX7_move_59 : decode cX7_move 59 = .ok (.iload_n 3, 1) := by decide +kernel
theorem dX7_move_60 : decode cX7_move 60 = .ok (.iload_n 2, 1) := by decide +kernel
theorem dX7_move_61 : decode cX7_move 61 = .ok (.iconst 1, 1) := by decide +kernel
theorem dX7_move_62 : decode cX7_move 62 = .ok (.isub, 1) := by decide +kernel
theorem dX7_move_63 : decode cX7_move 63 = .ok (.if_icmp .ge 7, 3) := by decide +kernel
theorem dX7_move_66 : decode cX7_move 66 = .ok (.iconst 1, 1) := by decide +kernel
theorem dX7_move_67 : decode cX7_move 67 = .ok (.goto 4, 3) := by decide +kernel
theorem dX7_move_70 : decode cX7_move 70 = .ok (.iconst 0, 1) := by decide +kernel
theorem dX7_move_71 : decode cX7_move 71 = .ok (.istore 4, 2) := by decide +kernel
theorem dX7_move_73 : decode cX7_move 73 = .ok (.iload_n 3, 1) := by decide +kernel
theorem dX7_move_74 : decode cX7_move 74 = .ok (.iload 4, 2) := by decide +kernel
theorem dX7_move_76 : decode cX7_move 76 = .ok (.ifCond .eq 7, 3) := by decide +kernel
theorem dX7_move_79 : decode cX7_move 79 = .ok (.iconst 1, 1) := by decide +kernel
theorem dX7_move_80 : decode cX7_move 80 = .ok (.goto 4, 3) := by decide +kernel
theorem dX7_move_83 : decode cX7_move 83 = .ok (.iconst 0, 1) := by decide +kernel
theorem dX7_move_84 : decode cX7_move 84 = .ok (.iadd, 1) := by decide +kernel
theorem dX7_move_85 : decode cX7_move 85 = .ok (.istore_n 3, 1) := by decide +kernel
theorem dX7_move_86 : decode cX7_move 86 = .ok (.goto (-53), 3) := by decide +kernel
theorem dX7_move_89 : decode cX7_move 89 = .ok (.aload_n 0, 1) := by decide +kernel
theorem dX7_move_90 : decode cX7_move 90 = .ok (.getfield 19, 3) := by decide +kernel
theorem dX7_move_93 : decode cX7_move 93 = .ok (.iload_n 1, 1) := by decide +kernel
theorem dX7_move_94 : decode cX7_move 94 = .ok (.iload_n 2, 1) := by decide +kernel
theorem dX7_move_95 : decode cX7_move 95 = .ok (.iastore, 1) := by decide +kernel
theorem dX7_move_96 : decode cX7_move 96 = .ok (.aload_n 0, 1) := by decide +kernel
theorem dX7_move_97 : decode cX7_move 97 = .ok (.getfield 117, 3) := by decide +kernel
theorem dX7_move_100 : decode cX7_move 100 = .ok (.ifCond .le 8, 3) := by decide +kernel
theorem dX7_move_103 : decode cX7_move 103 = .ok (.bipush (-6), 2) := by decide +kernel
theorem dX7_move_105 : decode cX7_move 105 = .ok (.goto 4, 3) := by decide +kernel
theorem dX7_move_108 : decode cX7_move 108 = .ok (.iload_n 3, 1) := by decide +kernel
theorem dX7_move_109 : decode cX7_move 109 = .ok (.ireturn, 1) := by decide +kernel
theorem dX7_edge_0 : decode cX7_edge 0 = .ok (.aload_n 0, 1) := by decide +kernel
theorem dX7_edge_1 : decode cX7_edge 1 = .ok (.getfield 31, 3) := by decide +kernel
theorem dX7_edge_4 : decode cX7_edge 4 = .ok (.iconst 0, 1) := by decide +kernel
theorem dX7_edge_5 : decode cX7_edge 5 = .ok (.iaload, 1) := by decide +kernel
theorem dX7_edge_6 : decode cX7_edge 6 = .ok (.istore_n 1, 1) := by decide +kernel
theorem dX7_edge_7 : decode cX7_edge 7 = .ok (.iconst 0, 1) := by decide +kernel
theorem dX7_edge_8 : decode cX7_edge 8 = .ok (.istore_n 2, 1) := by decide +kernel
theorem dX7_edge_9 : decode cX7_edge 9 = .ok (.iconst 1, 1) := by decide +kernel
theorem dX7_edge_10 : decode cX7_edge 10 = .ok (.istore_n 3, 1) := by decide +kernel
theorem dX7_edge_11 : decode cX7_edge 11 = .ok (.iload_n 3, 1) := by decide +kernel
theorem dX7_edge_12 : decode cX7_edge 12 = .ok (.ifCond .eq 49, 3) := by decide +kernel
theorem dX7_edge_15 : decode cX7_edge 15 = .ok (.aload_n 0, 1) := by decide +kernel
theorem dX7_edge_16 : decode cX7_edge 16 = .ok (.getfield 31, 3) := by decide +kernel
theorem dX7_edge_19 : decode cX7_edge 19 = .ok (.iconst 0, 1) := by decide +kernel
theorem dX7_edge_20 : decode cX7_edge 20 = .ok (.iload_n 2, 1) := by decide +kernel
theorem dX7_edge_21 : decode cX7_edge 21 = .ok (.iastore, 1) := by decide +kernel
theorem dX7_edge_22 : decode cX7_edge 22 = .ok (.aload_n 0, 1) := by decide +kernel
theorem dX7_edge_23 : decode cX7_edge 23 = .ok (.iconst 0, 1) := by decide +kernel
theorem dX7_edge_24 : decode cX7_edge 24 = .ok (.invokevirtual 124, 3) := by decide +kernel
theorem dX7_edge_27 : decode cX7_edge 27 = .ok (.aload_n 0, 1) := by decide +kernel
theorem dX7_edge_28 : decode cX7_edge 28 = .ok (.getfield 117, 3) := by decide +kernel
theorem dX7_edge_31 : decode cX7_edge 31 = .ok (.ifCond .le 13, 3) := by decide +kernel
theorem dX7_edge_34 : decode cX7_edge 34 = .ok (.iload_n 2, 1) := by decide +kernel
theorem dX7_edge_35 : decode cX7_edge 35 = .ok (.bipush 98, 2) := by decide +kernel
theorem dX7_edge_37 : decode cX7_edge 37 = .ok (.if_icmp .ge 7, 3) := by decide +kernel
theorem dX7_edge_40 : decode cX7_edge 40 = .ok (.iconst 1, 1) := by decide +kernel
theorem dX7_edge_41 : decode cX7_edge 41 = .ok (.goto 4, 3) := by decide +kernel
theorem dX7_edge_44 : decode cX7_edge 44 = .ok (.iconst 0, 1) := by decide +kernel
theorem dX7_edge_45 : decode cX7_edge 45 = .ok (.istore_n 3, 1) := by decide +kernel
theorem dX7_edge_46 : decode cX7_edge 46 = .ok (.iload_n 2, 1) := by decide +kernel
theorem dX7_edge_47 : decode cX7_edge 47 = .ok (.iload_n 3, 1) := by decide +kernel
theorem dX7_edge_48 : decode cX7_edge 48 = .ok (.ifCond .eq 7, 3) := by decide +kernel
theorem dX7_edge_51 : decode cX7_edge 51 = .ok (.iconst 1, 1) := by decide +kernel
theorem dX7_edge_52 : decode cX7_edge 52 = .ok (.goto 4, 3) := by decide +kernel
theorem dX7_edge_55 : decode cX7_edge 55 = .ok (.iconst 0, 1) := by decide +kernel
theorem dX7_edge_56 : decode cX7_edge 56 = .ok (.iadd, 1) := by decide +kernel
theorem dX7_edge_57 : decode cX7_edge 57 = .ok (.istore_n 2, 1) := by decide +kernel
theorem dX7_edge_58 : decode cX7_edge 58 = .ok (.goto (-47), 3) := by decide +kernel
theorem dX7_edge_61 : decode cX7_edge 61 = .ok (.aload_n 0, 1) := by decide +kernel
theorem dX7_edge_62 : decode cX7_edge 62 = .ok (.getfield 31, 3) := by decide +kernel
theorem dX7_edge_65 : decode cX7_edge 65 = .ok (.iconst 0, 1) := by decide +kernel
theorem dX7_edge_66 : decode cX7_edge 66 = .ok (.iload_n 1, 1) := by decide +kernel
theorem dX7_edge_67 : decode cX7_edge 67 = .ok (.iastore, 1) := by decide +kernel
theorem dX7_edge_68 : decode cX7_edge 68 = .ok (.aload_n 0, 1) := by decide +kernel
theorem dX7_edge_69 : decode cX7_edge 69 = .ok (.getfield 117, 3) := by decide +kernel
theorem dX7_edge_72 : decode cX7_edge 72 = .ok (.ifCond .le 8, 3) := by decide +kernel
theorem dX7_edge_75 : decode cX7_edge 75 = .ok (.bipush (-6), 2) := by decide +kernel
theorem dX7_edge_77 : decode cX7_edge 77 = .ok (.goto 4, 3) := by decide +kernel
theorem dX7_edge_80 : decode cX7_edge 80 = .ok (.iload_n 2, 1) := by decide +kernel
theorem dX7_edge_81 : decode cX7_edge 81 = .ok (.ireturn, 1) := by decide +kernel
theorem dX7_layGets_0 : decode cX7_layGets 0 = .ok (.aload_n 0, 1) := by decide +kernel
theorem dX7_layGets_1 : decode cX7_layGets 1 = .ok (.iload_n 1, 1) := by decide +kernel
theorem dX7_layGets_2 : decode cX7_layGets 2 = .ok (.iload_n 2, 1) := by decide +kernel
theorem dX7_layGets_3 : decode cX7_layGets 3 = .ok (.if_icmp .ne 7, 3) := by decide +kernel
theorem dX7_layGets_6 : decode cX7_layGets 6 = .ok (.lconst 1, 1) := by decide +kernel
theorem dX7_layGets_7 : decode cX7_layGets 7 = .ok (.goto 4, 3) := by decide +kernel
theorem dX7_layGets_10 : decode cX7_layGets 10 = .ok (.lconst 0, 1) := by decide +kernel
theorem dX7_layGets_11 : decode cX7_layGets 11 = .ok (.putfield 145, 3) := by decide +kernel
theorem dX7_layGets_14 : decode cX7_layGets 14 = .ok (.aload_n 0, 1) := by decide +kernel
theorem dX7_layGets_15 : decode cX7_layGets 15 = .ok (.lconst 1, 1) := by decide +kernel
theorem dX7_layGets_16 : decode cX7_layGets 16 = .ok (.putfield 149, 3) := by decide +kernel
theorem dX7_layGets_19 : decode cX7_layGets 19 = .ok (.iconst 0, 1) := by decide +kernel
theorem dX7_layGets_20 : decode cX7_layGets 20 = .ok (.istore_n 3, 1) := by decide +kernel
theorem dX7_layGets_21 : decode cX7_layGets 21 = .ok (.iconst 1, 1) := by decide +kernel
theorem dX7_layGets_22 : decode cX7_layGets 22 = .ok (.iload_n 1, 1) := by decide +kernel
theorem dX7_layGets_23 : decode cX7_layGets 23 = .ok (.ishl, 1) := by decide +kernel
theorem dX7_layGets_24 : decode cX7_layGets 24 = .ok (.istore 4, 2) := by decide +kernel
theorem dX7_layGets_26 : decode cX7_layGets 26 = .ok (.iload_n 1, 1) := by decide +kernel
theorem dX7_layGets_27 : decode cX7_layGets 27 = .ok (.istore 5, 2) := by decide +kernel
theorem dX7_layGets_29 : decode cX7_layGets 29 = .ok (.iconst 0, 1) := by decide +kernel
theorem dX7_layGets_30 : decode cX7_layGets 30 = .ok (.istore 6, 2) := by decide +kernel
theorem dX7_layGets_32 : decode cX7_layGets 32 = .ok (.aload_n 0, 1) := by decide +kernel
theorem dX7_layGets_33 : decode cX7_layGets 33 = .ok (.getfield 59, 3) := by decide +kernel
theorem dX7_layGets_36 : decode cX7_layGets 36 = .ok (.iconst 0, 1) := by decide +kernel
theorem dX7_layGets_37 : decode cX7_layGets 37 = .ok (.lconst 1, 1) := by decide +kernel
theorem dX7_layGets_38 : decode cX7_layGets 38 = .ok (.lastore, 1) := by decide +kernel
theorem dX7_layGets_39 : decode cX7_layGets 39 = .ok (.aload_n 0, 1) := by decide +kernel
theorem dX7_layGets_40 : decode cX7_layGets 40 = .ok (.getfield 62, 3) := by decide +kernel
theorem dX7_layGets_43 : decode cX7_layGets 43 = .ok (.iconst 0, 1) := by decide +kernel
theorem dX7_layGets_44 : decode cX7_layGets 44 = .ok (.lconst 1, 1) := by decide +kernel
theorem dX7_layGets_45 : decode cX7_layGets 45 = .ok (.lastore, 1) := by decide +kernel
theorem dX7_layGets_46 : decode cX7_layGets 46 = .ok (.iload_n 1, 1) := by decide +kernel
theorem dX7_layGets_47 : decode cX7_layGets 47 = .ok (.iload_n 2, 1) := by decide +kernel
theorem dX7_layGets_48 : decode cX7_layGets 48 = .ok (.if_icmp .eq 7, 3) := by decide +kernel
theorem dX7_layGets_51 : decode cX7_layGets 51 = .ok (.iconst 1, 1) := by decide +kernel
theorem dX7_layGets_52 : decode cX7_layGets 52 = .ok (.goto 4, 3) := by decide +kernel
theorem dX7_layGets_55 : decode cX7_layGets 55 = .ok (.iconst 0, 1) := by decide +kernel
theorem dX7_layGets_56 : decode cX7_layGets 56 = .ok (.istore 7, 2) := by decide +kernel
theorem dX7_layGets_58 : decode cX7_layGets 58 = .ok (.iload 7, 2) := by decide +kernel
theorem dX7_layGets_60 : decode cX7_layGets 60 = .ok (.ifCond .eq 297, 3) := by decide +kernel
theorem dX7_layGets_63 : decode cX7_layGets 63 = .ok (.iload 6, 2) := by decide +kernel
theorem dX7_layGets_65 : decode cX7_layGets 65 = .ok (.aload_n 0, 1) := by decide +kernel
theorem dX7_layGets_66 : decode cX7_layGets 66 = .ok (.getfield 81, 3) := by decide +kernel
theorem dX7_layGets_69 : decode cX7_layGets 69 = .ok (.if_icmp .ne 68, 3) := by decide +kernel
theorem dX7_layGets_72 : decode cX7_layGets 72 = .ok (.iload_n 3, 1) := by decide +kernel
theorem dX7_layGets_73 : decode cX7_layGets 73 = .ok (.ifCond .le 7, 3) := by decide +kernel
theorem dX7_layGets_76 : decode cX7_layGets 76 = .ok (.iconst 1, 1) := by decide +kernel
theorem dX7_layGets_77 : decode cX7_layGets 77 = .ok (.goto 4, 3) := by decide +kernel
theorem dX7_layGets_80 : decode cX7_layGets 80 = .ok (.iconst 0, 1) := by decide +kernel
theorem dX7_layGets_81 : decode cX7_layGets 81 = .ok (.istore 7, 2) := by decide +kernel
theorem dX7_layGets_83 : decode cX7_layGets 83 = .ok (.iload 7, 2) := by decide +kernel
theorem dX7_layGets_85 : decode cX7_layGets 85 = .ok (.ifCond .eq (-27), 3) := by decide +kernel
theorem dX7_layGets_88 : decode cX7_layGets 88 = .ok (.iinc 3 (-1), 3) := by decide +kernel
theorem dX7_layGets_91 : decode cX7_layGets 91 = .ok (.aload_n 0, 1) := by decide +kernel
theorem dX7_layGets_92 : decode cX7_layGets 92 = .ok (.getfield 56, 3) := by decide +kernel
theorem dX7_layGets_95 : decode cX7_layGets 95 = .ok (.iload_n 3, 1) := by decide +kernel
theorem dX7_layGets_96 : decode cX7_layGets 96 = .ok (.iaload, 1) := by decide +kernel
theorem dX7_layGets_97 : decode cX7_layGets 97 = .ok (.iconst 1, 1) := by decide +kernel
theorem dX7_layGets_98 : decode cX7_layGets 98 = .ok (.iadd, 1) := by decide +kernel
theorem dX7_layGets_99 : decode cX7_layGets 99 = .ok (.istore 6, 2) := by decide +kernel
theorem dX7_layGets_101 : decode cX7_layGets 101 = .ok (.aload_n 0, 1) := by decide +kernel
theorem dX7_layGets_102 : decode cX7_layGets 102 = .ok (.getfield 7, 3) := by decide +kernel
theorem dX7_layGets_105 : decode cX7_layGets 105 = .ok (.aload_n 0, 1) := by decide +kernel
theorem dX7_layGets_106 : decode cX7_layGets 106 = .ok (.getfield 56, 3) := by decide +kernel
theorem dX7_layGets_109 : decode cX7_layGets 109 = .ok (.iload_n 3, 1) := by decide +kernel
theorem dX7_layGets_110 : decode cX7_layGets 110 = .ok (.iaload, 1) := by decide +kernel
theorem dX7_layGets_111 : decode cX7_layGets 111 = .ok (.iaload, 1) := by decide +kernel
theorem dX7_layGets_112 : decode cX7_layGets 112 = .ok (.istore 5, 2) := by decide +kernel
theorem dX7_layGets_114 : decode cX7_layGets 114 = .ok (.iload 4, 2) := by decide +kernel
theorem dX7_layGets_116 : decode cX7_layGets 116 = .ok (.iconst 1, 1) := by decide +kernel
theorem dX7_layGets_117 : decode cX7_layGets 117 = .ok (.aload_n 0, 1) := by decide +kernel
theorem dX7_layGets_118 : decode cX7_layGets 118 = .ok (.getfield 16, 3) := by decide +kernel
theorem dX7_layGets_121 : decode cX7_layGets 121 = .ok (.aload_n 0, 1) := by decide +kernel
theorem dX7_layGets_122 : decode cX7_layGets 122 = .ok (.getfield 56, 3) := by decide +kernel
theorem dX7_layGets_125 : decode cX7_layGets 125 = .ok (.iload_n 3, 1) := by decide +kernel
theorem dX7_layGets_126 : decode cX7_layGets 126 = .ok (.iaload, 1) := by decide +kernel
theorem dX7_layGets_127 : decode cX7_layGets 127 = .ok (.iaload, 1) := by decide +kernel
theorem dX7_layGets_128 : decode cX7_layGets 128 = .ok (.ishl, 1) := by decide +kernel
theorem dX7_layGets_129 : decode cX7_layGets 129 = .ok (.iconst (-1), 1) := by decide +kernel
theorem dX7_layGets_130 : decode cX7_layGets 130 = .ok (.ixor, 1) := by decide +kernel
theorem dX7_layGets_131 : decode cX7_layGets 131 = .ok (.iand, 1) := by decide +kernel
theorem dX7_layGets_132 : decode cX7_layGets 132 = .ok (.istore 4, 2) := by decide +kernel
theorem dX7_layGets_134 : decode cX7_layGets 134 = .ok (.goto (-76), 3) := by decide +kernel
theorem dX7_layGets_137 : decode cX7_layGets 137 = .ok (.aload_n 0, 1) := by decide +kernel
theorem dX7_layGets_138 : decode cX7_layGets 138 = .ok (.getfield 7, 3) := by decide +kernel
theorem dX7_layGets_141 : decode cX7_layGets 141 = .ok (.iload 6, 2) := by decide +kernel
theorem dX7_layGets_143 : decode cX7_layGets 143 = .ok (.iaload, 1) := by decide +kernel
theorem dX7_layGets_144 : decode cX7_layGets 144 = .ok (.iload 5, 2) := by decide +kernel
theorem dX7_layGets_146 : decode cX7_layGets 146 = .ok (.if_icmp .ne 31, 3) := by decide +kernel
theorem dX7_layGets_149 : decode cX7_layGets 149 = .ok (.aload_n 0, 1) := by decide +kernel
theorem dX7_layGets_150 : decode cX7_layGets 150 = .ok (.iload 6, 2) := by decide +kernel
theorem dX7_layGets_152 : decode cX7_layGets 152 = .ok (.invokevirtual 97, 3) := by decide +kernel
theorem dX7_layGets_155 : decode cX7_layGets 155 = .ok (.ifCond .eq 22, 3) := by decide +kernel
theorem dX7_layGets_158 : decode cX7_layGets 158 = .ok (.iload 4, 2) := by decide +kernel
theorem dX7_layGets_160 : decode cX7_layGets 160 = .ok (.aload_n 0, 1) := by decide +kernel
theorem dX7_layGets_161 : decode cX7_layGets 161 = .ok (.getfield 16, 3) := by decide +kernel
theorem dX7_layGets_164 : decode cX7_layGets 164 = .ok (.iload 6, 2) := by decide +kernel
theorem dX7_layGets_166 : decode cX7_layGets 166 = .ok (.iaload, 1) := by decide +kernel
theorem dX7_layGets_167 : decode cX7_layGets 167 = .ok (.ishr, 1) := by decide +kernel
theorem dX7_layGets_168 : decode cX7_layGets 168 = .ok (.iconst 1, 1) := by decide +kernel
theorem dX7_layGets_169 : decode cX7_layGets 169 = .ok (.iand, 1) := by decide +kernel
theorem dX7_layGets_170 : decode cX7_layGets 170 = .ok (.ifCond .ne 7, 3) := by decide +kernel
theorem dX7_layGets_173 : decode cX7_layGets 173 = .ok (.iconst 1, 1) := by decide +kernel
theorem dX7_layGets_174 : decode cX7_layGets 174 = .ok (.goto 4, 3) := by decide +kernel
theorem dX7_layGets_177 : decode cX7_layGets 177 = .ok (.iconst 0, 1) := by decide +kernel
theorem dX7_layGets_178 : decode cX7_layGets 178 = .ok (.istore 8, 2) := by decide +kernel
theorem dX7_layGets_180 : decode cX7_layGets 180 = .ok (.iload 8, 2) := by decide +kernel
theorem dX7_layGets_182 : decode cX7_layGets 182 = .ok (.ifCond .eq 56, 3) := by decide +kernel
theorem dX7_layGets_185 : decode cX7_layGets 185 = .ok (.aload_n 0, 1) := by decide +kernel
theorem dX7_layGets_186 : decode cX7_layGets 186 = .ok (.getfield 56, 3) := by decide +kernel
theorem dX7_layGets_189 : decode cX7_layGets 189 = .ok (.iload_n 3, 1) := by decide +kernel
theorem dX7_layGets_190 : decode cX7_layGets 190 = .ok (.iload 6, 2) := by decide +kernel
theorem dX7_layGets_192 : decode cX7_layGets 192 = .ok (.iastore, 1) := by decide +kernel
theorem dX7_layGets_193 : decode cX7_layGets 193 = .ok (.aload_n 0, 1) := by decide +kernel
theorem dX7_layGets_194 : decode cX7_layGets 194 = .ok (.getfield 59, 3) := by decide +kernel
theorem dX7_layGets_197 : decode cX7_layGets 197 = .ok (.iload_n 3, 1) := by decide +kernel
theorem dX7_layGets_198 : decode cX7_layGets 198 = .ok (.iconst 1, 1) := by decide +kernel
theorem dX7_layGets_199 : decode cX7_layGets 199 = .ok (.iadd, 1) := by decide +kernel
theorem dX7_layGets_200 : decode cX7_layGets 200 = .ok (.aload_n 0, 1) := by decide +kernel
theorem dX7_layGets_201 : decode cX7_layGets 201 = .ok (.getfield 59, 3) := by decide +kernel
theorem dX7_layGets_204 : decode cX7_layGets 204 = .ok (.iload_n 3, 1) := by decide +kernel
theorem dX7_layGets_205 : decode cX7_layGets 205 = .ok (.laload, 1) := by decide +kernel
theorem dX7_layGets_206 : decode cX7_layGets 206 = .ok (.aload_n 0, 1) := by decide +kernel
theorem dX7_layGets_207 : decode cX7_layGets 207 = .ok (.iload 6, 2) := by decide +kernel
theorem dX7_layGets_209 : decode cX7_layGets 209 = .ok (.invokevirtual 100, 3) := by decide +kernel
theorem dX7_layGets_212 : decode cX7_layGets 212 = .ok (.i2l, 1) := by decide +kernel
theorem dX7_layGets_213 : decode cX7_layGets 213 = .ok (.lmul, 1) := by decide +kernel
theorem dX7_layGets_214 : decode cX7_layGets 214 = .ok (.lastore, 1) := by decide +kernel
theorem dX7_layGets_215 : decode cX7_layGets 215 = .ok (.aload_n 0, 1) := by decide +kernel
theorem dX7_layGets_216 : decode cX7_layGets 216 = .ok (.getfield 62, 3) := by decide +kernel
theorem dX7_layGets_219 : decode cX7_layGets 219 = .ok (.iload_n 3, 1) := by decide +kernel
theorem dX7_layGets_220 : decode cX7_layGets 220 = .ok (.iconst 1, 1) := by decide +kernel
theorem dX7_layGets_221 : decode cX7_layGets 221 = .ok (.iadd, 1) := by decide +kernel
theorem dX7_layGets_222 : decode cX7_layGets 222 = .ok (.aload_n 0, 1) := by decide +kernel
theorem dX7_layGets_223 : decode cX7_layGets 223 = .ok (.getfield 62, 3) := by decide +kernel
theorem dX7_layGets_226 : decode cX7_layGets 226 = .ok (.iload_n 3, 1) := by decide +kernel
theorem dX7_layGets_227 : decode cX7_layGets 227 = .ok (.laload, 1) := by decide +kernel
theorem dX7_layGets_228 : decode cX7_layGets 228 = .ok (.aload_n 0, 1) := by decide +kernel
theorem dX7_layGets_229 : decode cX7_layGets 229 = .ok (.getfield 13, 3) := by decide +kernel
theorem dX7_layGets_232 : decode cX7_layGets 232 = .ok (.iload 6, 2) := by decide +kernel
theorem dX7_layGets_234 : decode cX7_layGets 234 = .ok (.iaload, 1) := by decide +kernel
theorem dX7_layGets_235 : decode cX7_layGets 235 = .ok (.i2l, 1) := by decide +kernel
theorem dX7_layGets_236 : decode cX7_layGets 236 = .ok (.lmul, 1) := by decide +kernel
theorem dX7_layGets_237 : decode cX7_layGets 237 = .ok (.lastore, 1) := by decide +kernel
theorem dX7_layGets_238 : decode cX7_layGets 238 = .ok (.iload 8, 2) := by decide +kernel
theorem dX7_layGets_240 : decode cX7_layGets 240 = .ok (.ifCond .eq 68, 3) := by decide +kernel
theorem dX7_layGets_243 : decode cX7_layGets 243 = .ok (.aload_n 0, 1) := by decide +kernel
theorem dX7_layGets_244 : decode cX7_layGets 244 = .ok (.getfield 16, 3) := by decide +kernel
theorem dX7_layGets_247 : decode cX7_layGets 247 = .ok (.iload 6, 2) := by decide +kernel
theorem dX7_layGets_249 : decode cX7_layGets 249 = .ok (.iaload, 1) := by decide +kernel
theorem dX7_layGets_250 : decode cX7_layGets 250 = .ok (.iload_n 2, 1) := by decide +kernel
theorem dX7_layGets_251 : decode cX7_layGets 251 = .ok (.if_icmp .ne 57, 3) := by decide +kernel
theorem dX7_layGets_254 : decode cX7_layGets 254 = .ok (.aload_n 0, 1) := by decide +kernel
theorem dX7_layGets_255 : decode cX7_layGets 255 = .ok (.getfield 59, 3) := by decide +kernel
theorem dX7_layGets_258 : decode cX7_layGets 258 = .ok (.iload_n 3, 1) := by decide +kernel
theorem dX7_layGets_259 : decode cX7_layGets 259 = .ok (.iconst 1, 1) := by decide +kernel
theorem dX7_layGets_260 : decode cX7_layGets 260 = .ok (.iadd, 1) := by decide +kernel
theorem dX7_layGets_261 : decode cX7_layGets 261 = .ok (.laload, 1) := by decide +kernel
theorem dX7_layGets_262 : decode cX7_layGets 262 = .ok (.aload_n 0, 1) := by decide +kernel
theorem dX7_layGets_263 : decode cX7_layGets 263 = .ok (.getfield 62, 3) := by decide +kernel
theorem dX7_layGets_266 : decode cX7_layGets 266 = .ok (.iload_n 3, 1) := by decide +kernel
theorem dX7_layGets_267 : decode cX7_layGets 267 = .ok (.iconst 1, 1) := by decide +kernel
theorem dX7_layGets_268 : decode cX7_layGets 268 = .ok (.iadd, 1) := by decide +kernel
theorem dX7_layGets_269 : decode cX7_layGets 269 = .ok (.laload, 1) := by decide +kernel
theorem dX7_layGets_270 : decode cX7_layGets 270 = .ok (.aload_n 0, 1) := by decide +kernel
theorem dX7_layGets_271 : decode cX7_layGets 271 = .ok (.getfield 145, 3) := by decide +kernel
theorem dX7_layGets_274 : decode cX7_layGets 274 = .ok (.aload_n 0, 1) := by decide +kernel
theorem dX7_layGets_275 : decode cX7_layGets 275 = .ok (.getfield 149, 3) := by decide +kernel
theorem dX7_layGets_278 : decode cX7_layGets 278 = .ok (.invokestatic 135, 3) := by decide +kernel
theorem dX7_layGets_281 : decode cX7_layGets 281 = .ok (.ifCond .le 27, 3) := by decide +kernel
theorem dX7_layGets_284 : decode cX7_layGets 284 = .ok (.aload_n 0, 1) := by decide +kernel
theorem dX7_layGets_285 : decode cX7_layGets 285 = .ok (.aload_n 0, 1) := by decide +kernel
theorem dX7_layGets_286 : decode cX7_layGets 286 = .ok (.getfield 59, 3) := by decide +kernel
theorem dX7_layGets_289 : decode cX7_layGets 289 = .ok (.iload_n 3, 1) := by decide +kernel
theorem dX7_layGets_290 : decode cX7_layGets 290 = .ok (.iconst 1, 1) := by decide +kernel
theorem dX7_layGets_291 : decode cX7_layGets 291 = .ok (.iadd, 1) := by decide +kernel
theorem dX7_layGets_292 : decode cX7_layGets 292 = .ok (.laload, 1) := by decide +kernel
theorem dX7_layGets_293 : decode cX7_layGets 293 = .ok (.putfield 145, 3) := by decide +kernel
theorem dX7_layGets_296 : decode cX7_layGets 296 = .ok (.aload_n 0, 1) := by decide +kernel
theorem dX7_layGets_297 : decode cX7_layGets 297 = .ok (.aload_n 0, 1) := by decide +kernel
theorem dX7_layGets_298 : decode cX7_layGets 298 = .ok (.getfield 62, 3) := by decide +kernel
theorem dX7_layGets_301 : decode cX7_layGets 301 = .ok (.iload_n 3, 1) := by decide +kernel
theorem dX7_layGets_302 : decode cX7_layGets 302 = .ok (.iconst 1, 1) := by decide +kernel
theorem dX7_layGets_303 : decode cX7_layGets 303 = .ok (.iadd, 1) := by decide +kernel
theorem dX7_layGets_304 : decode cX7_layGets 304 = .ok (.laload, 1) := by decide +kernel
theorem dX7_layGets_305 : decode cX7_layGets 305 = .ok (.putfield 149, 3) := by decide +kernel
theorem dX7_layGets_308 : decode cX7_layGets 308 = .ok (.iload 8, 2) := by decide +kernel
theorem dX7_layGets_310 : decode cX7_layGets 310 = .ok (.ifCond .eq 41, 3) := by decide +kernel
theorem dX7_layGets_313 : decode cX7_layGets 313 = .ok (.aload_n 0, 1) := by decide +kernel
theorem dX7_layGets_314 : decode cX7_layGets 314 = .ok (.getfield 16, 3) := by decide +kernel
theorem dX7_layGets_317 : decode cX7_layGets 317 = .ok (.iload 6, 2) := by decide +kernel
theorem dX7_layGets_319 : decode cX7_layGets 319 = .ok (.iaload, 1) := by decide +kernel
theorem dX7_layGets_320 : decode cX7_layGets 320 = .ok (.iload_n 2, 1) := by decide +kernel
theorem dX7_layGets_321 : decode cX7_layGets 321 = .ok (.if_icmp .eq 30, 3) := by decide +kernel
theorem dX7_layGets_324 : decode cX7_layGets 324 = .ok (.aload_n 0, 1) := by decide +kernel
theorem dX7_layGets_325 : decode cX7_layGets 325 = .ok (.getfield 16, 3) := by decide +kernel
theorem dX7_layGets_328 : decode cX7_layGets 328 = .ok (.iload 6, 2) := by decide +kernel
theorem dX7_layGets_330 : decode cX7_layGets 330 = .ok (.iaload, 1) := by decide +kernel
theorem dX7_layGets_331 : decode cX7_layGets 331 = .ok (.istore 5, 2) := by decide +kernel
theorem dX7_layGets_333 : decode cX7_layGets 333 = .ok (.iload 4, 2) := by decide +kernel
theorem dX7_layGets_335 : decode cX7_layGets 335 = .ok (.iconst 1, 1) := by decide +kernel
theorem dX7_layGets_336 : decode cX7_layGets 336 = .ok (.iload 5, 2) := by decide +kernel
theorem dX7_layGets_338 : decode cX7_layGets 338 = .ok (.ishl, 1) := by decide +kernel
theorem dX7_layGets_339 : decode cX7_layGets 339 = .ok (.ior, 1) := by decide +kernel
theorem dX7_layGets_340 : decode cX7_layGets 340 = .ok (.istore 4, 2) := by decide +kernel
theorem dX7_layGets_342 : decode cX7_layGets 342 = .ok (.iinc 3 1, 3) := by decide +kernel
theorem dX7_layGets_345 : decode cX7_layGets 345 = .ok (.iconst 0, 1) := by decide +kernel
theorem dX7_layGets_346 : decode cX7_layGets 346 = .ok (.istore 6, 2) := by decide +kernel
theorem dX7_layGets_348 : decode cX7_layGets 348 = .ok (.goto 6, 3) := by decide +kernel
theorem dX7_layGets_351 : decode cX7_layGets 351 = .ok (.iinc 6 1, 3) := by decide +kernel
theorem dX7_layGets_354 : decode cX7_layGets 354 = .ok (.goto (-296), 3) := by decide +kernel
theorem dX7_layGets_357 : decode cX7_layGets 357 = .ok (.return_, 1) := by decide +kernel
theorem dX7_someGains_0 : decode cX7_someGains 0 = .ok (.aload_n 0, 1) := by decide +kernel
theorem dX7_someGains_1 : decode cX7_someGains 1 = .ok (.iconst 0, 1) := by decide +kernel
theorem dX7_someGains_2 : decode cX7_someGains 2 = .ok (.invokevirtual 124, 3) := by decide +kernel
theorem dX7_someGains_5 : decode cX7_someGains 5 = .ok (.aload_n 0, 1) := by decide +kernel
theorem dX7_someGains_6 : decode cX7_someGains 6 = .ok (.getfield 117, 3) := by decide +kernel
theorem dX7_someGains_9 : decode cX7_someGains 9 = .ok (.ifCond .le 7, 3) := by decide +kernel
theorem dX7_someGains_12 : decode cX7_someGains 12 = .ok (.iconst 1, 1) := by decide +kernel
theorem dX7_someGains_13 : decode cX7_someGains 13 = .ok (.goto 4, 3) := by decide +kernel
theorem dX7_someGains_16 : decode cX7_someGains 16 = .ok (.iconst 0, 1) := by decide +kernel
theorem dX7_someGains_17 : decode cX7_someGains 17 = .ok (.ireturn, 1) := by decide +kernel
theorem dX7_gets_0 : decode cX7_gets 0 = .ok (.iload_n 1, 1) := by decide +kernel
theorem dX7_gets_1 : decode cX7_gets 1 = .ok (.invokestatic 86, 3) := by decide +kernel
theorem dX7_gets_4 : decode cX7_gets 4 = .ok (.ifCond .eq 10, 3) := by decide +kernel
theorem dX7_gets_7 : decode cX7_gets 7 = .ok (.iload_n 2, 1) := by decide +kernel
theorem dX7_gets_8 : decode cX7_gets 8 = .ok (.invokestatic 86, 3) := by decide +kernel
theorem dX7_gets_11 : decode cX7_gets 11 = .ok (.ifCond .ne 7, 3) := by decide +kernel
theorem dX7_gets_14 : decode cX7_gets 14 = .ok (.ldc2_w 127, 3) := by decide +kernel
theorem dX7_gets_17 : decode cX7_gets 17 = .ok (.lreturn, 1) := by decide +kernel
theorem dX7_gets_18 : decode cX7_gets 18 = .ok (.iload_n 3, 1) := by decide +kernel
theorem dX7_gets_19 : decode cX7_gets 19 = .ok (.iconst 0, 1) := by decide +kernel
theorem dX7_gets_20 : decode cX7_gets 20 = .ok (.iconst 1, 1) := by decide +kernel
theorem dX7_gets_21 : decode cX7_gets 21 = .ok (.invokestatic 77, 3) := by decide +kernel
theorem dX7_gets_24 : decode cX7_gets 24 = .ok (.ifCond .ne 7, 3) := by decide +kernel
theorem dX7_gets_27 : decode cX7_gets 27 = .ok (.ldc2_w 133, 3) := by decide +kernel
theorem dX7_gets_30 : decode cX7_gets 30 = .ok (.lreturn, 1) := by decide +kernel
theorem dX7_gets_31 : decode cX7_gets 31 = .ok (.aload_n 0, 1) := by decide +kernel
theorem dX7_gets_32 : decode cX7_gets 32 = .ok (.invokevirtual 152, 3) := by decide +kernel
theorem dX7_gets_35 : decode cX7_gets 35 = .ok (.ifCond .eq 7, 3) := by decide +kernel
theorem dX7_gets_38 : decode cX7_gets 38 = .ok (.ldc2_w 156, 3) := by decide +kernel
theorem dX7_gets_41 : decode cX7_gets 41 = .ok (.lreturn, 1) := by decide +kernel
theorem dX7_gets_42 : decode cX7_gets 42 = .ok (.aload_n 0, 1) := by decide +kernel
theorem dX7_gets_43 : decode cX7_gets 43 = .ok (.iload_n 1, 1) := by decide +kernel
theorem dX7_gets_44 : decode cX7_gets 44 = .ok (.iload_n 2, 1) := by decide +kernel
theorem dX7_gets_45 : decode cX7_gets 45 = .ok (.invokevirtual 158, 3) := by decide +kernel
theorem dX7_gets_48 : decode cX7_gets 48 = .ok (.aload_n 0, 1) := by decide +kernel
theorem dX7_gets_49 : decode cX7_gets 49 = .ok (.getfield 145, 3) := by decide +kernel
theorem dX7_gets_52 : decode cX7_gets 52 = .ok (.aload_n 0, 1) := by decide +kernel
theorem dX7_gets_53 : decode cX7_gets 53 = .ok (.getfield 149, 3) := by decide +kernel
theorem dX7_gets_56 : decode cX7_gets 56 = .ok (.iload_n 3, 1) := by decide +kernel
theorem dX7_gets_57 : decode cX7_gets 57 = .ok (.invokestatic 129, 3) := by decide +kernel
theorem dX7_gets_60 : decode cX7_gets 60 = .ok (.lreturn, 1) := by decide +kernel
theorem dX7_span_0 : decode cX7_span 0 = .ok (.iload_n 1, 1) := by decide +kernel
theorem dX7_span_1 : decode cX7_span 1 = .ok (.invokestatic 86, 3) := by decide +kernel
theorem dX7_span_4 : decode cX7_span 4 = .ok (.ifCond .eq 10, 3) := by decide +kernel
theorem dX7_span_7 : decode cX7_span 7 = .ok (.iload_n 2, 1) := by decide +kernel
theorem dX7_span_8 : decode cX7_span 8 = .ok (.invokestatic 86, 3) := by decide +kernel
theorem dX7_span_11 : decode cX7_span 11 = .ok (.ifCond .ne 7, 3) := by decide +kernel
theorem dX7_span_14 : decode cX7_span 14 = .ok (.ldc2_w 127, 3) := by decide +kernel
theorem dX7_span_17 : decode cX7_span 17 = .ok (.lreturn, 1) := by decide +kernel
theorem dX7_span_18 : decode cX7_span 18 = .ok (.iload_n 3, 1) := by decide +kernel
theorem dX7_span_19 : decode cX7_span 19 = .ok (.iconst 0, 1) := by decide +kernel
theorem dX7_span_20 : decode cX7_span 20 = .ok (.iconst 1, 1) := by decide +kernel
theorem dX7_span_21 : decode cX7_span 21 = .ok (.invokestatic 77, 3) := by decide +kernel
theorem dX7_span_24 : decode cX7_span 24 = .ok (.ifCond .eq 13, 3) := by decide +kernel
theorem dX7_span_27 : decode cX7_span 27 = .ok (.iload 4, 2) := by decide +kernel
theorem dX7_span_29 : decode cX7_span 29 = .ok (.iconst 0, 1) := by decide +kernel
theorem dX7_span_30 : decode cX7_span 30 = .ok (.iconst 1, 1) := by decide +kernel
theorem dX7_span_31 : decode cX7_span 31 = .ok (.invokestatic 77, 3) := by decide +kernel
theorem dX7_span_34 : decode cX7_span 34 = .ok (.ifCond .ne 7, 3) := by decide +kernel
theorem dX7_span_37 : decode cX7_span 37 = .ok (.ldc2_w 133, 3) := by decide +kernel
theorem dX7_span_40 : decode cX7_span 40 = .ok (.lreturn, 1) := by decide +kernel
theorem dX7_span_41 : decode cX7_span 41 = .ok (.aload_n 0, 1) := by decide +kernel
theorem dX7_span_42 : decode cX7_span 42 = .ok (.invokevirtual 152, 3) := by decide +kernel
theorem dX7_span_45 : decode cX7_span 45 = .ok (.ifCond .eq 7, 3) := by decide +kernel
theorem dX7_span_48 : decode cX7_span 48 = .ok (.ldc2_w 156, 3) := by decide +kernel
theorem dX7_span_51 : decode cX7_span 51 = .ok (.lreturn, 1) := by decide +kernel
theorem dX7_span_52 : decode cX7_span 52 = .ok (.iload_n 3, 1) := by decide +kernel
theorem dX7_span_53 : decode cX7_span 53 = .ok (.ifCond .ne 23, 3) := by decide +kernel
theorem dX7_span_56 : decode cX7_span 56 = .ok (.aload_n 0, 1) := by decide +kernel
theorem dX7_span_57 : decode cX7_span 57 = .ok (.iload_n 1, 1) := by decide +kernel
theorem dX7_span_58 : decode cX7_span 58 = .ok (.iload_n 2, 1) := by decide +kernel
theorem dX7_span_59 : decode cX7_span 59 = .ok (.invokevirtual 158, 3) := by decide +kernel
theorem dX7_span_62 : decode cX7_span 62 = .ok (.aload_n 0, 1) := by decide +kernel
theorem dX7_span_63 : decode cX7_span 63 = .ok (.getfield 145, 3) := by decide +kernel
theorem dX7_span_66 : decode cX7_span 66 = .ok (.aload_n 0, 1) := by decide +kernel
theorem dX7_span_67 : decode cX7_span 67 = .ok (.getfield 149, 3) := by decide +kernel
theorem dX7_span_70 : decode cX7_span 70 = .ok (.iload 4, 2) := by decide +kernel
theorem dX7_span_72 : decode cX7_span 72 = .ok (.invokestatic 129, 3) := by decide +kernel
theorem dX7_span_75 : decode cX7_span 75 = .ok (.lreturn, 1) := by decide +kernel
theorem dX7_span_76 : decode cX7_span 76 = .ok (.aload_n 0, 1) := by decide +kernel
theorem dX7_span_77 : decode cX7_span 77 = .ok (.iload_n 2, 1) := by decide +kernel
theorem dX7_span_78 : decode cX7_span 78 = .ok (.iload_n 1, 1) := by decide +kernel
theorem dX7_span_79 : decode cX7_span 79 = .ok (.invokevirtual 158, 3) := by decide +kernel
theorem dX7_span_82 : decode cX7_span 82 = .ok (.aload_n 0, 1) := by decide +kernel
theorem dX7_span_83 : decode cX7_span 83 = .ok (.getfield 145, 3) := by decide +kernel
theorem dX7_span_86 : decode cX7_span 86 = .ok (.lconst 0, 1) := by decide +kernel
theorem dX7_span_87 : decode cX7_span 87 = .ok (.lcmp, 1) := by decide +kernel
theorem dX7_span_88 : decode cX7_span 88 = .ok (.ifCond .ne 9, 3) := by decide +kernel
theorem dX7_span_91 : decode cX7_span 91 = .ok (.iload 4, 2) := by decide +kernel
theorem dX7_span_93 : decode cX7_span 93 = .ok (.i2l, 1) := by decide +kernel
theorem dX7_span_94 : decode cX7_span 94 = .ok (.goto 16, 3) := by decide +kernel
theorem dX7_span_97 : decode cX7_span 97 = .ok (.aload_n 0, 1) := by decide +kernel
theorem dX7_span_98 : decode cX7_span 98 = .ok (.getfield 149, 3) := by decide +kernel
theorem dX7_span_101 : decode cX7_span 101 = .ok (.aload_n 0, 1) := by decide +kernel
theorem dX7_span_102 : decode cX7_span 102 = .ok (.getfield 145, 3) := by decide +kernel
theorem dX7_span_105 : decode cX7_span 105 = .ok (.iload 4, 2) := by decide +kernel
theorem dX7_span_107 : decode cX7_span 107 = .ok (.invokestatic 129, 3) := by decide +kernel
theorem dX7_span_110 : decode cX7_span 110 = .ok (.lreturn, 1) := by decide +kernel
theorem dX7_reached_0 : decode cX7_reached 0 = .ok (.iconst 1, 1) := by decide +kernel
theorem dX7_reached_1 : decode cX7_reached 1 = .ok (.iload_n 1, 1) := by decide +kernel
theorem dX7_reached_2 : decode cX7_reached 2 = .ok (.ishl, 1) := by decide +kernel
theorem dX7_reached_3 : decode cX7_reached 3 = .ok (.istore_n 2, 1) := by decide +kernel
theorem dX7_reached_4 : decode cX7_reached 4 = .ok (.iconst 0, 1) := by decide +kernel
theorem dX7_reached_5 : decode cX7_reached 5 = .ok (.istore_n 3, 1) := by decide +kernel
theorem dX7_reached_6 : decode cX7_reached 6 = .ok (.iload_n 3, 1) := by decide +kernel
theorem dX7_reached_7 : decode cX7_reached 7 = .ok (.bipush 8, 2) := by decide +kernel
theorem dX7_reached_9 : decode cX7_reached 9 = .ok (.if_icmp .ge 67, 3) := by decide +kernel
theorem dX7_reached_12 : decode cX7_reached 12 = .ok (.iconst 0, 1) := by decide +kernel
theorem dX7_reached_13 : decode cX7_reached 13 = .ok (.istore 4, 2) := by decide +kernel
theorem dX7_reached_15 : decode cX7_reached 15 = .ok (.iload 4, 2) := by decide +kernel
theorem dX7_reached_17 : decode cX7_reached 17 = .ok (.aload_n 0, 1) := by decide +kernel
theorem dX7_reached_18 : decode cX7_reached 18 = .ok (.getfield 81, 3) := by decide +kernel
theorem dX7_reached_21 : decode cX7_reached 21 = .ok (.if_icmp .ge 49, 3) := by decide +kernel
theorem dX7_reached_24 : decode cX7_reached 24 = .ok (.iload_n 2, 1) := by decide +kernel
theorem dX7_reached_25 : decode cX7_reached 25 = .ok (.aload_n 0, 1) := by decide +kernel
theorem dX7_reached_26 : decode cX7_reached 26 = .ok (.iload 4, 2) := by decide +kernel
theorem dX7_reached_28 : decode cX7_reached 28 = .ok (.invokevirtual 97, 3) := by decide +kernel
theorem dX7_reached_31 : decode cX7_reached 31 = .ok (.ifCond .eq 30, 3) := by decide +kernel
theorem dX7_reached_34 : decode cX7_reached 34 = .ok (.iload_n 2, 1) := by decide +kernel
theorem dX7_reached_35 : decode cX7_reached 35 = .ok (.aload_n 0, 1) := by decide +kernel
theorem dX7_reached_36 : decode cX7_reached 36 = .ok (.getfield 7, 3) := by decide +kernel
theorem dX7_reached_39 : decode cX7_reached 39 = .ok (.iload 4, 2) := by decide +kernel
theorem dX7_reached_41 : decode cX7_reached 41 = .ok (.iaload, 1) := by decide +kernel
theorem dX7_reached_42 : decode cX7_reached 42 = .ok (.ishr, 1) := by decide +kernel
theorem dX7_reached_43 : decode cX7_reached 43 = .ok (.iconst 1, 1) := by decide +kernel
theorem dX7_reached_44 : decode cX7_reached 44 = .ok (.iand, 1) := by decide +kernel
theorem dX7_reached_45 : decode cX7_reached 45 = .ok (.iconst 1, 1) := by decide +kernel
theorem dX7_reached_46 : decode cX7_reached 46 = .ok (.if_icmp .ne 15, 3) := by decide +kernel
theorem dX7_reached_49 : decode cX7_reached 49 = .ok (.iconst 1, 1) := by decide +kernel
theorem dX7_reached_50 : decode cX7_reached 50 = .ok (.aload_n 0, 1) := by decide +kernel
theorem dX7_reached_51 : decode cX7_reached 51 = .ok (.getfield 16, 3) := by decide +kernel
theorem dX7_reached_54 : decode cX7_reached 54 = .ok (.iload 4, 2) := by decide +kernel
theorem dX7_reached_56 : decode cX7_reached 56 = .ok (.iaload, 1) := by decide +kernel
theorem dX7_reached_57 : decode cX7_reached 57 = .ok (.ishl, 1) := by decide +kernel
theorem dX7_reached_58 : decode cX7_reached 58 = .ok (.goto 4, 3) := by decide +kernel
theorem dX7_reached_61 : decode cX7_reached 61 = .ok (.iconst 0, 1) := by decide +kernel
theorem dX7_reached_62 : decode cX7_reached 62 = .ok (.ior, 1) := by decide +kernel
theorem dX7_reached_63 : decode cX7_reached 63 = .ok (.istore_n 2, 1) := by decide +kernel
theorem dX7_reached_64 : decode cX7_reached 64 = .ok (.iinc 4 1, 3) := by decide +kernel
theorem dX7_reached_67 : decode cX7_reached 67 = .ok (.goto (-52), 3) := by decide +kernel
theorem dX7_reached_70 : decode cX7_reached 70 = .ok (.iinc 3 1, 3) := by decide +kernel
theorem dX7_reached_73 : decode cX7_reached 73 = .ok (.goto (-67), 3) := by decide +kernel
theorem dX7_reached_76 : decode cX7_reached 76 = .ok (.iload_n 2, 1) := by decide +kernel
theorem dX7_reached_77 : decode cX7_reached 77 = .ok (.ireturn, 1) := by decide +kernel
theorem dX7_joinedOf_0 : decode cX7_joinedOf 0 = .ok (.iconst 0, 1) := by decide +kernel
theorem dX7_joinedOf_1 : decode cX7_joinedOf 1 = .ok (.istore_n 2, 1) := by decide +kernel
theorem dX7_joinedOf_2 : decode cX7_joinedOf 2 = .ok (.aload_n 0, 1) := by decide +kernel
theorem dX7_joinedOf_3 : decode cX7_joinedOf 3 = .ok (.iload_n 1, 1) := by decide +kernel
theorem dX7_joinedOf_4 : decode cX7_joinedOf 4 = .ok (.invokevirtual 162, 3) := by decide +kernel
theorem dX7_joinedOf_7 : decode cX7_joinedOf 7 = .ok (.istore_n 3, 1) := by decide +kernel
theorem dX7_joinedOf_8 : decode cX7_joinedOf 8 = .ok (.iconst 0, 1) := by decide +kernel
theorem dX7_joinedOf_9 : decode cX7_joinedOf 9 = .ok (.istore 4, 2) := by decide +kernel
theorem dX7_joinedOf_11 : decode cX7_joinedOf 11 = .ok (.iload 4, 2) := by decide +kernel
theorem dX7_joinedOf_13 : decode cX7_joinedOf 13 = .ok (.bipush 8, 2) := by decide +kernel
theorem dX7_joinedOf_15 : decode cX7_joinedOf 15 = .ok (.if_icmp .ge 44, 3) := by decide +kernel
theorem dX7_joinedOf_18 : decode cX7_joinedOf 18 = .ok (.iload_n 2, 1) := by decide +kernel
theorem dX7_joinedOf_19 : decode cX7_joinedOf 19 = .ok (.iload_n 3, 1) := by decide +kernel
theorem dX7_joinedOf_20 : decode cX7_joinedOf 20 = .ok (.iload 4, 2) := by decide +kernel
theorem dX7_joinedOf_22 : decode cX7_joinedOf 22 = .ok (.ishr, 1) := by decide +kernel
theorem dX7_joinedOf_23 : decode cX7_joinedOf 23 = .ok (.iconst 1, 1) := by decide +kernel
theorem dX7_joinedOf_24 : decode cX7_joinedOf 24 = .ok (.iand, 1) := by decide +kernel
theorem dX7_joinedOf_25 : decode cX7_joinedOf 25 = .ok (.iconst 1, 1) := by decide +kernel
theorem dX7_joinedOf_26 : decode cX7_joinedOf 26 = .ok (.if_icmp .ne 24, 3) := by decide +kernel
theorem dX7_joinedOf_29 : decode cX7_joinedOf 29 = .ok (.aload_n 0, 1) := by decide +kernel
theorem dX7_joinedOf_30 : decode cX7_joinedOf 30 = .ok (.iload 4, 2) := by decide +kernel
theorem dX7_joinedOf_32 : decode cX7_joinedOf 32 = .ok (.invokevirtual 162, 3) := by decide +kernel
theorem dX7_joinedOf_35 : decode cX7_joinedOf 35 = .ok (.iload_n 1, 1) := by decide +kernel
theorem dX7_joinedOf_36 : decode cX7_joinedOf 36 = .ok (.ishr, 1) := by decide +kernel
theorem dX7_joinedOf_37 : decode cX7_joinedOf 37 = .ok (.iconst 1, 1) := by decide +kernel
theorem dX7_joinedOf_38 : decode cX7_joinedOf 38 = .ok (.iand, 1) := by decide +kernel
theorem dX7_joinedOf_39 : decode cX7_joinedOf 39 = .ok (.iconst 1, 1) := by decide +kernel
theorem dX7_joinedOf_40 : decode cX7_joinedOf 40 = .ok (.if_icmp .ne 10, 3) := by decide +kernel
theorem dX7_joinedOf_43 : decode cX7_joinedOf 43 = .ok (.iconst 1, 1) := by decide +kernel
theorem dX7_joinedOf_44 : decode cX7_joinedOf 44 = .ok (.iload 4, 2) := by decide +kernel
theorem dX7_joinedOf_46 : decode cX7_joinedOf 46 = .ok (.ishl, 1) := by decide +kernel
theorem dX7_joinedOf_47 : decode cX7_joinedOf 47 = .ok (.goto 4, 3) := by decide +kernel
theorem dX7_joinedOf_50 : decode cX7_joinedOf 50 = .ok (.iconst 0, 1) := by decide +kernel
theorem dX7_joinedOf_51 : decode cX7_joinedOf 51 = .ok (.ior, 1) := by decide +kernel
theorem dX7_joinedOf_52 : decode cX7_joinedOf 52 = .ok (.istore_n 2, 1) := by decide +kernel
theorem dX7_joinedOf_53 : decode cX7_joinedOf 53 = .ok (.iinc 4 1, 3) := by decide +kernel
theorem dX7_joinedOf_56 : decode cX7_joinedOf 56 = .ok (.goto (-45), 3) := by decide +kernel
theorem dX7_joinedOf_59 : decode cX7_joinedOf 59 = .ok (.iload_n 2, 1) := by decide +kernel
theorem dX7_joinedOf_60 : decode cX7_joinedOf 60 = .ok (.ireturn, 1) := by decide +kernel
theorem dX7_joined_0 : decode cX7_joined 0 = .ok (.iload_n 1, 1) := by decide +kernel
theorem dX7_joined_1 : decode cX7_joined 1 = .ok (.invokestatic 86, 3) := by decide +kernel
theorem dX7_joined_4 : decode cX7_joined 4 = .ok (.ifCond .ne 7, 3) := by decide +kernel
theorem dX7_joined_7 : decode cX7_joined 7 = .ok (.iconst (-1), 1) := by decide +kernel
theorem dX7_joined_8 : decode cX7_joined 8 = .ok (.goto 20, 3) := by decide +kernel
theorem dX7_joined_11 : decode cX7_joined 11 = .ok (.aload_n 0, 1) := by decide +kernel
theorem dX7_joined_12 : decode cX7_joined 12 = .ok (.invokevirtual 152, 3) := by decide +kernel
theorem dX7_joined_15 : decode cX7_joined 15 = .ok (.ifCond .eq 8, 3) := by decide +kernel
theorem dX7_joined_18 : decode cX7_joined 18 = .ok (.bipush (-3), 2) := by decide +kernel
theorem dX7_joined_20 : decode cX7_joined 20 = .ok (.goto 8, 3) := by decide +kernel
theorem dX7_joined_23 : decode cX7_joined 23 = .ok (.aload_n 0, 1) := by decide +kernel
theorem dX7_joined_24 : decode cX7_joined 24 = .ok (.iload_n 1, 1) := by decide +kernel
theorem dX7_joined_25 : decode cX7_joined 25 = .ok (.invokevirtual 165, 3) := by decide +kernel
theorem dX7_joined_28 : decode cX7_joined 28 = .ok (.ireturn, 1) := by decide +kernel
theorem dX7_parts_0 : decode cX7_parts 0 = .ok (.aload_n 0, 1) := by decide +kernel
theorem dX7_parts_1 : decode cX7_parts 1 = .ok (.invokevirtual 152, 3) := by decide +kernel
theorem dX7_parts_4 : decode cX7_parts 4 = .ok (.ifCond .eq 6, 3) := by decide +kernel
theorem dX7_parts_7 : decode cX7_parts 7 = .ok (.bipush (-3), 2) := by decide +kernel
theorem dX7_parts_9 : decode cX7_parts 9 = .ok (.ireturn, 1) := by decide +kernel
theorem dX7_parts_10 : decode cX7_parts 10 = .ok (.iconst 0, 1) := by decide +kernel
theorem dX7_parts_11 : decode cX7_parts 11 = .ok (.istore_n 1, 1) := by decide +kernel
theorem dX7_parts_12 : decode cX7_parts 12 = .ok (.iconst 0, 1) := by decide +kernel
theorem dX7_parts_13 : decode cX7_parts 13 = .ok (.istore_n 2, 1) := by decide +kernel
theorem dX7_parts_14 : decode cX7_parts 14 = .ok (.iconst 0, 1) := by decide +kernel
theorem dX7_parts_15 : decode cX7_parts 15 = .ok (.istore_n 3, 1) := by decide +kernel
theorem dX7_parts_16 : decode cX7_parts 16 = .ok (.iload_n 3, 1) := by decide +kernel
theorem dX7_parts_17 : decode cX7_parts 17 = .ok (.bipush 8, 2) := by decide +kernel
theorem dX7_parts_19 : decode cX7_parts 19 = .ok (.if_icmp .ge 27, 3) := by decide +kernel
theorem dX7_parts_22 : decode cX7_parts 22 = .ok (.iload_n 1, 1) := by decide +kernel
theorem dX7_parts_23 : decode cX7_parts 23 = .ok (.iload_n 2, 1) := by decide +kernel
theorem dX7_parts_24 : decode cX7_parts 24 = .ok (.iload_n 3, 1) := by decide +kernel
theorem dX7_parts_25 : decode cX7_parts 25 = .ok (.ishr, 1) := by decide +kernel
theorem dX7_parts_26 : decode cX7_parts 26 = .ok (.iconst 1, 1) := by decide +kernel
theorem dX7_parts_27 : decode cX7_parts 27 = .ok (.iand, 1) := by decide +kernel
theorem dX7_parts_28 : decode cX7_parts 28 = .ok (.iconst 1, 1) := by decide +kernel
theorem dX7_parts_29 : decode cX7_parts 29 = .ok (.ixor, 1) := by decide +kernel
theorem dX7_parts_30 : decode cX7_parts 30 = .ok (.iadd, 1) := by decide +kernel
theorem dX7_parts_31 : decode cX7_parts 31 = .ok (.istore_n 1, 1) := by decide +kernel
theorem dX7_parts_32 : decode cX7_parts 32 = .ok (.iload_n 2, 1) := by decide +kernel
theorem dX7_parts_33 : decode cX7_parts 33 = .ok (.aload_n 0, 1) := by decide +kernel
theorem dX7_parts_34 : decode cX7_parts 34 = .ok (.iload_n 3, 1) := by decide +kernel
theorem dX7_parts_35 : decode cX7_parts 35 = .ok (.invokevirtual 165, 3) := by decide +kernel
theorem dX7_parts_38 : decode cX7_parts 38 = .ok (.ior, 1) := by decide +kernel
theorem dX7_parts_39 : decode cX7_parts 39 = .ok (.istore_n 2, 1) := by decide +kernel
theorem dX7_parts_40 : decode cX7_parts 40 = .ok (.iinc 3 1, 3) := by decide +kernel
theorem dX7_parts_43 : decode cX7_parts 43 = .ok (.goto (-27), 3) := by decide +kernel
theorem dX7_parts_46 : decode cX7_parts 46 = .ok (.iload_n 1, 1) := by decide +kernel
theorem dX7_parts_47 : decode cX7_parts 47 = .ok (.ireturn, 1) := by decide +kernel
theorem dX7_worth_0 : decode cX7_worth 0 = .ok (.iload_n 1, 1) := by decide +kernel
theorem dX7_worth_1 : decode cX7_worth 1 = .ok (.invokestatic 86, 3) := by decide +kernel
theorem dX7_worth_4 : decode cX7_worth 4 = .ok (.ifCond .ne 5, 3) := by decide +kernel

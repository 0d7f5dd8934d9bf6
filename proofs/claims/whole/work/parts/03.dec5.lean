theorem dX7_worth_7 : decode cX7_worth 7 = .ok (.iconst (-1), 1) := by decide +kernel
theorem dX7_worth_8 : decode cX7_worth 8 = .ok (.ireturn, 1) := by decide +kernel
theorem dX7_worth_9 : decode cX7_worth 9 = .ok (.iload_n 2, 1) := by decide +kernel
theorem dX7_worth_10 : decode cX7_worth 10 = .ok (.iconst 1, 1) := by decide +kernel
theorem dX7_worth_11 : decode cX7_worth 11 = .ok (.ldc 85, 2) := by decide +kernel
theorem dX7_worth_13 : decode cX7_worth 13 = .ok (.invokestatic 77, 3) := by decide +kernel
theorem dX7_worth_16 : decode cX7_worth 16 = .ok (.ifCond .ne 6, 3) := by decide +kernel
theorem dX7_worth_19 : decode cX7_worth 19 = .ok (.bipush (-2), 2) := by decide +kernel
theorem dX7_worth_21 : decode cX7_worth 21 = .ok (.ireturn, 1) := by decide +kernel
theorem dX7_worth_22 : decode cX7_worth 22 = .ok (.aload_n 0, 1) := by decide +kernel
theorem dX7_worth_23 : decode cX7_worth 23 = .ok (.getfield 37, 3) := by decide +kernel
theorem dX7_worth_26 : decode cX7_worth 26 = .ok (.iload_n 1, 1) := by decide +kernel
theorem dX7_worth_27 : decode cX7_worth 27 = .ok (.iaload, 1) := by decide +kernel
theorem dX7_worth_28 : decode cX7_worth 28 = .ok (.istore_n 3, 1) := by decide +kernel
theorem dX7_worth_29 : decode cX7_worth 29 = .ok (.aload_n 0, 1) := by decide +kernel
theorem dX7_worth_30 : decode cX7_worth 30 = .ok (.getfield 37, 3) := by decide +kernel
theorem dX7_worth_33 : decode cX7_worth 33 = .ok (.iload_n 1, 1) := by decide +kernel
theorem dX7_worth_34 : decode cX7_worth 34 = .ok (.iload_n 2, 1) := by decide +kernel
theorem dX7_worth_35 : decode cX7_worth 35 = .ok (.iastore, 1) := by decide +kernel
theorem dX7_worth_36 : decode cX7_worth 36 = .ok (.iload_n 3, 1) := by decide +kernel
theorem dX7_worth_37 : decode cX7_worth 37 = .ok (.ireturn, 1) := by decide +kernel
theorem dX7_off_0 : decode cX7_off 0 = .ok (.iload_n 1, 1) := by decide +kernel
theorem dX7_off_1 : decode cX7_off 1 = .ok (.iconst 0, 1) := by decide +kernel
theorem dX7_off_2 : decode cX7_off 2 = .ok (.iconst 3, 1) := by decide +kernel
theorem dX7_off_3 : decode cX7_off 3 = .ok (.invokestatic 77, 3) := by decide +kernel
theorem dX7_off_6 : decode cX7_off 6 = .ok (.ifCond .ne 6, 3) := by decide +kernel
theorem dX7_off_9 : decode cX7_off 9 = .ok (.bipush (-2), 2) := by decide +kernel
theorem dX7_off_11 : decode cX7_off 11 = .ok (.ireturn, 1) := by decide +kernel
theorem dX7_off_12 : decode cX7_off 12 = .ok (.iconst 0, 1) := by decide +kernel
theorem dX7_off_13 : decode cX7_off 13 = .ok (.istore_n 2, 1) := by decide +kernel
theorem dX7_off_14 : decode cX7_off 14 = .ok (.bipush (-6), 2) := by decide +kernel
theorem dX7_off_16 : decode cX7_off 16 = .ok (.istore_n 3, 1) := by decide +kernel
theorem dX7_off_17 : decode cX7_off 17 = .ok (.iconst 0, 1) := by decide +kernel
theorem dX7_off_18 : decode cX7_off 18 = .ok (.istore 4, 2) := by decide +kernel
theorem dX7_off_20 : decode cX7_off 20 = .ok (.iconst 0, 1) := by decide +kernel
theorem dX7_off_21 : decode cX7_off 21 = .ok (.istore 5, 2) := by decide +kernel
theorem dX7_off_23 : decode cX7_off 23 = .ok (.iload 5, 2) := by decide +kernel
theorem dX7_off_25 : decode cX7_off 25 = .ok (.aload_n 0, 1) := by decide +kernel
theorem dX7_off_26 : decode cX7_off 26 = .ok (.getfield 81, 3) := by decide +kernel
theorem dX7_off_29 : decode cX7_off 29 = .ok (.if_icmp .ge 108, 3) := by decide +kernel
theorem dX7_off_32 : decode cX7_off 32 = .ok (.aload_n 0, 1) := by decide +kernel
theorem dX7_off_33 : decode cX7_off 33 = .ok (.iload 5, 2) := by decide +kernel
theorem dX7_off_35 : decode cX7_off 35 = .ok (.invokevirtual 97, 3) := by decide +kernel
theorem dX7_off_38 : decode cX7_off 38 = .ok (.ifCond .eq 46, 3) := by decide +kernel
theorem dX7_off_41 : decode cX7_off 41 = .ok (.aload_n 0, 1) := by decide +kernel
theorem dX7_off_42 : decode cX7_off 42 = .ok (.iload 5, 2) := by decide +kernel
theorem dX7_off_44 : decode cX7_off 44 = .ok (.invokevirtual 100, 3) := by decide +kernel
theorem dX7_off_47 : decode cX7_off 47 = .ok (.aload_n 0, 1) := by decide +kernel
theorem dX7_off_48 : decode cX7_off 48 = .ok (.getfield 37, 3) := by decide +kernel
theorem dX7_off_51 : decode cX7_off 51 = .ok (.aload_n 0, 1) := by decide +kernel
theorem dX7_off_52 : decode cX7_off 52 = .ok (.getfield 16, 3) := by decide +kernel
theorem dX7_off_55 : decode cX7_off 55 = .ok (.iload 5, 2) := by decide +kernel
theorem dX7_off_57 : decode cX7_off 57 = .ok (.iaload, 1) := by decide +kernel
theorem dX7_off_58 : decode cX7_off 58 = .ok (.iaload, 1) := by decide +kernel
theorem dX7_off_59 : decode cX7_off 59 = .ok (.imul, 1) := by decide +kernel
theorem dX7_off_60 : decode cX7_off 60 = .ok (.aload_n 0, 1) := by decide +kernel
theorem dX7_off_61 : decode cX7_off 61 = .ok (.getfield 13, 3) := by decide +kernel
theorem dX7_off_64 : decode cX7_off 64 = .ok (.iload 5, 2) := by decide +kernel
theorem dX7_off_66 : decode cX7_off 66 = .ok (.iaload, 1) := by decide +kernel
theorem dX7_off_67 : decode cX7_off 67 = .ok (.aload_n 0, 1) := by decide +kernel
theorem dX7_off_68 : decode cX7_off 68 = .ok (.getfield 37, 3) := by decide +kernel
theorem dX7_off_71 : decode cX7_off 71 = .ok (.aload_n 0, 1) := by decide +kernel
theorem dX7_off_72 : decode cX7_off 72 = .ok (.getfield 7, 3) := by decide +kernel
theorem dX7_off_75 : decode cX7_off 75 = .ok (.iload 5, 2) := by decide +kernel
theorem dX7_off_77 : decode cX7_off 77 = .ok (.iaload, 1) := by decide +kernel
theorem dX7_off_78 : decode cX7_off 78 = .ok (.iaload, 1) := by decide +kernel
theorem dX7_off_79 : decode cX7_off 79 = .ok (.imul, 1) := by decide +kernel
theorem dX7_off_80 : decode cX7_off 80 = .ok (.isub, 1) := by decide +kernel
theorem dX7_off_81 : decode cX7_off 81 = .ok (.goto 4, 3) := by decide +kernel
theorem dX7_off_84 : decode cX7_off 84 = .ok (.iconst 0, 1) := by decide +kernel
theorem dX7_off_85 : decode cX7_off 85 = .ok (.istore 6, 2) := by decide +kernel
theorem dX7_off_87 : decode cX7_off 87 = .ok (.iload 4, 2) := by decide +kernel
theorem dX7_off_89 : decode cX7_off 89 = .ok (.iload 6, 2) := by decide +kernel
theorem dX7_off_91 : decode cX7_off 91 = .ok (.ifCond .le 10, 3) := by decide +kernel
theorem dX7_off_94 : decode cX7_off 94 = .ok (.iconst 1, 1) := by decide +kernel
theorem dX7_off_95 : decode cX7_off 95 = .ok (.iload 5, 2) := by decide +kernel
theorem dX7_off_97 : decode cX7_off 97 = .ok (.ishl, 1) := by decide +kernel
theorem dX7_off_98 : decode cX7_off 98 = .ok (.goto 4, 3) := by decide +kernel
theorem dX7_off_101 : decode cX7_off 101 = .ok (.iconst 0, 1) := by decide +kernel
theorem dX7_off_102 : decode cX7_off 102 = .ok (.ior, 1) := by decide +kernel
theorem dX7_off_103 : decode cX7_off 103 = .ok (.istore 4, 2) := by decide +kernel
theorem dX7_off_105 : decode cX7_off 105 = .ok (.iload 6, 2) := by decide +kernel
theorem dX7_off_107 : decode cX7_off 107 = .ok (.iload_n 2, 1) := by decide +kernel
theorem dX7_off_108 : decode cX7_off 108 = .ok (.if_icmp .le 8, 3) := by decide +kernel
theorem dX7_off_111 : decode cX7_off 111 = .ok (.iload 5, 2) := by decide +kernel
theorem dX7_off_113 : decode cX7_off 113 = .ok (.goto 4, 3) := by decide +kernel
theorem dX7_off_116 : decode cX7_off 116 = .ok (.iload_n 3, 1) := by decide +kernel
theorem dX7_off_117 : decode cX7_off 117 = .ok (.istore_n 3, 1) := by decide +kernel
theorem dX7_off_118 : decode cX7_off 118 = .ok (.iload 6, 2) := by decide +kernel
theorem dX7_off_120 : decode cX7_off 120 = .ok (.iload_n 2, 1) := by decide +kernel
theorem dX7_off_121 : decode cX7_off 121 = .ok (.if_icmp .le 8, 3) := by decide +kernel
theorem dX7_off_124 : decode cX7_off 124 = .ok (.iload 6, 2) := by decide +kernel
theorem dX7_off_126 : decode cX7_off 126 = .ok (.goto 4, 3) := by decide +kernel
theorem dX7_off_129 : decode cX7_off 129 = .ok (.iload_n 2, 1) := by decide +kernel
theorem dX7_off_130 : decode cX7_off 130 = .ok (.istore_n 2, 1) := by decide +kernel
theorem dX7_off_131 : decode cX7_off 131 = .ok (.iinc 5 1, 3) := by decide +kernel
theorem dX7_off_134 : decode cX7_off 134 = .ok (.goto (-111), 3) := by decide +kernel
theorem dX7_off_137 : decode cX7_off 137 = .ok (.iload_n 1, 1) := by decide +kernel
theorem dX7_off_138 : decode cX7_off 138 = .ok (.ifCond .ne 7, 3) := by decide +kernel
theorem dX7_off_141 : decode cX7_off 141 = .ok (.iload_n 2, 1) := by decide +kernel
theorem dX7_off_142 : decode cX7_off 142 = .ok (.goto 32, 3) := by decide +kernel
theorem dX7_off_145 : decode cX7_off 145 = .ok (.iload_n 1, 1) := by decide +kernel
theorem dX7_off_146 : decode cX7_off 146 = .ok (.iconst 1, 1) := by decide +kernel
theorem dX7_off_147 : decode cX7_off 147 = .ok (.if_icmp .ne 7, 3) := by decide +kernel
theorem dX7_off_150 : decode cX7_off 150 = .ok (.iload_n 3, 1) := by decide +kernel
theorem dX7_off_151 : decode cX7_off 151 = .ok (.goto 23, 3) := by decide +kernel
theorem dX7_off_154 : decode cX7_off 154 = .ok (.iload_n 1, 1) := by decide +kernel
theorem dX7_off_155 : decode cX7_off 155 = .ok (.iconst 2, 1) := by decide +kernel
theorem dX7_off_156 : decode cX7_off 156 = .ok (.if_icmp .ne 16, 3) := by decide +kernel
theorem dX7_off_159 : decode cX7_off 159 = .ok (.iload 4, 2) := by decide +kernel
theorem dX7_off_161 : decode cX7_off 161 = .ok (.ifCond .ne 7, 3) := by decide +kernel
theorem dX7_off_164 : decode cX7_off 164 = .ok (.iconst 1, 1) := by decide +kernel
theorem dX7_off_165 : decode cX7_off 165 = .ok (.goto 9, 3) := by decide +kernel
theorem dX7_off_168 : decode cX7_off 168 = .ok (.iconst 0, 1) := by decide +kernel
theorem dX7_off_169 : decode cX7_off 169 = .ok (.goto 5, 3) := by decide +kernel
theorem dX7_off_172 : decode cX7_off 172 = .ok (.iload 4, 2) := by decide +kernel
theorem dX7_off_174 : decode cX7_off 174 = .ok (.ireturn, 1) := by decide +kernel
theorem dX7_look_0 : decode cX7_look 0 = .ok (.aload_n 0, 1) := by decide +kernel
theorem dX7_look_1 : decode cX7_look 1 = .ok (.getfield 71, 3) := by decide +kernel
theorem dX7_look_4 : decode cX7_look 4 = .ok (.iload_n 1, 1) := by decide +kernel
theorem dX7_look_5 : decode cX7_look 5 = .ok (.iaload, 1) := by decide +kernel
theorem dX7_look_6 : decode cX7_look 6 = .ok (.iload_n 2, 1) := by decide +kernel
theorem dX7_look_7 : decode cX7_look 7 = .ok (.if_icmp .ne 84, 3) := by decide +kernel
theorem dX7_look_10 : decode cX7_look 10 = .ok (.aload_n 0, 1) := by decide +kernel
theorem dX7_look_11 : decode cX7_look 11 = .ok (.getfield 168, 3) := by decide +kernel
theorem dX7_look_14 : decode cX7_look 14 = .ok (.ifCond .lt 37, 3) := by decide +kernel
theorem dX7_look_17 : decode cX7_look 17 = .ok (.aload_n 0, 1) := by decide +kernel
theorem dX7_look_18 : decode cX7_look 18 = .ok (.getfield 68, 3) := by decide +kernel
theorem dX7_look_21 : decode cX7_look 21 = .ok (.iload_n 1, 1) := by decide +kernel
theorem dX7_look_22 : decode cX7_look 22 = .ok (.iaload, 1) := by decide +kernel
theorem dX7_look_23 : decode cX7_look 23 = .ok (.aload_n 0, 1) := by decide +kernel
theorem dX7_look_24 : decode cX7_look 24 = .ok (.getfield 171, 3) := by decide +kernel
theorem dX7_look_27 : decode cX7_look 27 = .ok (.if_icmp .gt 24, 3) := by decide +kernel
theorem dX7_look_30 : decode cX7_look 30 = .ok (.aload_n 0, 1) := by decide +kernel
theorem dX7_look_31 : decode cX7_look 31 = .ok (.getfield 68, 3) := by decide +kernel
theorem dX7_look_34 : decode cX7_look 34 = .ok (.iload_n 1, 1) := by decide +kernel
theorem dX7_look_35 : decode cX7_look 35 = .ok (.iaload, 1) := by decide +kernel
theorem dX7_look_36 : decode cX7_look 36 = .ok (.aload_n 0, 1) := by decide +kernel
theorem dX7_look_37 : decode cX7_look 37 = .ok (.getfield 171, 3) := by decide +kernel
theorem dX7_look_40 : decode cX7_look 40 = .ok (.if_icmp .ne 51, 3) := by decide +kernel
theorem dX7_look_43 : decode cX7_look 43 = .ok (.iload_n 1, 1) := by decide +kernel
theorem dX7_look_44 : decode cX7_look 44 = .ok (.aload_n 0, 1) := by decide +kernel
theorem dX7_look_45 : decode cX7_look 45 = .ok (.getfield 168, 3) := by decide +kernel
theorem dX7_look_48 : decode cX7_look 48 = .ok (.if_icmp .ge 43, 3) := by decide +kernel
theorem dX7_look_51 : decode cX7_look 51 = .ok (.aload_n 0, 1) := by decide +kernel
theorem dX7_look_52 : decode cX7_look 52 = .ok (.aload_n 0, 1) := by decide +kernel
theorem dX7_look_53 : decode cX7_look 53 = .ok (.getfield 68, 3) := by decide +kernel
theorem dX7_look_56 : decode cX7_look 56 = .ok (.iload_n 1, 1) := by decide +kernel
theorem dX7_look_57 : decode cX7_look 57 = .ok (.iaload, 1) := by decide +kernel
theorem dX7_look_58 : decode cX7_look 58 = .ok (.putfield 171, 3) := by decide +kernel
theorem dX7_look_61 : decode cX7_look 61 = .ok (.aload_n 0, 1) := by decide +kernel
theorem dX7_look_62 : decode cX7_look 62 = .ok (.iload_n 1, 1) := by decide +kernel
theorem dX7_look_63 : decode cX7_look 63 = .ok (.putfield 168, 3) := by decide +kernel
theorem dX7_look_66 : decode cX7_look 66 = .ok (.iconst 0, 1) := by decide +kernel
theorem dX7_look_67 : decode cX7_look 67 = .ok (.istore_n 3, 1) := by decide +kernel
theorem dX7_look_68 : decode cX7_look 68 = .ok (.iload_n 3, 1) := by decide +kernel
theorem dX7_look_69 : decode cX7_look 69 = .ok (.iload_n 1, 1) := by decide +kernel
theorem dX7_look_70 : decode cX7_look 70 = .ok (.if_icmp .ge 21, 3) := by decide +kernel
theorem dX7_look_73 : decode cX7_look 73 = .ok (.aload_n 0, 1) := by decide +kernel
theorem dX7_look_74 : decode cX7_look 74 = .ok (.getfield 65, 3) := by decide +kernel
theorem dX7_look_77 : decode cX7_look 77 = .ok (.iload_n 3, 1) := by decide +kernel
theorem dX7_look_78 : decode cX7_look 78 = .ok (.aload_n 0, 1) := by decide +kernel
theorem dX7_look_79 : decode cX7_look 79 = .ok (.getfield 56, 3) := by decide +kernel
theorem dX7_look_82 : decode cX7_look 82 = .ok (.iload_n 3, 1) := by decide +kernel
theorem dX7_look_83 : decode cX7_look 83 = .ok (.iaload, 1) := by decide +kernel
theorem dX7_look_84 : decode cX7_look 84 = .ok (.iastore, 1) := by decide +kernel
theorem dX7_look_85 : decode cX7_look 85 = .ok (.iinc 3 1, 3) := by decide +kernel
theorem dX7_look_88 : decode cX7_look 88 = .ok (.goto (-20), 3) := by decide +kernel
theorem dX7_look_91 : decode cX7_look 91 = .ok (.return_, 1) := by decide +kernel
theorem dX7_layWalk_0 : decode cX7_layWalk 0 = .ok (.aload_n 0, 1) := by decide +kernel
theorem dX7_layWalk_1 : decode cX7_layWalk 1 = .ok (.bipush (-6), 2) := by decide +kernel
theorem dX7_layWalk_3 : decode cX7_layWalk 3 = .ok (.putfield 168, 3) := by decide +kernel
theorem dX7_layWalk_6 : decode cX7_layWalk 6 = .ok (.aload_n 0, 1) := by decide +kernel
theorem dX7_layWalk_7 : decode cX7_layWalk 7 = .ok (.iconst 0, 1) := by decide +kernel
theorem dX7_layWalk_8 : decode cX7_layWalk 8 = .ok (.putfield 171, 3) := by decide +kernel
theorem dX7_layWalk_11 : decode cX7_layWalk 11 = .ok (.aload_n 0, 1) := by decide +kernel
theorem dX7_layWalk_12 : decode cX7_layWalk 12 = .ok (.getfield 68, 3) := by decide +kernel
theorem dX7_layWalk_15 : decode cX7_layWalk 15 = .ok (.iconst 0, 1) := by decide +kernel
theorem dX7_layWalk_16 : decode cX7_layWalk 16 = .ok (.iload_n 2, 1) := by decide +kernel
theorem dX7_layWalk_17 : decode cX7_layWalk 17 = .ok (.iastore, 1) := by decide +kernel
theorem dX7_layWalk_18 : decode cX7_layWalk 18 = .ok (.aload_n 0, 1) := by decide +kernel
theorem dX7_layWalk_19 : decode cX7_layWalk 19 = .ok (.getfield 71, 3) := by decide +kernel
theorem dX7_layWalk_22 : decode cX7_layWalk 22 = .ok (.iconst 0, 1) := by decide +kernel
theorem dX7_layWalk_23 : decode cX7_layWalk 23 = .ok (.iload_n 1, 1) := by decide +kernel
theorem dX7_layWalk_24 : decode cX7_layWalk 24 = .ok (.iastore, 1) := by decide +kernel
theorem dX7_layWalk_25 : decode cX7_layWalk 25 = .ok (.aload_n 0, 1) := by decide +kernel
theorem dX7_layWalk_26 : decode cX7_layWalk 26 = .ok (.iconst 0, 1) := by decide +kernel
theorem dX7_layWalk_27 : decode cX7_layWalk 27 = .ok (.iload_n 3, 1) := by decide +kernel
theorem dX7_layWalk_28 : decode cX7_layWalk 28 = .ok (.invokevirtual 174, 3) := by decide +kernel
theorem dX7_layWalk_31 : decode cX7_layWalk 31 = .ok (.iconst 0, 1) := by decide +kernel
theorem dX7_layWalk_32 : decode cX7_layWalk 32 = .ok (.istore 5, 2) := by decide +kernel
theorem dX7_layWalk_34 : decode cX7_layWalk 34 = .ok (.iload 4, 2) := by decide +kernel
theorem dX7_layWalk_36 : decode cX7_layWalk 36 = .ok (.ifCond .ne 10, 3) := by decide +kernel
theorem dX7_layWalk_39 : decode cX7_layWalk 39 = .ok (.aload_n 0, 1) := by decide +kernel
theorem dX7_layWalk_40 : decode cX7_layWalk 40 = .ok (.getfield 81, 3) := by decide +kernel
theorem dX7_layWalk_43 : decode cX7_layWalk 43 = .ok (.goto 4, 3) := by decide +kernel
theorem dX7_layWalk_46 : decode cX7_layWalk 46 = .ok (.iconst 0, 1) := by decide +kernel
theorem dX7_layWalk_47 : decode cX7_layWalk 47 = .ok (.istore 6, 2) := by decide +kernel
theorem dX7_layWalk_49 : decode cX7_layWalk 49 = .ok (.iconst 1, 1) := by decide +kernel
theorem dX7_layWalk_50 : decode cX7_layWalk 50 = .ok (.istore 7, 2) := by decide +kernel
theorem dX7_layWalk_52 : decode cX7_layWalk 52 = .ok (.iload 7, 2) := by decide +kernel
theorem dX7_layWalk_54 : decode cX7_layWalk 54 = .ok (.ifCond .eq 195, 3) := by decide +kernel
theorem dX7_layWalk_57 : decode cX7_layWalk 57 = .ok (.iload 6, 2) := by decide +kernel
theorem dX7_layWalk_59 : decode cX7_layWalk 59 = .ok (.aload_n 0, 1) := by decide +kernel
theorem dX7_layWalk_60 : decode cX7_layWalk 60 = .ok (.getfield 81, 3) := by decide +kernel
theorem dX7_layWalk_63 : decode cX7_layWalk 63 = .ok (.if_icmp .ne 37, 3) := by decide +kernel
theorem dX7_layWalk_66 : decode cX7_layWalk 66 = .ok (.iload 5, 2) := by decide +kernel
theorem dX7_layWalk_68 : decode cX7_layWalk 68 = .ok (.ifCond .le 7, 3) := by decide +kernel
theorem dX7_layWalk_71 : decode cX7_layWalk 71 = .ok (.iconst 1, 1) := by decide +kernel
theorem dX7_layWalk_72 : decode cX7_layWalk 72 = .ok (.goto 4, 3) := by decide +kernel
theorem dX7_layWalk_75 : decode cX7_layWalk 75 = .ok (.iconst 0, 1) := by decide +kernel
theorem dX7_layWalk_76 : decode cX7_layWalk 76 = .ok (.istore 7, 2) := by decide +kernel
theorem dX7_layWalk_78 : decode cX7_layWalk 78 = .ok (.iload 7, 2) := by decide +kernel
theorem dX7_layWalk_80 : decode cX7_layWalk 80 = .ok (.ifCond .eq (-28), 3) := by decide +kernel
theorem dX7_layWalk_83 : decode cX7_layWalk 83 = .ok (.iinc 5 (-1), 3) := by decide +kernel
theorem dX7_layWalk_86 : decode cX7_layWalk 86 = .ok (.aload_n 0, 1) := by decide +kernel
theorem dX7_layWalk_87 : decode cX7_layWalk 87 = .ok (.getfield 56, 3) := by decide +kernel
theorem dX7_layWalk_90 : decode cX7_layWalk 90 = .ok (.iload 5, 2) := by decide +kernel
theorem dX7_layWalk_92 : decode cX7_layWalk 92 = .ok (.iaload, 1) := by decide +kernel
theorem dX7_layWalk_93 : decode cX7_layWalk 93 = .ok (.iconst 1, 1) := by decide +kernel
theorem dX7_layWalk_94 : decode cX7_layWalk 94 = .ok (.iadd, 1) := by decide +kernel
theorem dX7_layWalk_95 : decode cX7_layWalk 95 = .ok (.istore 6, 2) := by decide +kernel
theorem dX7_layWalk_97 : decode cX7_layWalk 97 = .ok (.goto (-45), 3) := by decide +kernel
theorem dX7_layWalk_100 : decode cX7_layWalk 100 = .ok (.aload_n 0, 1) := by decide +kernel
theorem dX7_layWalk_101 : decode cX7_layWalk 101 = .ok (.getfield 7, 3) := by decide +kernel
theorem dX7_layWalk_104 : decode cX7_layWalk 104 = .ok (.iload 6, 2) := by decide +kernel
theorem dX7_layWalk_106 : decode cX7_layWalk 106 = .ok (.iaload, 1) := by decide +kernel
theorem dX7_layWalk_107 : decode cX7_layWalk 107 = .ok (.aload_n 0, 1) := by decide +kernel
theorem dX7_layWalk_108 : decode cX7_layWalk 108 = .ok (.getfield 71, 3) := by decide +kernel
theorem dX7_layWalk_111 : decode cX7_layWalk 111 = .ok (.iload 5, 2) := by decide +kernel
theorem dX7_layWalk_113 : decode cX7_layWalk 113 = .ok (.iaload, 1) := by decide +kernel
theorem dX7_layWalk_114 : decode cX7_layWalk 114 = .ok (.if_icmp .ne 129, 3) := by decide +kernel
theorem dX7_layWalk_117 : decode cX7_layWalk 117 = .ok (.aload_n 0, 1) := by decide +kernel
theorem dX7_layWalk_118 : decode cX7_layWalk 118 = .ok (.iload 6, 2) := by decide +kernel
theorem dX7_layWalk_120 : decode cX7_layWalk 120 = .ok (.invokevirtual 97, 3) := by decide +kernel
theorem dX7_layWalk_123 : decode cX7_layWalk 123 = .ok (.ifCond .eq 120, 3) := by decide +kernel
theorem dX7_layWalk_126 : decode cX7_layWalk 126 = .ok (.aload_n 0, 1) := by decide +kernel
theorem dX7_layWalk_127 : decode cX7_layWalk 127 = .ok (.getfield 68, 3) := by decide +kernel
theorem dX7_layWalk_130 : decode cX7_layWalk 130 = .ok (.iload 5, 2) := by decide +kernel
theorem dX7_layWalk_132 : decode cX7_layWalk 132 = .ok (.iaload, 1) := by decide +kernel
theorem dX7_layWalk_133 : decode cX7_layWalk 133 = .ok (.aload_n 0, 1) := by decide +kernel
theorem dX7_layWalk_134 : decode cX7_layWalk 134 = .ok (.getfield 28, 3) := by decide +kernel
theorem dX7_layWalk_137 : decode cX7_layWalk 137 = .ok (.iload 6, 2) := by decide +kernel
theorem dX7_layWalk_139 : decode cX7_layWalk 139 = .ok (.iaload, 1) := by decide +kernel
theorem dX7_layWalk_140 : decode cX7_layWalk 140 = .ok (.if_icmp .ge 13, 3) := by decide +kernel
theorem dX7_layWalk_143 : decode cX7_layWalk 143 = .ok (.aload_n 0, 1) := by decide +kernel
theorem dX7_layWalk_144 : decode cX7_layWalk 144 = .ok (.getfield 68, 3) := by decide +kernel
theorem dX7_layWalk_147 : decode cX7_layWalk 147 = .ok (.iload 5, 2) := by decide +kernel
theorem dX7_layWalk_149 : decode cX7_layWalk 149 = .ok (.iaload, 1) := by decide +kernel
theorem dX7_layWalk_150 : decode cX7_layWalk 150 = .ok (.goto 10, 3) := by decide +kernel
theorem dX7_layWalk_153 : decode cX7_layWalk 153 = .ok (.aload_n 0, 1) := by decide +kernel
theorem dX7_layWalk_154 : decode cX7_layWalk 154 = .ok (.getfield 28, 3) := by decide +kernel
theorem dX7_layWalk_157 : decode cX7_layWalk 157 = .ok (.iload 6, 2) := by decide +kernel
theorem dX7_layWalk_159 : decode cX7_layWalk 159 = .ok (.iaload, 1) := by decide +kernel
theorem dX7_layWalk_160 : decode cX7_layWalk 160 = .ok (.istore 8, 2) := by decide +kernel
theorem dX7_layWalk_162 : decode cX7_layWalk 162 = .ok (.aload_n 0, 1) := by decide +kernel
theorem dX7_layWalk_163 : decode cX7_layWalk 163 = .ok (.getfield 56, 3) := by decide +kernel
theorem dX7_layWalk_166 : decode cX7_layWalk 166 = .ok (.iload 5, 2) := by decide +kernel
theorem dX7_layWalk_168 : decode cX7_layWalk 168 = .ok (.iload 6, 2) := by decide +kernel
theorem dX7_layWalk_170 : decode cX7_layWalk 170 = .ok (.iastore, 1) := by decide +kernel
theorem dX7_layWalk_171 : decode cX7_layWalk 171 = .ok (.aload_n 0, 1) := by decide +kernel
theorem dX7_layWalk_172 : decode cX7_layWalk 172 = .ok (.getfield 68, 3) := by decide +kernel
theorem dX7_layWalk_175 : decode cX7_layWalk 175 = .ok (.iload 5, 2) := by decide +kernel
theorem dX7_layWalk_177 : decode cX7_layWalk 177 = .ok (.iconst 1, 1) := by decide +kernel
theorem dX7_layWalk_178 : decode cX7_layWalk 178 = .ok (.iadd, 1) := by decide +kernel
theorem dX7_layWalk_179 : decode cX7_layWalk 179 = .ok (.iload 8, 2) := by decide +kernel
theorem dX7_layWalk_181 : decode cX7_layWalk 181 = .ok (.aload_n 0, 1) := by decide +kernel
theorem dX7_layWalk_182 : decode cX7_layWalk 182 = .ok (.getfield 13, 3) := by decide +kernel
theorem dX7_layWalk_185 : decode cX7_layWalk 185 = .ok (.iload 6, 2) := by decide +kernel
theorem dX7_layWalk_187 : decode cX7_layWalk 187 = .ok (.iaload, 1) := by decide +kernel
theorem dX7_layWalk_188 : decode cX7_layWalk 188 = .ok (.idiv, 1) := by decide +kernel
theorem dX7_layWalk_189 : decode cX7_layWalk 189 = .ok (.aload_n 0, 1) := by decide +kernel
theorem dX7_layWalk_190 : decode cX7_layWalk 190 = .ok (.iload 6, 2) := by decide +kernel
theorem dX7_layWalk_192 : decode cX7_layWalk 192 = .ok (.invokevirtual 100, 3) := by decide +kernel
theorem dX7_layWalk_195 : decode cX7_layWalk 195 = .ok (.imul, 1) := by decide +kernel
theorem dX7_layWalk_196 : decode cX7_layWalk 196 = .ok (.iastore, 1) := by decide +kernel
theorem dX7_layWalk_197 : decode cX7_layWalk 197 = .ok (.aload_n 0, 1) := by decide +kernel
theorem dX7_layWalk_198 : decode cX7_layWalk 198 = .ok (.getfield 71, 3) := by decide +kernel
theorem dX7_layWalk_201 : decode cX7_layWalk 201 = .ok (.iload 5, 2) := by decide +kernel
theorem dX7_layWalk_203 : decode cX7_layWalk 203 = .ok (.iconst 1, 1) := by decide +kernel
theorem dX7_layWalk_204 : decode cX7_layWalk 204 = .ok (.iadd, 1) := by decide +kernel
theorem dX7_layWalk_205 : decode cX7_layWalk 205 = .ok (.aload_n 0, 1) := by decide +kernel
theorem dX7_layWalk_206 : decode cX7_layWalk 206 = .ok (.getfield 16, 3) := by decide +kernel
theorem dX7_layWalk_209 : decode cX7_layWalk 209 = .ok (.iload 6, 2) := by decide +kernel
theorem dX7_layWalk_211 : decode cX7_layWalk 211 = .ok (.iaload, 1) := by decide +kernel
theorem dX7_layWalk_212 : decode cX7_layWalk 212 = .ok (.iastore, 1) := by decide +kernel
theorem dX7_layWalk_213 : decode cX7_layWalk 213 = .ok (.iinc 5 1, 3) := by decide +kernel
theorem dX7_layWalk_216 : decode cX7_layWalk 216 = .ok (.aload_n 0, 1) := by decide +kernel
theorem dX7_layWalk_217 : decode cX7_layWalk 217 = .ok (.iload 5, 2) := by decide +kernel
theorem dX7_layWalk_219 : decode cX7_layWalk 219 = .ok (.iload_n 3, 1) := by decide +kernel
theorem dX7_layWalk_220 : decode cX7_layWalk 220 = .ok (.invokevirtual 174, 3) := by decide +kernel
theorem dX7_layWalk_223 : decode cX7_layWalk 223 = .ok (.iload 5, 2) := by decide +kernel
theorem dX7_layWalk_225 : decode cX7_layWalk 225 = .ok (.iload 4, 2) := by decide +kernel
theorem dX7_layWalk_227 : decode cX7_layWalk 227 = .ok (.if_icmp .ne 10, 3) := by decide +kernel
theorem dX7_layWalk_230 : decode cX7_layWalk 230 = .ok (.aload_n 0, 1) := by decide +kernel
theorem dX7_layWalk_231 : decode cX7_layWalk 231 = .ok (.getfield 81, 3) := by decide +kernel
theorem dX7_layWalk_234 : decode cX7_layWalk 234 = .ok (.goto 4, 3) := by decide +kernel
theorem dX7_layWalk_237 : decode cX7_layWalk 237 = .ok (.iconst 0, 1) := by decide +kernel
theorem dX7_layWalk_238 : decode cX7_layWalk 238 = .ok (.istore 6, 2) := by decide +kernel
theorem dX7_layWalk_240 : decode cX7_layWalk 240 = .ok (.goto (-188), 3) := by decide +kernel
theorem dX7_layWalk_243 : decode cX7_layWalk 243 = .ok (.iinc 6 1, 3) := by decide +kernel
theorem dX7_layWalk_246 : decode cX7_layWalk 246 = .ok (.goto (-194), 3) := by decide +kernel
theorem dX7_layWalk_249 : decode cX7_layWalk 249 = .ok (.return_, 1) := by decide +kernel
theorem dX7_walk_0 : decode cX7_walk 0 = .ok (.iload_n 1, 1) := by decide +kernel
theorem dX7_walk_1 : decode cX7_walk 1 = .ok (.invokestatic 86, 3) := by decide +kernel
theorem dX7_walk_4 : decode cX7_walk 4 = .ok (.ifCond .eq 10, 3) := by decide +kernel
theorem dX7_walk_7 : decode cX7_walk 7 = .ok (.iload_n 3, 1) := by decide +kernel
theorem dX7_walk_8 : decode cX7_walk 8 = .ok (.invokestatic 86, 3) := by decide +kernel
theorem dX7_walk_11 : decode cX7_walk 11 = .ok (.ifCond .ne 5, 3) := by decide +kernel
theorem dX7_walk_14 : decode cX7_walk 14 = .ok (.iconst (-1), 1) := by decide +kernel
theorem dX7_walk_15 : decode cX7_walk 15 = .ok (.ireturn, 1) := by decide +kernel
theorem dX7_walk_16 : decode cX7_walk 16 = .ok (.iload_n 2, 1) := by decide +kernel
theorem dX7_walk_17 : decode cX7_walk 17 = .ok (.iconst 0, 1) := by decide +kernel
theorem dX7_walk_18 : decode cX7_walk 18 = .ok (.ldc 85, 2) := by decide +kernel
theorem dX7_walk_20 : decode cX7_walk 20 = .ok (.invokestatic 77, 3) := by decide +kernel
theorem dX7_walk_23 : decode cX7_walk 23 = .ok (.ifCond .eq 13, 3) := by decide +kernel
theorem dX7_walk_26 : decode cX7_walk 26 = .ok (.iload 4, 2) := by decide +kernel
theorem dX7_walk_28 : decode cX7_walk 28 = .ok (.iconst 0, 1) := by decide +kernel
theorem dX7_walk_29 : decode cX7_walk 29 = .ok (.iconst 5, 1) := by decide +kernel
theorem dX7_walk_30 : decode cX7_walk 30 = .ok (.invokestatic 77, 3) := by decide +kernel
theorem dX7_walk_33 : decode cX7_walk 33 = .ok (.ifCond .ne 6, 3) := by decide +kernel
theorem dX7_walk_36 : decode cX7_walk 36 = .ok (.bipush (-2), 2) := by decide +kernel
theorem dX7_walk_38 : decode cX7_walk 38 = .ok (.ireturn, 1) := by decide +kernel
theorem dX7_walk_39 : decode cX7_walk 39 = .ok (.aload_n 0, 1) := by decide +kernel
theorem dX7_walk_40 : decode cX7_walk 40 = .ok (.iload_n 1, 1) := by decide +kernel
theorem dX7_walk_41 : decode cX7_walk 41 = .ok (.iload_n 2, 1) := by decide +kernel
theorem dX7_walk_42 : decode cX7_walk 42 = .ok (.iload_n 3, 1) := by decide +kernel
theorem dX7_walk_43 : decode cX7_walk 43 = .ok (.iload 4, 2) := by decide +kernel
theorem dX7_walk_45 : decode cX7_walk 45 = .ok (.invokevirtual 177, 3) := by decide +kernel
theorem dX7_walk_48 : decode cX7_walk 48 = .ok (.iload 5, 2) := by decide +kernel
theorem dX7_walk_50 : decode cX7_walk 50 = .ok (.iconst (-1), 1) := by decide +kernel
theorem dX7_walk_51 : decode cX7_walk 51 = .ok (.if_icmp .ne 10, 3) := by decide +kernel
theorem dX7_walk_54 : decode cX7_walk 54 = .ok (.aload_n 0, 1) := by decide +kernel
theorem dX7_walk_55 : decode cX7_walk 55 = .ok (.getfield 171, 3) := by decide +kernel
theorem dX7_walk_58 : decode cX7_walk 58 = .ok (.goto 56, 3) := by decide +kernel
theorem dX7_walk_61 : decode cX7_walk 61 = .ok (.aload_n 0, 1) := by decide +kernel
theorem dX7_walk_62 : decode cX7_walk 62 = .ok (.getfield 168, 3) := by decide +kernel
theorem dX7_walk_65 : decode cX7_walk 65 = .ok (.ifCond .ge 8, 3) := by decide +kernel
theorem dX7_walk_68 : decode cX7_walk 68 = .ok (.bipush (-6), 2) := by decide +kernel
theorem dX7_walk_70 : decode cX7_walk 70 = .ok (.goto 44, 3) := by decide +kernel
theorem dX7_walk_73 : decode cX7_walk 73 = .ok (.iload 5, 2) := by decide +kernel
theorem dX7_walk_75 : decode cX7_walk 75 = .ok (.bipush (-2), 2) := by decide +kernel
theorem dX7_walk_77 : decode cX7_walk 77 = .ok (.if_icmp .ne 10, 3) := by decide +kernel
theorem dX7_walk_80 : decode cX7_walk 80 = .ok (.aload_n 0, 1) := by decide +kernel
theorem dX7_walk_81 : decode cX7_walk 81 = .ok (.getfield 168, 3) := by decide +kernel
theorem dX7_walk_84 : decode cX7_walk 84 = .ok (.goto 30, 3) := by decide +kernel
theorem dX7_walk_87 : decode cX7_walk 87 = .ok (.iload 5, 2) := by decide +kernel
theorem dX7_walk_89 : decode cX7_walk 89 = .ok (.iconst 0, 1) := by decide +kernel
theorem dX7_walk_90 : decode cX7_walk 90 = .ok (.aload_n 0, 1) := by decide +kernel
theorem dX7_walk_91 : decode cX7_walk 91 = .ok (.getfield 168, 3) := by decide +kernel
theorem dX7_walk_94 : decode cX7_walk 94 = .ok (.iconst 1, 1) := by decide +kernel
theorem dX7_walk_95 : decode cX7_walk 95 = .ok (.isub, 1) := by decide +kernel
theorem dX7_walk_96 : decode cX7_walk 96 = .ok (.invokestatic 77, 3) := by decide +kernel
theorem dX7_walk_99 : decode cX7_walk 99 = .ok (.ifCond .eq 13, 3) := by decide +kernel
theorem dX7_walk_102 : decode cX7_walk 102 = .ok (.aload_n 0, 1) := by decide +kernel
theorem dX7_walk_103 : decode cX7_walk 103 = .ok (.getfield 65, 3) := by decide +kernel
theorem dX7_walk_106 : decode cX7_walk 106 = .ok (.iload 5, 2) := by decide +kernel
theorem dX7_walk_108 : decode cX7_walk 108 = .ok (.iaload, 1) := by decide +kernel
theorem dX7_walk_109 : decode cX7_walk 109 = .ok (.goto 5, 3) := by decide +kernel
theorem dX7_walk_112 : decode cX7_walk 112 = .ok (.bipush (-6), 2) := by decide +kernel
theorem dX7_walk_114 : decode cX7_walk 114 = .ok (.ireturn, 1) := by decide +kernel
theorem dX7_walkers_0 : decode cX7_walkers 0 = .ok (.iload_n 1, 1) := by decide +kernel
theorem dX7_walkers_1 : decode cX7_walkers 1 = .ok (.iconst (-1), 1) := by decide +kernel
theorem dX7_walkers_2 : decode cX7_walkers 2 = .ok (.if_icmp .eq 13, 3) := by decide +kernel
theorem dX7_walkers_5 : decode cX7_walkers 5 = .ok (.aload_n 0, 1) := by decide +kernel
theorem dX7_walkers_6 : decode cX7_walkers 6 = .ok (.iload_n 1, 1) := by decide +kernel
theorem dX7_walkers_7 : decode cX7_walkers 7 = .ok (.invokevirtual 94, 3) := by decide +kernel
theorem dX7_walkers_10 : decode cX7_walkers 10 = .ok (.ifCond .ne 5, 3) := by decide +kernel
theorem dX7_walkers_13 : decode cX7_walkers 13 = .ok (.iconst (-1), 1) := by decide +kernel
theorem dX7_walkers_14 : decode cX7_walkers 14 = .ok (.ireturn, 1) := by decide +kernel
theorem dX7_walkers_15 : decode cX7_walkers 15 = .ok (.iconst 0, 1) := by decide +kernel
theorem dX7_walkers_16 : decode cX7_walkers 16 = .ok (.istore_n 2, 1) := by decide +kernel
theorem dX7_walkers_17 : decode cX7_walkers 17 = .ok (.iload_n 2, 1) := by decide +kernel
theorem dX7_walkers_18 : decode cX7_walkers 18 = .ok (.aload_n 0, 1) := by decide +kernel
theorem dX7_walkers_19 : decode cX7_walkers 19 = .ok (.getfield 81, 3) := by decide +kernel
theorem dX7_walkers_22 : decode cX7_walkers 22 = .ok (.if_icmp .ge 21, 3) := by decide +kernel
theorem dX7_walkers_25 : decode cX7_walkers 25 = .ok (.aload_n 0, 1) := by decide +kernel
theorem dX7_walkers_26 : decode cX7_walkers 26 = .ok (.getfield 74, 3) := by decide +kernel
theorem dX7_walkers_29 : decode cX7_walkers 29 = .ok (.iload_n 2, 1) := by decide +kernel
theorem dX7_walkers_30 : decode cX7_walkers 30 = .ok (.aload_n 0, 1) := by decide +kernel
theorem dX7_walkers_31 : decode cX7_walkers 31 = .ok (.getfield 19, 3) := by decide +kernel
theorem dX7_walkers_34 : decode cX7_walkers 34 = .ok (.iload_n 2, 1) := by decide +kernel
theorem dX7_walkers_35 : decode cX7_walkers 35 = .ok (.iaload, 1) := by decide +kernel
theorem dX7_walkers_36 : decode cX7_walkers 36 = .ok (.iastore, 1) := by decide +kernel
theorem dX7_walkers_37 : decode cX7_walkers 37 = .ok (.iinc 2 1, 3) := by decide +kernel
theorem dX7_walkers_40 : decode cX7_walkers 40 = .ok (.goto (-23), 3) := by decide +kernel
theorem dX7_walkers_43 : decode cX7_walkers 43 = .ok (.iconst 0, 1) := by decide +kernel
theorem dX7_walkers_44 : decode cX7_walkers 44 = .ok (.istore_n 2, 1) := by decide +kernel
theorem dX7_walkers_45 : decode cX7_walkers 45 = .ok (.aload_n 0, 1) := by decide +kernel
theorem dX7_walkers_46 : decode cX7_walkers 46 = .ok (.iconst 0, 1) := by decide +kernel
theorem dX7_walkers_47 : decode cX7_walkers 47 = .ok (.invokevirtual 124, 3) := by decide +kernel
theorem dX7_walkers_50 : decode cX7_walkers 50 = .ok (.aload_n 0, 1) := by decide +kernel
theorem dX7_walkers_51 : decode cX7_walkers 51 = .ok (.getfield 117, 3) := by decide +kernel
theorem dX7_walkers_54 : decode cX7_walkers 54 = .ok (.ifCond .le 109, 3) := by decide +kernel
theorem dX7_walkers_57 : decode cX7_walkers 57 = .ok (.aload_n 0, 1) := by decide +kernel
theorem dX7_walkers_58 : decode cX7_walkers 58 = .ok (.getfield 43, 3) := by decide +kernel
theorem dX7_walkers_61 : decode cX7_walkers 61 = .ok (.aload_n 0, 1) := by decide +kernel
theorem dX7_walkers_62 : decode cX7_walkers 62 = .ok (.invokevirtual 139, 3) := by decide +kernel
theorem dX7_walkers_65 : decode cX7_walkers 65 = .ok (.iaload, 1) := by decide +kernel
theorem dX7_walkers_66 : decode cX7_walkers 66 = .ok (.istore_n 3, 1) := by decide +kernel
theorem dX7_walkers_67 : decode cX7_walkers 67 = .ok (.iconst 0, 1) := by decide +kernel
theorem dX7_walkers_68 : decode cX7_walkers 68 = .ok (.istore 4, 2) := by decide +kernel
theorem dX7_walkers_70 : decode cX7_walkers 70 = .ok (.iload 4, 2) := by decide +kernel
theorem dX7_walkers_72 : decode cX7_walkers 72 = .ok (.aload_n 0, 1) := by decide +kernel
theorem dX7_walkers_73 : decode cX7_walkers 73 = .ok (.getfield 81, 3) := by decide +kernel
theorem dX7_walkers_76 : decode cX7_walkers 76 = .ok (.if_icmp .ge 76, 3) := by decide +kernel
theorem dX7_walkers_79 : decode cX7_walkers 79 = .ok (.aload_n 0, 1) := by decide +kernel
theorem dX7_walkers_80 : decode cX7_walkers 80 = .ok (.getfield 19, 3) := by decide +kernel
theorem dX7_walkers_83 : decode cX7_walkers 83 = .ok (.iload 4, 2) := by decide +kernel
theorem dX7_walkers_85 : decode cX7_walkers 85 = .ok (.iaload, 1) := by decide +kernel
theorem dX7_walkers_86 : decode cX7_walkers 86 = .ok (.aload_n 0, 1) := by decide +kernel
theorem dX7_walkers_87 : decode cX7_walkers 87 = .ok (.getfield 31, 3) := by decide +kernel
theorem dX7_walkers_90 : decode cX7_walkers 90 = .ok (.iconst 2, 1) := by decide +kernel
theorem dX7_walkers_91 : decode cX7_walkers 91 = .ok (.iaload, 1) := by decide +kernel
theorem dX7_walkers_92 : decode cX7_walkers 92 = .ok (.isub, 1) := by decide +kernel
theorem dX7_walkers_93 : decode cX7_walkers 93 = .ok (.iconst 1, 1) := by decide +kernel
theorem dX7_walkers_94 : decode cX7_walkers 94 = .ok (.if_icmp .ge 7, 3) := by decide +kernel
theorem dX7_walkers_97 : decode cX7_walkers 97 = .ok (.iconst 1, 1) := by decide +kernel
theorem dX7_walkers_98 : decode cX7_walkers 98 = .ok (.goto 17, 3) := by decide +kernel
theorem dX7_walkers_101 : decode cX7_walkers 101 = .ok (.aload_n 0, 1) := by decide +kernel
theorem dX7_walkers_102 : decode cX7_walkers 102 = .ok (.getfield 19, 3) := by decide +kernel
theorem dX7_walkers_105 : decode cX7_walkers 105 = .ok (.iload 4, 2) := by decide +kernel
theorem dX7_walkers_107 : decode cX7_walkers 107 = .ok (.iaload, 1) := by decide +kernel
theorem dX7_walkers_108 : decode cX7_walkers 108 = .ok (.aload_n 0, 1) := by decide +kernel
theorem dX7_walkers_109 : decode cX7_walkers 109 = .ok (.getfield 31, 3) := by decide +kernel
theorem dX7_walkers_112 : decode cX7_walkers 112 = .ok (.iconst 2, 1) := by decide +kernel
theorem dX7_walkers_113 : decode cX7_walkers 113 = .ok (.iaload, 1) := by decide +kernel
theorem dX7_walkers_114 : decode cX7_walkers 114 = .ok (.isub, 1) := by decide +kernel
theorem dX7_walkers_115 : decode cX7_walkers 115 = .ok (.istore 5, 2) := by decide +kernel
theorem dX7_walkers_117 : decode cX7_walkers 117 = .ok (.aload_n 0, 1) := by decide +kernel
theorem dX7_walkers_118 : decode cX7_walkers 118 = .ok (.getfield 19, 3) := by decide +kernel
theorem dX7_walkers_121 : decode cX7_walkers 121 = .ok (.iload 4, 2) := by decide +kernel
theorem dX7_walkers_123 : decode cX7_walkers 123 = .ok (.iload_n 3, 1) := by decide +kernel
theorem dX7_walkers_124 : decode cX7_walkers 124 = .ok (.iload 4, 2) := by decide +kernel
theorem dX7_walkers_126 : decode cX7_walkers 126 = .ok (.ishr, 1) := by decide +kernel
theorem dX7_walkers_127 : decode cX7_walkers 127 = .ok (.iconst 1, 1) := by decide +kernel
theorem dX7_walkers_128 : decode cX7_walkers 128 = .ok (.iand, 1) := by decide +kernel
theorem dX7_walkers_129 : decode cX7_walkers 129 = .ok (.iconst 1, 1) := by decide +kernel
theorem dX7_walkers_130 : decode cX7_walkers 130 = .ok (.if_icmp .ne 8, 3) := by decide +kernel
theorem dX7_walkers_133 : decode cX7_walkers 133 = .ok (.iload 5, 2) := by decide +kernel
theorem dX7_walkers_135 : decode cX7_walkers 135 = .ok (.goto 10, 3) := by decide +kernel
theorem dX7_walkers_138 : decode cX7_walkers 138 = .ok (.aload_n 0, 1) := by decide +kernel
theorem dX7_walkers_139 : decode cX7_walkers 139 = .ok (.getfield 19, 3) := by decide +kernel
theorem dX7_walkers_142 : decode cX7_walkers 142 = .ok (.iload 4, 2) := by decide +kernel
theorem dX7_walkers_144 : decode cX7_walkers 144 = .ok (.iaload, 1) := by decide +kernel
theorem dX7_walkers_145 : decode cX7_walkers 145 = .ok (.iastore, 1) := by decide +kernel
theorem dX7_walkers_146 : decode cX7_walkers 146 = .ok (.iinc 4 1, 3) := by decide +kernel
theorem dX7_walkers_149 : decode cX7_walkers 149 = .ok (.goto (-79), 3) := by decide +kernel
theorem dX7_walkers_152 : decode cX7_walkers 152 = .ok (.iinc 2 1, 3) := by decide +kernel
theorem dX7_walkers_155 : decode cX7_walkers 155 = .ok (.aload_n 0, 1) := by decide +kernel
theorem dX7_walkers_156 : decode cX7_walkers 156 = .ok (.iconst 0, 1) := by decide +kernel
theorem dX7_walkers_157 : decode cX7_walkers 157 = .ok (.invokevirtual 124, 3) := by decide +kernel
theorem dX7_walkers_160 : decode cX7_walkers 160 = .ok (.goto (-110), 3) := by decide +kernel
theorem dX7_walkers_163 : decode cX7_walkers 163 = .ok (.iload_n 1, 1) := by decide +kernel
theorem dX7_walkers_164 : decode cX7_walkers 164 = .ok (.ifCond .ge 7, 3) := by decide +kernel
theorem dX7_walkers_167 : decode cX7_walkers 167 = .ok (.iload_n 2, 1) := by decide +kernel
theorem dX7_walkers_168 : decode cX7_walkers 168 = .ok (.goto 9, 3) := by decide +kernel
theorem dX7_walkers_171 : decode cX7_walkers 171 = .ok (.aload_n 0, 1) := by decide +kernel
theorem dX7_walkers_172 : decode cX7_walkers 172 = .ok (.getfield 19, 3) := by decide +kernel
theorem dX7_walkers_175 : decode cX7_walkers 175 = .ok (.iload_n 1, 1) := by decide +kernel
theorem dX7_walkers_176 : decode cX7_walkers 176 = .ok (.iaload, 1) := by decide +kernel
theorem dX7_walkers_177 : decode cX7_walkers 177 = .ok (.istore_n 3, 1) := by decide +kernel
theorem dX7_walkers_178 : decode cX7_walkers 178 = .ok (.iconst 0, 1) := by decide +kernel
theorem dX7_walkers_179 : decode cX7_walkers 179 = .ok (.istore 4, 2) := by decide +kernel
theorem dX7_walkers_181 : decode cX7_walkers 181 = .ok (.iload 4, 2) := by decide +kernel
theorem dX7_walkers_183 : decode cX7_walkers 183 = .ok (.aload_n 0, 1) := by decide +kernel
theorem dX7_walkers_184 : decode cX7_walkers 184 = .ok (.getfield 81, 3) := by decide +kernel
theorem dX7_walkers_187 : decode cX7_walkers 187 = .ok (.if_icmp .ge 23, 3) := by decide +kernel
theorem dX7_walkers_190 : decode cX7_walkers 190 = .ok (.aload_n 0, 1) := by decide +kernel
theorem dX7_walkers_191 : decode cX7_walkers 191 = .ok (.getfield 19, 3) := by decide +kernel
theorem dX7_walkers_194 : decode cX7_walkers 194 = .ok (.iload 4, 2) := by decide +kernel
theorem dX7_walkers_196 : decode cX7_walkers 196 = .ok (.aload_n 0, 1) := by decide +kernel
theorem dX7_walkers_197 : decode cX7_walkers 197 = .ok (.getfield 74, 3) := by decide +kernel
theorem dX7_walkers_200 : decode cX7_walkers 200 = .ok (.iload 4, 2) := by decide +kernel
theorem dX7_walkers_202 : decode cX7_walkers 202 = .ok (.iaload, 1) := by decide +kernel
theorem dX7_walkers_203 : decode cX7_walkers 203 = .ok (.iastore, 1) := by decide +kernel
theorem dX7_walkers_204 : decode cX7_walkers 204 = .ok (.iinc 4 1, 3) := by decide +kernel
theorem dX7_walkers_207 : decode cX7_walkers 207 = .ok (.goto (-26), 3) := by decide +kernel
theorem dX7_walkers_210 : decode cX7_walkers 210 = .ok (.iload_n 3, 1) := by decide +kernel
theorem dX7_walkers_211 : decode cX7_walkers 211 = .ok (.ireturn, 1) := by decide +kernel
theorem dX7_told_0 : decode cX7_told 0 = .ok (.iconst 0, 1) := by decide +kernel
theorem dX7_told_1 : decode cX7_told 1 = .ok (.istore_n 2, 1) := by decide +kernel
theorem dX7_told_2 : decode cX7_told 2 = .ok (.iconst 0, 1) := by decide +kernel
theorem dX7_told_3 : decode cX7_told 3 = .ok (.istore_n 3, 1) := by decide +kernel
theorem dX7_told_4 : decode cX7_told 4 = .ok (.iload_n 3, 1) := by decide +kernel
theorem dX7_told_5 : decode cX7_told 5 = .ok (.aload_n 0, 1) := by decide +kernel
theorem dX7_told_6 : decode cX7_told 6 = .ok (.getfield 81, 3) := by decide +kernel
theorem dX7_told_9 : decode cX7_told 9 = .ok (.if_icmp .ge 27, 3) := by decide +kernel
theorem dX7_told_12 : decode cX7_told 12 = .ok (.iload_n 2, 1) := by decide +kernel
theorem dX7_told_13 : decode cX7_told 13 = .ok (.aload_n 0, 1) := by decide +kernel
theorem dX7_told_14 : decode cX7_told 14 = .ok (.iload_n 3, 1) := by decide +kernel
theorem dX7_told_15 : decode cX7_told 15 = .ok (.invokevirtual 97, 3) := by decide +kernel
theorem dX7_told_18 : decode cX7_told 18 = .ok (.ifCond .eq 9, 3) := by decide +kernel
theorem dX7_told_21 : decode cX7_told 21 = .ok (.iconst 1, 1) := by decide +kernel
theorem dX7_told_22 : decode cX7_told 22 = .ok (.iload_n 3, 1) := by decide +kernel
theorem dX7_told_23 : decode cX7_told 23 = .ok (.ishl, 1) := by decide +kernel
theorem dX7_told_24 : decode cX7_told 24 = .ok (.goto 4, 3) := by decide +kernel
theorem dX7_told_27 : decode cX7_told 27 = .ok (.iconst 0, 1) := by decide +kernel
theorem dX7_told_28 : decode cX7_told 28 = .ok (.ior, 1) := by decide +kernel
theorem dX7_told_29 : decode cX7_told 29 = .ok (.istore_n 2, 1) := by decide +kernel
theorem dX7_told_30 : decode cX7_told 30 = .ok (.iinc 3 1, 3) := by decide +kernel
theorem dX7_told_33 : decode cX7_told 33 = .ok (.goto (-29), 3) := by decide +kernel
theorem dX7_told_36 : decode cX7_told 36 = .ok (.iload_n 1, 1) := by decide +kernel
theorem dX7_told_37 : decode cX7_told 37 = .ok (.ifCond .ne 10, 3) := by decide +kernel
theorem dX7_told_40 : decode cX7_told 40 = .ok (.aload_n 0, 1) := by decide +kernel
theorem dX7_told_41 : decode cX7_told 41 = .ok (.getfield 81, 3) := by decide +kernel
theorem dX7_told_44 : decode cX7_told 44 = .ok (.goto 46, 3) := by decide +kernel
theorem dX7_told_47 : decode cX7_told 47 = .ok (.iload_n 1, 1) := by decide +kernel
theorem dX7_told_48 : decode cX7_told 48 = .ok (.iconst 1, 1) := by decide +kernel
theorem dX7_told_49 : decode cX7_told 49 = .ok (.if_icmp .ne 10, 3) := by decide +kernel
theorem dX7_told_52 : decode cX7_told 52 = .ok (.aload_n 0, 1) := by decide +kernel
theorem dX7_told_53 : decode cX7_told 53 = .ok (.getfield 107, 3) := by decide +kernel
theorem dX7_told_56 : decode cX7_told 56 = .ok (.goto 34, 3) := by decide +kernel
theorem dX7_told_59 : decode cX7_told 59 = .ok (.iload_n 1, 1) := by decide +kernel
theorem dX7_told_60 : decode cX7_told 60 = .ok (.iconst 2, 1) := by decide +kernel
theorem dX7_told_61 : decode cX7_told 61 = .ok (.if_icmp .ne 7, 3) := by decide +kernel
theorem dX7_told_64 : decode cX7_told 64 = .ok (.iload_n 2, 1) := by decide +kernel
theorem dX7_told_65 : decode cX7_told 65 = .ok (.goto 25, 3) := by decide +kernel
theorem dX7_told_68 : decode cX7_told 68 = .ok (.iload_n 1, 1) := by decide +kernel
theorem dX7_told_69 : decode cX7_told 69 = .ok (.iconst 3, 1) := by decide +kernel
theorem dX7_told_70 : decode cX7_told 70 = .ok (.iconst 5, 1) := by decide +kernel
theorem dX7_told_71 : decode cX7_told 71 = .ok (.invokestatic 77, 3) := by decide +kernel
theorem dX7_told_74 : decode cX7_told 74 = .ok (.ifCond .eq 14, 3) := by decide +kernel
theorem dX7_told_77 : decode cX7_told 77 = .ok (.aload_n 0, 1) := by decide +kernel
theorem dX7_told_78 : decode cX7_told 78 = .ok (.getfield 31, 3) := by decide +kernel
theorem dX7_told_81 : decode cX7_told 81 = .ok (.iload_n 1, 1) := by decide +kernel
theorem dX7_told_82 : decode cX7_told 82 = .ok (.iconst 3, 1) := by decide +kernel
theorem dX7_told_83 : decode cX7_told 83 = .ok (.isub, 1) := by decide +kernel
theorem dX7_told_84 : decode cX7_told 84 = .ok (.iaload, 1) := by decide +kernel
theorem dX7_told_85 : decode cX7_told 85 = .ok (.goto 5, 3) := by decide +kernel
theorem dX7_told_88 : decode cX7_told 88 = .ok (.bipush (-2), 2) := by decide +kernel
theorem dX7_told_90 : decode cX7_told 90 = .ok (.ireturn, 1) := by decide +kernel
theorem dJ6_lowestOneBit_0f7a4_0 : decode cJ6_lowestOneBit_0f7a4 0 = .ok (.iload_n 0, 1) := by decide +kernel
theorem dJ6_lowestOneBit_0f7a4_1 : decode cJ6_lowestOneBit_0f7a4 1 = .ok (.iload_n 0, 1) := by decide +kernel
theorem dJ6_lowestOneBit_0f7a4_2 : decode cJ6_lowestOneBit_0f7a4 2 = .ok (.ineg, 1) := by decide +kernel
theorem dJ6_lowestOneBit_0f7a4_3 : decode cJ6_lowestOneBit_0f7a4 3 = .ok (.iand, 1) := by decide +kernel
theorem dJ6_lowestOneBit_0f7a4_4 : decode cJ6_lowestOneBit_0f7a4 4 = .ok (.ireturn, 1) := by decide +kernel
theorem dJ6_bitCount_0f7a4_0 : decode cJ6_bitCount_0f7a4 0 = .ok (.iload_n 0, 1) := by decide +kernel
theorem dJ6_bitCount_0f7a4_1 : decode cJ6_bitCount_0f7a4 1 = .ok (.iload_n 0, 1) := by decide +kernel
theorem dJ6_bitCount_0f7a4_2 : decode cJ6_bitCount_0f7a4 2 = .ok (.iconst 1, 1) := by decide +kernel
theorem dJ6_bitCount_0f7a4_3 : decode cJ6_bitCount_0f7a4 3 = .ok (.iushr, 1) := by decide +kernel
theorem dJ6_bitCount_0f7a4_4 : decode cJ6_bitCount_0f7a4 4 = .ok (.ldc_w 265, 3) := by decide +kernel
theorem dJ6_bitCount_0f7a4_7 : decode cJ6_bitCount_0f7a4 7 = .ok (.iand, 1) := by decide +kernel
theorem dJ6_bitCount_0f7a4_8 : decode cJ6_bitCount_0f7a4 8 = .ok (.isub, 1) := by decide +kernel
theorem dJ6_bitCount_0f7a4_9 : decode cJ6_bitCount_0f7a4 9 = .ok (.istore_n 0, 1) := by decide +kernel
theorem dJ6_bitCount_0f7a4_10 : decode cJ6_bitCount_0f7a4 10 = .ok (.iload_n 0, 1) := by decide +kernel
theorem dJ6_bitCount_0f7a4_11 : decode cJ6_bitCount_0f7a4 11 = .ok (.ldc_w 266, 3) := by decide +kernel
theorem dJ6_bitCount_0f7a4_14 : decode cJ6_bitCount_0f7a4 14 = .ok (.iand, 1) := by decide +kernel
theorem dJ6_bitCount_0f7a4_15 : decode cJ6_bitCount_0f7a4 15 = .ok (.iload_n 0, 1) := by decide +kernel
theorem dJ6_bitCount_0f7a4_16 : decode cJ6_bitCount_0f7a4 16 = .ok (.iconst 2, 1) := by decide +kernel
theorem dJ6_bitCount_0f7a4_17 : decode cJ6_bitCount_0f7a4 17 = .ok (.iushr, 1) := by decide +kernel
theorem dJ6_bitCount_0f7a4_18 : decode cJ6_bitCount_0f7a4 18 = .ok (.ldc_w 266, 3) := by decide +kernel
theorem dJ6_bitCount_0f7a4_21 : decode cJ6_bitCount_0f7a4 21 = .ok (.iand, 1) := by decide +kernel
theorem dJ6_bitCount_0f7a4_22 : decode cJ6_bitCount_0f7a4 22 = .ok (.iadd, 1) := by decide +kernel
theorem dJ6_bitCount_0f7a4_23 : decode cJ6_bitCount_0f7a4 23 = .ok (.istore_n 0, 1) := by decide +kernel
theorem dJ6_bitCount_0f7a4_24 : decode cJ6_bitCount_0f7a4 24 = .ok (.iload_n 0, 1) := by decide +kernel
theorem dJ6_bitCount_0f7a4_25 : decode cJ6_bitCount_0f7a4 25 = .ok (.iload_n 0, 1) := by decide +kernel
theorem dJ6_bitCount_0f7a4_26 : decode cJ6_bitCount_0f7a4 26 = .ok (.iconst 4, 1) := by decide +kernel
theorem dJ6_bitCount_0f7a4_27 : decode cJ6_bitCount_0f7a4 27 = .ok (.iushr, 1) := by decide +kernel
theorem dJ6_bitCount_0f7a4_28 : decode cJ6_bitCount_0f7a4 28 = .ok (.iadd, 1) := by decide +kernel
theorem dJ6_bitCount_0f7a4_29 : decode cJ6_bitCount_0f7a4 29 = .ok (.ldc_w 267, 3) := by decide +kernel
theorem dJ6_bitCount_0f7a4_32 : decode cJ6_bitCount_0f7a4 32 = .ok (.iand, 1) := by decide +kernel
theorem dJ6_bitCount_0f7a4_33 : decode cJ6_bitCount_0f7a4 33 = .ok (.istore_n 0, 1) := by decide +kernel
theorem dJ6_bitCount_0f7a4_34 : decode cJ6_bitCount_0f7a4 34 = .ok (.iload_n 0, 1) := by decide +kernel
theorem dJ6_bitCount_0f7a4_35 : decode cJ6_bitCount_0f7a4 35 = .ok (.iload_n 0, 1) := by decide +kernel
theorem dJ6_bitCount_0f7a4_36 : decode cJ6_bitCount_0f7a4 36 = .ok (.bipush 8, 2) := by decide +kernel
theorem dJ6_bitCount_0f7a4_38 : decode cJ6_bitCount_0f7a4 38 = .ok (.iushr, 1) := by decide +kernel
theorem dJ6_bitCount_0f7a4_39 : decode cJ6_bitCount_0f7a4 39 = .ok (.iadd, 1) := by decide +kernel
theorem dJ6_bitCount_0f7a4_40 : decode cJ6_bitCount_0f7a4 40 = .ok (.istore_n 0, 1) := by decide +kernel
theorem dJ6_bitCount_0f7a4_41 : decode cJ6_bitCount_0f7a4 41 = .ok (.iload_n 0, 1) := by decide +kernel
theorem dJ6_bitCount_0f7a4_42 : decode cJ6_bitCount_0f7a4 42 = .ok (.iload_n 0, 1) := by decide +kernel
theorem dJ6_bitCount_0f7a4_43 : decode cJ6_bitCount_0f7a4 43 = .ok (.bipush 16, 2) := by decide +kernel
theorem dJ6_bitCount_0f7a4_45 : decode cJ6_bitCount_0f7a4 45 = .ok (.iushr, 1) := by decide +kernel
theorem dJ6_bitCount_0f7a4_46 : decode cJ6_bitCount_0f7a4 46 = .ok (.iadd, 1) := by decide +kernel
theorem dJ6_bitCount_0f7a4_47 : decode cJ6_bitCount_0f7a4 47 = .ok (.istore_n 0, 1) := by decide +kernel
theorem dJ6_bitCount_0f7a4_48 : decode cJ6_bitCount_0f7a4 48 = .ok (.iload_n 0, 1) := by decide +kernel
theorem dJ6_bitCount_0f7a4_49 : decode cJ6_bitCount_0f7a4 49 = .ok (.bipush 63, 2) := by decide +kernel
theorem dJ6_bitCount_0f7a4_51 : decode cJ6_bitCount_0f7a4 51 = .ok (.iand, 1) := by decide +kernel
theorem dJ6_bitCount_0f7a4_52 : decode cJ6_bitCount_0f7a4 52 = .ok (.ireturn, 1) := by decide +kernel
theorem dJ9_max_7cf53_0 : decode cJ9_max_7cf53 0 = .ok (.iload_n 0, 1) := by decide +kernel
theorem dJ9_max_7cf53_1 : decode cJ9_max_7cf53 1 = .ok (.iload_n 1, 1) := by decide +kernel
theorem dJ9_max_7cf53_2 : decode cJ9_max_7cf53 2 = .ok (.if_icmp .lt 7, 3) := by decide +kernel
theorem dJ9_max_7cf53_5 : decode cJ9_max_7cf53 5 = .ok (.iload_n 0, 1) := by decide +kernel
theorem dJ9_max_7cf53_6 : decode cJ9_max_7cf53 6 = .ok (.goto 4, 3) := by decide +kernel
theorem dJ9_max_7cf53_9 : decode cJ9_max_7cf53 9 = .ok (.iload_n 1, 1) := by decide +kernel
theorem dJ9_max_7cf53_10 : decode cJ9_max_7cf53 10 = .ok (.ireturn, 1) := by decide +kernel
theorem dJ9_min_7cf53_0 : decode cJ9_min_7cf53 0 = .ok (.iload_n 0, 1) := by decide +kernel
theorem dJ9_min_7cf53_1 : decode cJ9_min_7cf53 1 = .ok (.iload_n 1, 1) := by decide +kernel
theorem dJ9_min_7cf53_2 : decode cJ9_min_7cf53 2 = .ok (.if_icmp .gt 7, 3) := by decide +kernel
theorem dJ9_min_7cf53_5 : decode cJ9_min_7cf53 5 = .ok (.iload_n 0, 1) := by decide +kernel
theorem dJ9_min_7cf53_6 : decode cJ9_min_7cf53 6 = .ok (.goto 4, 3) := by decide +kernel
theorem dJ9_min_7cf53_9 : decode cJ9_min_7cf53 9 = .ok (.iload_n 1, 1) := by decide +kernel
theorem dJ9_min_7cf53_10 : decode cJ9_min_7cf53 10 = .ok (.ireturn, 1) := by decide +kernel
theorem dL_law_0 : decode cL_law 0 = .ok (.new 7, 3) := by decide +kernel
theorem dL_law_3 : decode cL_law 3 = .ok (.dup, 1) := by decide +kernel
theorem dL_law_4 : decode cL_law 4 = .ok (.invokespecial 9, 3) := by decide +kernel
theorem dL_law_7 : decode cL_law 7 = .ok (.astore_n 1, 1) := by decide +kernel
theorem dL_law_8 : decode cL_law 8 = .ok (.new 10, 3) := by decide +kernel
theorem dL_law_11 : decode cL_law 11 = .ok (.dup, 1) := by decide +kernel
theorem dL_law_12 : decode cL_law 12 = .ok (.invokespecial 12, 3) := by decide +kernel
theorem dL_law_15 : decode cL_law 15 = .ok (.astore_n 2, 1) := by decide +kernel
theorem dL_law_16 : decode cL_law 16 = .ok (.iconst 0, 1) := by decide +kernel
theorem dL_law_17 : decode cL_law 17 = .ok (.istore_n 3, 1) := by decide +kernel
theorem dL_law_18 : decode cL_law 18 = .ok (.iload_n 3, 1) := by decide +kernel
theorem dL_law_19 : decode cL_law 19 = .ok (.aload_n 0, 1) := by decide +kernel
theorem dL_law_20 : decode cL_law 20 = .ok (.arraylength, 1) := by decide +kernel
theorem dL_law_21 : decode cL_law 21 = .ok (.bipush 6, 2) := by decide +kernel
theorem dL_law_23 : decode cL_law 23 = .ok (.isub, 1) := by decide +kernel
theorem dL_law_24 : decode cL_law 24 = .ok (.if_icmp .gt 902, 3) := by decide +kernel
theorem dL_law_27 : decode cL_law 27 = .ok (.aload_n 0, 1) := by decide +kernel
theorem dL_law_28 : decode cL_law 28 = .ok (.iload_n 3, 1) := by decide +kernel
theorem dL_law_29 : decode cL_law 29 = .ok (.iaload, 1) := by decide +kernel
theorem dL_law_30 : decode cL_law 30 = .ok (.bipush 31, 2) := by decide +kernel
theorem dL_law_32 : decode cL_law 32 = .ok (.iand, 1) := by decide +kernel
theorem dL_law_33 : decode cL_law 33 = .ok (.tableswitch 887 0 26 #[123, 176, 209, 252, 295, 328, 351, 364, 377, 390, 413, 446, 480, 503, 526, 539, 552, 575, 588, 632, 686, 709, 722, 755, 778, 841, 864], 123) := by decide +kernel
theorem dL_law_156 : decode cL_law 156 = .ok (.aload_n 1, 1) := by decide +kernel
theorem dL_law_157 : decode cL_law 157 = .ok (.aload_n 0, 1) := by decide +kernel
theorem dL_law_158 : decode cL_law 158 = .ok (.iload_n 3, 1) := by decide +kernel
theorem dL_law_159 : decode cL_law 159 = .ok (.iconst 1, 1) := by decide +kernel
theorem dL_law_160 : decode cL_law 160 = .ok (.iadd, 1) := by decide +kernel
theorem dL_law_161 : decode cL_law 161 = .ok (.iaload, 1) := by decide +kernel
theorem dL_law_162 : decode cL_law 162 = .ok (.aload_n 0, 1) := by decide +kernel
theorem dL_law_163 : decode cL_law 163 = .ok (.iload_n 3, 1) := by decide +kernel
theorem dL_law_164 : decode cL_law 164 = .ok (.iconst 2, 1) := by decide +kernel
theorem dL_law_165 : decode cL_law 165 = .ok (.iadd, 1) := by decide +kernel
theorem dL_law_166 : decode cL_law 166 = .ok (.iaload, 1) := by decide +kernel
theorem dL_law_167 : decode cL_law 167 = .ok (.aload_n 0, 1) := by decide +kernel
theorem dL_law_168 : decode cL_law 168 = .ok (.iload_n 3, 1) := by decide +kernel
theorem dL_law_169 : decode cL_law 169 = .ok (.iconst 3, 1) := by decide +kernel
theorem dL_law_170 : decode cL_law 170 = .ok (.iadd, 1) := by decide +kernel
theorem dL_law_171 : decode cL_law 171 = .ok (.iaload, 1) := by decide +kernel
theorem dL_law_172 : decode cL_law 172 = .ok (.aload_n 0, 1) := by decide +kernel
theorem dL_law_173 : decode cL_law 173 = .ok (.iload_n 3, 1) := by decide +kernel
theorem dL_law_174 : decode cL_law 174 = .ok (.iconst 4, 1) := by decide +kernel
theorem dL_law_175 : decode cL_law 175 = .ok (.iadd, 1) := by decide +kernel
theorem dL_law_176 : decode cL_law 176 = .ok (.iaload, 1) := by decide +kernel
theorem dL_law_177 : decode cL_law 177 = .ok (.invokevirtual 13, 3) := by decide +kernel
theorem dL_law_180 : decode cL_law 180 = .ok (.aload_n 2, 1) := by decide +kernel
theorem dL_law_181 : decode cL_law 181 = .ok (.aload_n 0, 1) := by decide +kernel
theorem dL_law_182 : decode cL_law 182 = .ok (.iload_n 3, 1) := by decide +kernel
theorem dL_law_183 : decode cL_law 183 = .ok (.iconst 1, 1) := by decide +kernel
theorem dL_law_184 : decode cL_law 184 = .ok (.iadd, 1) := by decide +kernel
theorem dL_law_185 : decode cL_law 185 = .ok (.iaload, 1) := by decide +kernel
theorem dL_law_186 : decode cL_law 186 = .ok (.aload_n 0, 1) := by decide +kernel
theorem dL_law_187 : decode cL_law 187 = .ok (.iload_n 3, 1) := by decide +kernel
theorem dL_law_188 : decode cL_law 188 = .ok (.iconst 2, 1) := by decide +kernel
theorem dL_law_189 : decode cL_law 189 = .ok (.iadd, 1) := by decide +kernel
theorem dL_law_190 : decode cL_law 190 = .ok (.iaload, 1) := by decide +kernel
theorem dL_law_191 : decode cL_law 191 = .ok (.aload_n 0, 1) := by decide +kernel
theorem dL_law_192 : decode cL_law 192 = .ok (.iload_n 3, 1) := by decide +kernel
theorem dL_law_193 : decode cL_law 193 = .ok (.iconst 3, 1) := by decide +kernel
theorem dL_law_194 : decode cL_law 194 = .ok (.iadd, 1) := by decide +kernel
theorem dL_law_195 : decode cL_law 195 = .ok (.iaload, 1) := by decide +kernel
theorem dL_law_196 : decode cL_law 196 = .ok (.aload_n 0, 1) := by decide +kernel
theorem dL_law_197 : decode cL_law 197 = .ok (.iload_n 3, 1) := by decide +kernel
theorem dL_law_198 : decode cL_law 198 = .ok (.iconst 4, 1) := by decide +kernel
theorem dL_law_199 : decode cL_law 199 = .ok (.iadd, 1) := by decide +kernel
theorem dL_law_200 : decode cL_law 200 = .ok (.iaload, 1) := by decide +kernel
theorem dL_law_201 : decode cL_law 201 = .ok (.invokevirtual 17, 3) := by decide +kernel
theorem dL_law_204 : decode cL_law 204 = .ok (.if_icmp .eq 716, 3) := by decide +kernel
theorem dL_law_207 : decode cL_law 207 = .ok (.iconst 0, 1) := by decide +kernel
theorem dL_law_208 : decode cL_law 208 = .ok (.ireturn, 1) := by decide +kernel
theorem dL_law_209 : decode cL_law 209 = .ok (.aload_n 1, 1) := by decide +kernel
theorem dL_law_210 : decode cL_law 210 = .ok (.aload_n 0, 1) := by decide +kernel
theorem dL_law_211 : decode cL_law 211 = .ok (.iload_n 3, 1) := by decide +kernel
theorem dL_law_212 : decode cL_law 212 = .ok (.iconst 1, 1) := by decide +kernel
theorem dL_law_213 : decode cL_law 213 = .ok (.iadd, 1) := by decide +kernel
theorem dL_law_214 : decode cL_law 214 = .ok (.iaload, 1) := by decide +kernel
theorem dL_law_215 : decode cL_law 215 = .ok (.aload_n 0, 1) := by decide +kernel
theorem dL_law_216 : decode cL_law 216 = .ok (.iload_n 3, 1) := by decide +kernel
theorem dL_law_217 : decode cL_law 217 = .ok (.iconst 2, 1) := by decide +kernel
theorem dL_law_218 : decode cL_law 218 = .ok (.iadd, 1) := by decide +kernel
theorem dL_law_219 : decode cL_law 219 = .ok (.iaload, 1) := by decide +kernel
theorem dL_law_220 : decode cL_law 220 = .ok (.invokevirtual 18, 3) := by decide +kernel
theorem dL_law_223 : decode cL_law 223 = .ok (.aload_n 2, 1) := by decide +kernel
theorem dL_law_224 : decode cL_law 224 = .ok (.aload_n 0, 1) := by decide +kernel
theorem dL_law_225 : decode cL_law 225 = .ok (.iload_n 3, 1) := by decide +kernel
theorem dL_law_226 : decode cL_law 226 = .ok (.iconst 1, 1) := by decide +kernel
theorem dL_law_227 : decode cL_law 227 = .ok (.iadd, 1) := by decide +kernel
theorem dL_law_228 : decode cL_law 228 = .ok (.iaload, 1) := by decide +kernel
theorem dL_law_229 : decode cL_law 229 = .ok (.aload_n 0, 1) := by decide +kernel
theorem dL_law_230 : decode cL_law 230 = .ok (.iload_n 3, 1) := by decide +kernel
theorem dL_law_231 : decode cL_law 231 = .ok (.iconst 2, 1) := by decide +kernel
theorem dL_law_232 : decode cL_law 232 = .ok (.iadd, 1) := by decide +kernel
theorem dL_law_233 : decode cL_law 233 = .ok (.iaload, 1) := by decide +kernel
theorem dL_law_234 : decode cL_law 234 = .ok (.invokevirtual 22, 3) := by decide +kernel
theorem dL_law_237 : decode cL_law 237 = .ok (.if_icmp .eq 683, 3) := by decide +kernel
theorem dL_law_240 : decode cL_law 240 = .ok (.iconst 0, 1) := by decide +kernel
theorem dL_law_241 : decode cL_law 241 = .ok (.ireturn, 1) := by decide +kernel
theorem dL_law_242 : decode cL_law 242 = .ok (.aload_n 1, 1) := by decide +kernel
theorem dL_law_243 : decode cL_law 243 = .ok (.aload_n 0, 1) := by decide +kernel
theorem dL_law_244 : decode cL_law 244 = .ok (.iload_n 3, 1) := by decide +kernel
theorem dL_law_245 : decode cL_law 245 = .ok (.iconst 1, 1) := by decide +kernel
theorem dL_law_246 : decode cL_law 246 = .ok (.iadd, 1) := by decide +kernel
theorem dL_law_247 : decode cL_law 247 = .ok (.iaload, 1) := by decide +kernel
theorem dL_law_248 : decode cL_law 248 = .ok (.aload_n 0, 1) := by decide +kernel
theorem dL_law_249 : decode cL_law 249 = .ok (.iload_n 3, 1) := by decide +kernel
theorem dL_law_250 : decode cL_law 250 = .ok (.iconst 2, 1) := by decide +kernel
theorem dL_law_251 : decode cL_law 251 = .ok (.iadd, 1) := by decide +kernel
theorem dL_law_252 : decode cL_law 252 = .ok (.iaload, 1) := by decide +kernel
theorem dL_law_253 : decode cL_law 253 = .ok (.aload_n 0, 1) := by decide +kernel
theorem dL_law_254 : decode cL_law 254 = .ok (.iload_n 3, 1) := by decide +kernel
theorem dL_law_255 : decode cL_law 255 = .ok (.iconst 3, 1) := by decide +kernel
theorem dL_law_256 : decode cL_law 256 = .ok (.iadd, 1) := by decide +kernel
theorem dL_law_257 : decode cL_law 257 = .ok (.iaload, 1) := by decide +kernel
theorem dL_law_258 : decode cL_law 258 = .ok (.invokevirtual 23, 3) := by decide +kernel
theorem dL_law_261 : decode cL_law 261 = .ok (.aload_n 2, 1) := by decide +kernel
theorem dL_law_262 : decode cL_law 262 = .ok (.aload_n 0, 1) := by decide +kernel
theorem dL_law_263 : decode cL_law 263 = .ok (.iload_n 3, 1) := by decide +kernel
theorem dL_law_264 : decode cL_law 264 = .ok (.iconst 1, 1) := by decide +kernel
theorem dL_law_265 : decode cL_law 265 = .ok (.iadd, 1) := by decide +kernel
theorem dL_law_266 : decode cL_law 266 = .ok (.iaload, 1) := by decide +kernel
theorem dL_law_267 : decode cL_law 267 = .ok (.aload_n 0, 1) := by decide +kernel
theorem dL_law_268 : decode cL_law 268 = .ok (.iload_n 3, 1) := by decide +kernel
theorem dL_law_269 : decode cL_law 269 = .ok (.iconst 2, 1) := by decide +kernel
theorem dL_law_270 : decode cL_law 270 = .ok (.iadd, 1) := by decide +kernel
theorem dL_law_271 : decode cL_law 271 = .ok (.iaload, 1) := by decide +kernel
theorem dL_law_272 : decode cL_law 272 = .ok (.aload_n 0, 1) := by decide +kernel
theorem dL_law_273 : decode cL_law 273 = .ok (.iload_n 3, 1) := by decide +kernel
theorem dL_law_274 : decode cL_law 274 = .ok (.iconst 3, 1) := by decide +kernel
theorem dL_law_275 : decode cL_law 275 = .ok (.iadd, 1) := by decide +kernel
theorem dL_law_276 : decode cL_law 276 = .ok (.iaload, 1) := by decide +kernel
theorem dL_law_277 : decode cL_law 277 = .ok (.invokevirtual 27, 3) := by decide +kernel
theorem dL_law_280 : decode cL_law 280 = .ok (.if_icmp .eq 640, 3) := by decide +kernel
theorem dL_law_283 : decode cL_law 283 = .ok (.iconst 0, 1) := by decide +kernel
theorem dL_law_284 : decode cL_law 284 = .ok (.ireturn, 1) := by decide +kernel
theorem dL_law_285 : decode cL_law 285 = .ok (.aload_n 1, 1) := by decide +kernel
theorem dL_law_286 : decode cL_law 286 = .ok (.aload_n 0, 1) := by decide +kernel
theorem dL_law_287 : decode cL_law 287 = .ok (.iload_n 3, 1) := by decide +kernel
theorem dL_law_288 : decode cL_law 288 = .ok (.iconst 1, 1) := by decide +kernel
theorem dL_law_289 : decode cL_law 289 = .ok (.iadd, 1) := by decide +kernel
theorem dL_law_290 : decode cL_law 290 = .ok (.iaload, 1) := by decide +kernel
theorem dL_law_291 : decode cL_law 291 = .ok (.aload_n 0, 1) := by decide +kernel
theorem dL_law_292 : decode cL_law 292 = .ok (.iload_n 3, 1) := by decide +kernel
theorem dL_law_293 : decode cL_law 293 = .ok (.iconst 2, 1) := by decide +kernel
theorem dL_law_294 : decode cL_law 294 = .ok (.iadd, 1) := by decide +kernel
theorem dL_law_295 : decode cL_law 295 = .ok (.iaload, 1) := by decide +kernel
theorem dL_law_296 : decode cL_law 296 = .ok (.aload_n 0, 1) := by decide +kernel
theorem dL_law_297 : decode cL_law 297 = .ok (.iload_n 3, 1) := by decide +kernel
theorem dL_law_298 : decode cL_law 298 = .ok (.iconst 3, 1) := by decide +kernel
theorem dL_law_299 : decode cL_law 299 = .ok (.iadd, 1) := by decide +kernel
theorem dL_law_300 : decode cL_law 300 = .ok (.iaload, 1) := by decide +kernel
theorem dL_law_301 : decode cL_law 301 = .ok (.invokevirtual 28, 3) := by decide +kernel
theorem dL_law_304 : decode cL_law 304 = .ok (.aload_n 2, 1) := by decide +kernel
theorem dL_law_305 : decode cL_law 305 = .ok (.aload_n 0, 1) := by decide +kernel
theorem dL_law_306 : decode cL_law 306 = .ok (.iload_n 3, 1) := by decide +kernel
theorem dL_law_307 : decode cL_law 307 = .ok (.iconst 1, 1) := by decide +kernel
theorem dL_law_308 : decode cL_law 308 = .ok (.iadd, 1) := by decide +kernel
theorem dL_law_309 : decode cL_law 309 = .ok (.iaload, 1) := by decide +kernel
theorem dL_law_310 : decode cL_law 310 = .ok (.aload_n 0, 1) := by decide +kernel
theorem dL_law_311 : decode cL_law 311 = .ok (.iload_n 3, 1) := by decide +kernel
theorem dL_law_312 : decode cL_law 312 = .ok (.iconst 2, 1) := by decide +kernel
theorem dL_law_313 : decode cL_law 313 = .ok (.iadd, 1) := by decide +kernel
theorem dL_law_314 : decode cL_law 314 = .ok (.iaload, 1) := by decide +kernel
theorem dL_law_315 : decode cL_law 315 = .ok (.aload_n 0, 1) := by decide +kernel
theorem dL_law_316 : decode cL_law 316 = .ok (.iload_n 3, 1) := by decide +kernel
theorem dL_law_317 : decode cL_law 317 = .ok (.iconst 3, 1) := by decide +kernel
theorem dL_law_318 : decode cL_law 318 = .ok (.iadd, 1) := by decide +kernel
theorem dL_law_319 : decode cL_law 319 = .ok (.iaload, 1) := by decide +kernel
theorem dL_law_320 : decode cL_law 320 = .ok (.invokevirtual 31, 3) := by decide +kernel
theorem dL_law_323 : decode cL_law 323 = .ok (.if_icmp .eq 597, 3) := by decide +kernel
theorem dL_law_326 : decode cL_law 326 = .ok (.iconst 0, 1) := by decide +kernel
theorem dL_law_327 : decode cL_law 327 = .ok (.ireturn, 1) := by decide +kernel
theorem dL_law_328 : decode cL_law 328 = .ok (.aload_n 1, 1) := by decide +kernel
theorem dL_law_329 : decode cL_law 329 = .ok (.aload_n 0, 1) := by decide +kernel
theorem dL_law_330 : decode cL_law 330 = .ok (.iload_n 3, 1) := by decide +kernel
theorem dL_law_331 : decode cL_law 331 = .ok (.iconst 1, 1) := by decide +kernel
theorem dL_law_332 : decode cL_law 332 = .ok (.iadd, 1) := by decide +kernel
theorem dL_law_333 : decode cL_law 333 = .ok (.iaload, 1) := by decide +kernel
theorem dL_law_334 : decode cL_law 334 = .ok (.aload_n 0, 1) := by decide +kernel
theorem dL_law_335 : decode cL_law 335 = .ok (.iload_n 3, 1) := by decide +kernel
theorem dL_law_336 : decode cL_law 336 = .ok (.iconst 2, 1) := by decide +kernel
theorem dL_law_337 : decode cL_law 337 = .ok (.iadd, 1) := by decide +kernel
theorem dL_law_338 : decode cL_law 338 = .ok (.iaload, 1) := by decide +kernel
theorem dL_law_339 : decode cL_law 339 = .ok (.invokevirtual 32, 3) := by decide +kernel
theorem dL_law_342 : decode cL_law 342 = .ok (.aload_n 2, 1) := by decide +kernel
theorem dL_law_343 : decode cL_law 343 = .ok (.aload_n 0, 1) := by decide +kernel
theorem dL_law_344 : decode cL_law 344 = .ok (.iload_n 3, 1) := by decide +kernel
theorem dL_law_345 : decode cL_law 345 = .ok (.iconst 1, 1) := by decide +kernel
theorem dL_law_346 : decode cL_law 346 = .ok (.iadd, 1) := by decide +kernel
theorem dL_law_347 : decode cL_law 347 = .ok (.iaload, 1) := by decide +kernel
theorem dL_law_348 : decode cL_law 348 = .ok (.aload_n 0, 1) := by decide +kernel
theorem dL_law_349 : decode cL_law 349 = .ok (.iload_n 3, 1) := by decide +kernel
theorem dL_law_350 : decode cL_law 350 = .ok (.iconst 2, 1) := by decide +kernel
theorem dL_law_351 : decode cL_law 351 = .ok (.iadd, 1) := by decide +kernel
theorem dL_law_352 : decode cL_law 352 = .ok (.iaload, 1) := by decide +kernel
theorem dL_law_353 : decode cL_law 353 = .ok (.invokevirtual 35, 3) := by decide +kernel
theorem dL_law_356 : decode cL_law 356 = .ok (.if_icmp .eq 564, 3) := by decide +kernel
theorem dL_law_359 : decode cL_law 359 = .ok (.iconst 0, 1) := by decide +kernel
theorem dL_law_360 : decode cL_law 360 = .ok (.ireturn, 1) := by decide +kernel
theorem dL_law_361 : decode cL_law 361 = .ok (.aload_n 1, 1) := by decide +kernel
theorem dL_law_362 : decode cL_law 362 = .ok (.aload_n 0, 1) := by decide +kernel
theorem dL_law_363 : decode cL_law 363 = .ok (.iload_n 3, 1) := by decide +kernel
theorem dL_law_364 : decode cL_law 364 = .ok (.iconst 1, 1) := by decide +kernel
theorem dL_law_365 : decode cL_law 365 = .ok (.iadd, 1) := by decide +kernel
theorem dL_law_366 : decode cL_law 366 = .ok (.iaload, 1) := by decide +kernel
theorem dL_law_367 : decode cL_law 367 = .ok (.invokevirtual 36, 3) := by decide +kernel
theorem dL_law_370 : decode cL_law 370 = .ok (.aload_n 2, 1) := by decide +kernel
theorem dL_law_371 : decode cL_law 371 = .ok (.aload_n 0, 1) := by decide +kernel
theorem dL_law_372 : decode cL_law 372 = .ok (.iload_n 3, 1) := by decide +kernel
theorem dL_law_373 : decode cL_law 373 = .ok (.iconst 1, 1) := by decide +kernel
theorem dL_law_374 : decode cL_law 374 = .ok (.iadd, 1) := by decide +kernel
theorem dL_law_375 : decode cL_law 375 = .ok (.iaload, 1) := by decide +kernel
theorem dL_law_376 : decode cL_law 376 = .ok (.invokevirtual 40, 3) := by decide +kernel
theorem dL_law_379 : decode cL_law 379 = .ok (.if_icmp .eq 541, 3) := by decide +kernel
theorem dL_law_382 : decode cL_law 382 = .ok (.iconst 0, 1) := by decide +kernel
theorem dL_law_383 : decode cL_law 383 = .ok (.ireturn, 1) := by decide +kernel
theorem dL_law_384 : decode cL_law 384 = .ok (.aload_n 1, 1) := by decide +kernel
theorem dL_law_385 : decode cL_law 385 = .ok (.invokevirtual 41, 3) := by decide +kernel
theorem dL_law_388 : decode cL_law 388 = .ok (.aload_n 2, 1) := by decide +kernel
theorem dL_law_389 : decode cL_law 389 = .ok (.invokevirtual 45, 3) := by decide +kernel
theorem dL_law_392 : decode cL_law 392 = .ok (.if_icmp .eq 528, 3) := by decide +kernel
theorem dL_law_395 : decode cL_law 395 = .ok (.iconst 0, 1) := by decide +kernel
theorem dL_law_396 : decode cL_law 396 = .ok (.ireturn, 1) := by decide +kernel
theorem dL_law_397 : decode cL_law 397 = .ok (.aload_n 1, 1) := by decide +kernel
theorem dL_law_398 : decode cL_law 398 = .ok (.invokevirtual 46, 3) := by decide +kernel
theorem dL_law_401 : decode cL_law 401 = .ok (.aload_n 2, 1) := by decide +kernel
theorem dL_law_402 : decode cL_law 402 = .ok (.invokevirtual 49, 3) := by decide +kernel
theorem dL_law_405 : decode cL_law 405 = .ok (.if_icmp .eq 515, 3) := by decide +kernel
theorem dL_law_408 : decode cL_law 408 = .ok (.iconst 0, 1) := by decide +kernel
theorem dL_law_409 : decode cL_law 409 = .ok (.ireturn, 1) := by decide +kernel
theorem dL_law_410 : decode cL_law 410 = .ok (.aload_n 1, 1) := by decide +kernel
theorem dL_law_411 : decode cL_law 411 = .ok (.invokevirtual 50, 3) := by decide +kernel
theorem dL_law_414 : decode cL_law 414 = .ok (.aload_n 2, 1) := by decide +kernel
theorem dL_law_415 : decode cL_law 415 = .ok (.invokevirtual 53, 3) := by decide +kernel
theorem dL_law_418 : decode cL_law 418 = .ok (.if_icmp .eq 502, 3) := by decide +kernel
theorem dL_law_421 : decode cL_law 421 = .ok (.iconst 0, 1) := by decide +kernel
theorem dL_law_422 : decode cL_law 422 = .ok (.ireturn, 1) := by decide +kernel
theorem dL_law_423 : decode cL_law 423 = .ok (.aload_n 1, 1) := by decide +kernel
theorem dL_law_424 : decode cL_law 424 = .ok (.aload_n 0, 1) := by decide +kernel
theorem dL_law_425 : decode cL_law 425 = .ok (.iload_n 3, 1) := by decide +kernel
theorem dL_law_426 : decode cL_law 426 = .ok (.iconst 1, 1) := by decide +kernel
theorem dL_law_427 : decode cL_law 427 = .ok (.iadd, 1) := by decide +kernel
theorem dL_law_428 : decode cL_law 428 = .ok (.iaload, 1) := by decide +kernel
theorem dL_law_429 : decode cL_law 429 = .ok (.invokevirtual 54, 3) := by decide +kernel
theorem dL_law_432 : decode cL_law 432 = .ok (.aload_n 2, 1) := by decide +kernel
theorem dL_law_433 : decode cL_law 433 = .ok (.aload_n 0, 1) := by decide +kernel
theorem dL_law_434 : decode cL_law 434 = .ok (.iload_n 3, 1) := by decide +kernel
theorem dL_law_435 : decode cL_law 435 = .ok (.iconst 1, 1) := by decide +kernel
theorem dL_law_436 : decode cL_law 436 = .ok (.iadd, 1) := by decide +kernel
theorem dL_law_437 : decode cL_law 437 = .ok (.iaload, 1) := by decide +kernel
theorem dL_law_438 : decode cL_law 438 = .ok (.invokevirtual 57, 3) := by decide +kernel
theorem dL_law_441 : decode cL_law 441 = .ok (.if_icmp .eq 479, 3) := by decide +kernel
theorem dL_law_444 : decode cL_law 444 = .ok (.iconst 0, 1) := by decide +kernel
theorem dL_law_445 : decode cL_law 445 = .ok (.ireturn, 1) := by decide +kernel
theorem dL_law_446 : decode cL_law 446 = .ok (.aload_n 1, 1) := by decide +kernel
theorem dL_law_447 : decode cL_law 447 = .ok (.aload_n 0, 1) := by decide +kernel
theorem dL_law_448 : decode cL_law 448 = .ok (.iload_n 3, 1) := by decide +kernel
theorem dL_law_449 : decode cL_law 449 = .ok (.iconst 1, 1) := by decide +kernel
theorem dL_law_450 : decode cL_law 450 = .ok (.iadd, 1) := by decide +kernel
theorem dL_law_451 : decode cL_law 451 = .ok (.iaload, 1) := by decide +kernel
theorem dL_law_452 : decode cL_law 452 = .ok (.aload_n 0, 1) := by decide +kernel
theorem dL_law_453 : decode cL_law 453 = .ok (.iload_n 3, 1) := by decide +kernel
theorem dL_law_454 : decode cL_law 454 = .ok (.iconst 2, 1) := by decide +kernel
theorem dL_law_455 : decode cL_law 455 = .ok (.iadd, 1) := by decide +kernel
theorem dL_law_456 : decode cL_law 456 = .ok (.iaload, 1) := by decide +kernel
theorem dL_law_457 : decode cL_law 457 = .ok (.invokevirtual 58, 3) := by decide +kernel
theorem dL_law_460 : decode cL_law 460 = .ok (.aload_n 2, 1) := by decide +kernel
theorem dL_law_461 : decode cL_law 461 = .ok (.aload_n 0, 1) := by decide +kernel
theorem dL_law_462 : decode cL_law 462 = .ok (.iload_n 3, 1) := by decide +kernel
theorem dL_law_463 : decode cL_law 463 = .ok (.iconst 1, 1) := by decide +kernel
theorem dL_law_464 : decode cL_law 464 = .ok (.iadd, 1) := by decide +kernel
theorem dL_law_465 : decode cL_law 465 = .ok (.iaload, 1) := by decide +kernel
theorem dL_law_466 : decode cL_law 466 = .ok (.aload_n 0, 1) := by decide +kernel
theorem dL_law_467 : decode cL_law 467 = .ok (.iload_n 3, 1) := by decide +kernel
theorem dL_law_468 : decode cL_law 468 = .ok (.iconst 2, 1) := by decide +kernel
theorem dL_law_469 : decode cL_law 469 = .ok (.iadd, 1) := by decide +kernel
theorem dL_law_470 : decode cL_law 470 = .ok (.iaload, 1) := by decide +kernel
theorem dL_law_471 : decode cL_law 471 = .ok (.invokevirtual 61, 3) := by decide +kernel
theorem dL_law_474 : decode cL_law 474 = .ok (.if_icmp .eq 446, 3) := by decide +kernel
theorem dL_law_477 : decode cL_law 477 = .ok (.iconst 0, 1) := by decide +kernel
theorem dL_law_478 : decode cL_law 478 = .ok (.ireturn, 1) := by decide +kernel
theorem dL_law_479 : decode cL_law 479 = .ok (.aload_n 1, 1) := by decide +kernel
theorem dL_law_480 : decode cL_law 480 = .ok (.aload_n 0, 1) := by decide +kernel
theorem dL_law_481 : decode cL_law 481 = .ok (.iload_n 3, 1) := by decide +kernel
theorem dL_law_482 : decode cL_law 482 = .ok (.iconst 1, 1) := by decide +kernel
theorem dL_law_483 : decode cL_law 483 = .ok (.iadd, 1) := by decide +kernel
theorem dL_law_484 : decode cL_law 484 = .ok (.iaload, 1) := by decide +kernel
theorem dL_law_485 : decode cL_law 485 = .ok (.aload_n 0, 1) := by decide +kernel
theorem dL_law_486 : decode cL_law 486 = .ok (.iload_n 3, 1) := by decide +kernel
theorem dL_law_487 : decode cL_law 487 = .ok (.iconst 2, 1) := by decide +kernel
theorem dL_law_488 : decode cL_law 488 = .ok (.iadd, 1) := by decide +kernel
theorem dL_law_489 : decode cL_law 489 = .ok (.iaload, 1) := by decide +kernel
theorem dL_law_490 : decode cL_law 490 = .ok (.invokevirtual 62, 3) := by decide +kernel
theorem dL_law_493 : decode cL_law 493 = .ok (.aload_n 2, 1) := by decide +kernel
theorem dL_law_494 : decode cL_law 494 = .ok (.aload_n 0, 1) := by decide +kernel
theorem dL_law_495 : decode cL_law 495 = .ok (.iload_n 3, 1) := by decide +kernel
theorem dL_law_496 : decode cL_law 496 = .ok (.iconst 1, 1) := by decide +kernel
theorem dL_law_497 : decode cL_law 497 = .ok (.iadd, 1) := by decide +kernel
theorem dL_law_498 : decode cL_law 498 = .ok (.iaload, 1) := by decide +kernel
theorem dL_law_499 : decode cL_law 499 = .ok (.aload_n 0, 1) := by decide +kernel
theorem dL_law_500 : decode cL_law 500 = .ok (.iload_n 3, 1) := by decide +kernel
theorem dL_law_501 : decode cL_law 501 = .ok (.iconst 2, 1) := by decide +kernel
theorem dL_law_502 : decode cL_law 502 = .ok (.iadd, 1) := by decide +kernel
theorem dL_law_503 : decode cL_law 503 = .ok (.iaload, 1) := by decide +kernel
theorem dL_law_504 : decode cL_law 504 = .ok (.invokevirtual 66, 3) := by decide +kernel
theorem dL_law_507 : decode cL_law 507 = .ok (.lcmp, 1) := by decide +kernel
theorem dL_law_508 : decode cL_law 508 = .ok (.ifCond .eq 412, 3) := by decide +kernel
theorem dL_law_511 : decode cL_law 511 = .ok (.iconst 0, 1) := by decide +kernel
theorem dL_law_512 : decode cL_law 512 = .ok (.ireturn, 1) := by decide +kernel
theorem dL_law_513 : decode cL_law 513 = .ok (.aload_n 1, 1) := by decide +kernel
theorem dL_law_514 : decode cL_law 514 = .ok (.aload_n 0, 1) := by decide +kernel
theorem dL_law_515 : decode cL_law 515 = .ok (.iload_n 3, 1) := by decide +kernel
theorem dL_law_516 : decode cL_law 516 = .ok (.iconst 1, 1) := by decide +kernel
theorem dL_law_517 : decode cL_law 517 = .ok (.iadd, 1) := by decide +kernel
theorem dL_law_518 : decode cL_law 518 = .ok (.iaload, 1) := by decide +kernel
theorem dL_law_519 : decode cL_law 519 = .ok (.invokevirtual 67, 3) := by decide +kernel
theorem dL_law_522 : decode cL_law 522 = .ok (.aload_n 2, 1) := by decide +kernel
theorem dL_law_523 : decode cL_law 523 = .ok (.aload_n 0, 1) := by decide +kernel
theorem dL_law_524 : decode cL_law 524 = .ok (.iload_n 3, 1) := by decide +kernel
theorem dL_law_525 : decode cL_law 525 = .ok (.iconst 1, 1) := by decide +kernel
theorem dL_law_526 : decode cL_law 526 = .ok (.iadd, 1) := by decide +kernel
theorem dL_law_527 : decode cL_law 527 = .ok (.iaload, 1) := by decide +kernel
theorem dL_law_528 : decode cL_law 528 = .ok (.invokevirtual 70, 3) := by decide +kernel
theorem dL_law_531 : decode cL_law 531 = .ok (.if_icmp .eq 389, 3) := by decide +kernel
theorem dL_law_534 : decode cL_law 534 = .ok (.iconst 0, 1) := by decide +kernel
theorem dL_law_535 : decode cL_law 535 = .ok (.ireturn, 1) := by decide +kernel
theorem dL_law_536 : decode cL_law 536 = .ok (.aload_n 1, 1) := by decide +kernel
theorem dL_law_537 : decode cL_law 537 = .ok (.aload_n 0, 1) := by decide +kernel
theorem dL_law_538 : decode cL_law 538 = .ok (.iload_n 3, 1) := by decide +kernel
theorem dL_law_539 : decode cL_law 539 = .ok (.iconst 1, 1) := by decide +kernel
theorem dL_law_540 : decode cL_law 540 = .ok (.iadd, 1) := by decide +kernel
theorem dL_law_541 : decode cL_law 541 = .ok (.iaload, 1) := by decide +kernel
theorem dL_law_542 : decode cL_law 542 = .ok (.invokevirtual 71, 3) := by decide +kernel
theorem dL_law_545 : decode cL_law 545 = .ok (.aload_n 2, 1) := by decide +kernel
theorem dL_law_546 : decode cL_law 546 = .ok (.aload_n 0, 1) := by decide +kernel
theorem dL_law_547 : decode cL_law 547 = .ok (.iload_n 3, 1) := by decide +kernel
theorem dL_law_548 : decode cL_law 548 = .ok (.iconst 1, 1) := by decide +kernel
theorem dL_law_549 : decode cL_law 549 = .ok (.iadd, 1) := by decide +kernel
theorem dL_law_550 : decode cL_law 550 = .ok (.iaload, 1) := by decide +kernel
theorem dL_law_551 : decode cL_law 551 = .ok (.invokevirtual 74, 3) := by decide +kernel
theorem dL_law_554 : decode cL_law 554 = .ok (.if_icmp .eq 366, 3) := by decide +kernel
theorem dL_law_557 : decode cL_law 557 = .ok (.iconst 0, 1) := by decide +kernel
theorem dL_law_558 : decode cL_law 558 = .ok (.ireturn, 1) := by decide +kernel
theorem dL_law_559 : decode cL_law 559 = .ok (.aload_n 1, 1) := by decide +kernel
theorem dL_law_560 : decode cL_law 560 = .ok (.invokevirtual 75, 3) := by decide +kernel
theorem dL_law_563 : decode cL_law 563 = .ok (.aload_n 2, 1) := by decide +kernel
theorem dL_law_564 : decode cL_law 564 = .ok (.invokevirtual 78, 3) := by decide +kernel
theorem dL_law_567 : decode cL_law 567 = .ok (.if_icmp .eq 353, 3) := by decide +kernel
theorem dL_law_570 : decode cL_law 570 = .ok (.iconst 0, 1) := by decide +kernel
theorem dL_law_571 : decode cL_law 571 = .ok (.ireturn, 1) := by decide +kernel
theorem dL_law_572 : decode cL_law 572 = .ok (.aload_n 1, 1) := by decide +kernel
theorem dL_law_573 : decode cL_law 573 = .ok (.invokevirtual 79, 3) := by decide +kernel
theorem dL_law_576 : decode cL_law 576 = .ok (.aload_n 2, 1) := by decide +kernel
theorem dL_law_577 : decode cL_law 577 = .ok (.invokevirtual 82, 3) := by decide +kernel
theorem dL_law_580 : decode cL_law 580 = .ok (.if_icmp .eq 340, 3) := by decide +kernel
theorem dL_law_583 : decode cL_law 583 = .ok (.iconst 0, 1) := by decide +kernel
theorem dL_law_584 : decode cL_law 584 = .ok (.ireturn, 1) := by decide +kernel
theorem dL_law_585 : decode cL_law 585 = .ok (.aload_n 1, 1) := by decide +kernel
theorem dL_law_586 : decode cL_law 586 = .ok (.aload_n 0, 1) := by decide +kernel
theorem dL_law_587 : decode cL_law 587 = .ok (.iload_n 3, 1) := by decide +kernel
theorem dL_law_588 : decode cL_law 588 = .ok (.iconst 1, 1) := by decide +kernel
theorem dL_law_589 : decode cL_law 589 = .ok (.iadd, 1) := by decide +kernel
theorem dL_law_590 : decode cL_law 590 = .ok (.iaload, 1) := by decide +kernel
theorem dL_law_591 : decode cL_law 591 = .ok (.invokevirtual 83, 3) := by decide +kernel
theorem dL_law_594 : decode cL_law 594 = .ok (.aload_n 2, 1) := by decide +kernel
theorem dL_law_595 : decode cL_law 595 = .ok (.aload_n 0, 1) := by decide +kernel
theorem dL_law_596 : decode cL_law 596 = .ok (.iload_n 3, 1) := by decide +kernel
theorem dL_law_597 : decode cL_law 597 = .ok (.iconst 1, 1) := by decide +kernel
theorem dL_law_598 : decode cL_law 598 = .ok (.iadd, 1) := by decide +kernel
theorem dL_law_599 : decode cL_law 599 = .ok (.iaload, 1) := by decide +kernel
theorem dL_law_600 : decode cL_law 600 = .ok (.invokevirtual 86, 3) := by decide +kernel
theorem dL_law_603 : decode cL_law 603 = .ok (.if_icmp .eq 317, 3) := by decide +kernel
theorem dL_law_606 : decode cL_law 606 = .ok (.iconst 0, 1) := by decide +kernel
theorem dL_law_607 : decode cL_law 607 = .ok (.ireturn, 1) := by decide +kernel
theorem dL_law_608 : decode cL_law 608 = .ok (.aload_n 1, 1) := by decide +kernel
theorem dL_law_609 : decode cL_law 609 = .ok (.invokevirtual 87, 3) := by decide +kernel
theorem dL_law_612 : decode cL_law 612 = .ok (.aload_n 2, 1) := by decide +kernel
theorem dL_law_613 : decode cL_law 613 = .ok (.invokevirtual 90, 3) := by decide +kernel
theorem dL_law_616 : decode cL_law 616 = .ok (.if_icmp .eq 304, 3) := by decide +kernel
theorem dL_law_619 : decode cL_law 619 = .ok (.iconst 0, 1) := by decide +kernel
theorem dL_law_620 : decode cL_law 620 = .ok (.ireturn, 1) := by decide +kernel
theorem dL_law_621 : decode cL_law 621 = .ok (.aload_n 1, 1) := by decide +kernel
theorem dL_law_622 : decode cL_law 622 = .ok (.aload_n 0, 1) := by decide +kernel
theorem dL_law_623 : decode cL_law 623 = .ok (.iload_n 3, 1) := by decide +kernel
theorem dL_law_624 : decode cL_law 624 = .ok (.iconst 1, 1) := by decide +kernel
theorem dL_law_625 : decode cL_law 625 = .ok (.iadd, 1) := by decide +kernel
theorem dL_law_626 : decode cL_law 626 = .ok (.iaload, 1) := by decide +kernel
theorem dL_law_627 : decode cL_law 627 = .ok (.aload_n 0, 1) := by decide +kernel
theorem dL_law_628 : decode cL_law 628 = .ok (.iload_n 3, 1) := by decide +kernel
theorem dL_law_629 : decode cL_law 629 = .ok (.iconst 2, 1) := by decide +kernel
theorem dL_law_630 : decode cL_law 630 = .ok (.iadd, 1) := by decide +kernel
theorem dL_law_631 : decode cL_law 631 = .ok (.iaload, 1) := by decide +kernel
theorem dL_law_632 : decode cL_law 632 = .ok (.aload_n 0, 1) := by decide +kernel
theorem dL_law_633 : decode cL_law 633 = .ok (.iload_n 3, 1) := by decide +kernel
theorem dL_law_634 : decode cL_law 634 = .ok (.iconst 3, 1) := by decide +kernel
theorem dL_law_635 : decode cL_law 635 = .ok (.iadd, 1) := by decide +kernel
theorem dL_law_636 : decode cL_law 636 = .ok (.iaload, 1) := by decide +kernel
theorem dL_law_637 : decode cL_law 637 = .ok (.invokevirtual 91, 3) := by decide +kernel
theorem dL_law_640 : decode cL_law 640 = .ok (.aload_n 2, 1) := by decide +kernel
theorem dL_law_641 : decode cL_law 641 = .ok (.aload_n 0, 1) := by decide +kernel
theorem dL_law_642 : decode cL_law 642 = .ok (.iload_n 3, 1) := by decide +kernel
theorem dL_law_643 : decode cL_law 643 = .ok (.iconst 1, 1) := by decide +kernel
theorem dL_law_644 : decode cL_law 644 = .ok (.iadd, 1) := by decide +kernel
theorem dL_law_645 : decode cL_law 645 = .ok (.iaload, 1) := by decide +kernel
theorem dL_law_646 : decode cL_law 646 = .ok (.aload_n 0, 1) := by decide +kernel
theorem dL_law_647 : decode cL_law 647 = .ok (.iload_n 3, 1) := by decide +kernel
theorem dL_law_648 : decode cL_law 648 = .ok (.iconst 2, 1) := by decide +kernel
theorem dL_law_649 : decode cL_law 649 = .ok (.iadd, 1) := by decide +kernel
theorem dL_law_650 : decode cL_law 650 = .ok (.iaload, 1) := by decide +kernel
theorem dL_law_651 : decode cL_law 651 = .ok (.aload_n 0, 1) := by decide +kernel
theorem dL_law_652 : decode cL_law 652 = .ok (.iload_n 3, 1) := by decide +kernel
theorem dL_law_653 : decode cL_law 653 = .ok (.iconst 3, 1) := by decide +kernel
theorem dL_law_654 : decode cL_law 654 = .ok (.iadd, 1) := by decide +kernel
theorem dL_law_655 : decode cL_law 655 = .ok (.iaload, 1) := by decide +kernel
theorem dL_law_656 : decode cL_law 656 = .ok (.invokevirtual 95, 3) := by decide +kernel
theorem dL_law_659 : decode cL_law 659 = .ok (.lcmp, 1) := by decide +kernel
theorem dL_law_660 : decode cL_law 660 = .ok (.ifCond .eq 260, 3) := by decide +kernel
theorem dL_law_663 : decode cL_law 663 = .ok (.iconst 0, 1) := by decide +kernel
theorem dL_law_664 : decode cL_law 664 = .ok (.ireturn, 1) := by decide +kernel
theorem dL_law_665 : decode cL_law 665 = .ok (.aload_n 1, 1) := by decide +kernel
theorem dL_law_666 : decode cL_law 666 = .ok (.aload_n 0, 1) := by decide +kernel
theorem dL_law_667 : decode cL_law 667 = .ok (.iload_n 3, 1) := by decide +kernel
theorem dL_law_668 : decode cL_law 668 = .ok (.iconst 1, 1) := by decide +kernel
theorem dL_law_669 : decode cL_law 669 = .ok (.iadd, 1) := by decide +kernel
theorem dL_law_670 : decode cL_law 670 = .ok (.iaload, 1) := by decide +kernel
theorem dL_law_671 : decode cL_law 671 = .ok (.aload_n 0, 1) := by decide +kernel
theorem dL_law_672 : decode cL_law 672 = .ok (.iload_n 3, 1) := by decide +kernel
theorem dL_law_673 : decode cL_law 673 = .ok (.iconst 2, 1) := by decide +kernel
theorem dL_law_674 : decode cL_law 674 = .ok (.iadd, 1) := by decide +kernel
theorem dL_law_675 : decode cL_law 675 = .ok (.iaload, 1) := by decide +kernel
theorem dL_law_676 : decode cL_law 676 = .ok (.aload_n 0, 1) := by decide +kernel
theorem dL_law_677 : decode cL_law 677 = .ok (.iload_n 3, 1) := by decide +kernel
theorem dL_law_678 : decode cL_law 678 = .ok (.iconst 3, 1) := by decide +kernel
theorem dL_law_679 : decode cL_law 679 = .ok (.iadd, 1) := by decide +kernel
theorem dL_law_680 : decode cL_law 680 = .ok (.iaload, 1) := by decide +kernel
theorem dL_law_681 : decode cL_law 681 = .ok (.aload_n 0, 1) := by decide +kernel
theorem dL_law_682 : decode cL_law 682 = .ok (.iload_n 3, 1) := by decide +kernel
theorem dL_law_683 : decode cL_law 683 = .ok (.iconst 4, 1) := by decide +kernel
theorem dL_law_684 : decode cL_law 684 = .ok (.iadd, 1) := by decide +kernel
theorem dL_law_685 : decode cL_law 685 = .ok (.iaload, 1) := by decide +kernel
theorem dL_law_686 : decode cL_law 686 = .ok (.invokevirtual 96, 3) := by decide +kernel
theorem dL_law_689 : decode cL_law 689 = .ok (.aload_n 2, 1) := by decide +kernel
theorem dL_law_690 : decode cL_law 690 = .ok (.aload_n 0, 1) := by decide +kernel
theorem dL_law_691 : decode cL_law 691 = .ok (.iload_n 3, 1) := by decide +kernel
theorem dL_law_692 : decode cL_law 692 = .ok (.iconst 1, 1) := by decide +kernel
theorem dL_law_693 : decode cL_law 693 = .ok (.iadd, 1) := by decide +kernel
theorem dL_law_694 : decode cL_law 694 = .ok (.iaload, 1) := by decide +kernel
theorem dL_law_695 : decode cL_law 695 = .ok (.aload_n 0, 1) := by decide +kernel
theorem dL_law_696 : decode cL_law 696 = .ok (.iload_n 3, 1) := by decide +kernel
theorem dL_law_697 : decode cL_law 697 = .ok (.iconst 2, 1) := by decide +kernel
theorem dL_law_698 : decode cL_law 698 = .ok (.iadd, 1) := by decide +kernel
theorem dL_law_699 : decode cL_law 699 = .ok (.iaload, 1) := by decide +kernel
theorem dL_law_700 : decode cL_law 700 = .ok (.aload_n 0, 1) := by decide +kernel
theorem dL_law_701 : decode cL_law 701 = .ok (.iload_n 3, 1) := by decide +kernel
theorem dL_law_702 : decode cL_law 702 = .ok (.iconst 3, 1) := by decide +kernel
theorem dL_law_703 : decode cL_law 703 = .ok (.iadd, 1) := by decide +kernel
theorem dL_law_704 : decode cL_law 704 = .ok (.iaload, 1) := by decide +kernel
theorem dL_law_705 : decode cL_law 705 = .ok (.aload_n 0, 1) := by decide +kernel
theorem dL_law_706 : decode cL_law 706 = .ok (.iload_n 3, 1) := by decide +kernel
theorem dL_law_707 : decode cL_law 707 = .ok (.iconst 4, 1) := by decide +kernel
theorem dL_law_708 : decode cL_law 708 = .ok (.iadd, 1) := by decide +kernel
theorem dL_law_709 : decode cL_law 709 = .ok (.iaload, 1) := by decide +kernel
theorem dL_law_710 : decode cL_law 710 = .ok (.invokevirtual 100, 3) := by decide +kernel
theorem dL_law_713 : decode cL_law 713 = .ok (.lcmp, 1) := by decide +kernel
theorem dL_law_714 : decode cL_law 714 = .ok (.ifCond .eq 206, 3) := by decide +kernel
theorem dL_law_717 : decode cL_law 717 = .ok (.iconst 0, 1) := by decide +kernel
theorem dL_law_718 : decode cL_law 718 = .ok (.ireturn, 1) := by decide +kernel
theorem dL_law_719 : decode cL_law 719 = .ok (.aload_n 1, 1) := by decide +kernel
theorem dL_law_720 : decode cL_law 720 = .ok (.aload_n 0, 1) := by decide +kernel
theorem dL_law_721 : decode cL_law 721 = .ok (.iload_n 3, 1) := by decide +kernel
theorem dL_law_722 : decode cL_law 722 = .ok (.iconst 1, 1) := by decide +kernel
theorem dL_law_723 : decode cL_law 723 = .ok (.iadd, 1) := by decide +kernel
theorem dL_law_724 : decode cL_law 724 = .ok (.iaload, 1) := by decide +kernel
theorem dL_law_725 : decode cL_law 725 = .ok (.invokevirtual 101, 3) := by decide +kernel
theorem dL_law_728 : decode cL_law 728 = .ok (.aload_n 2, 1) := by decide +kernel
theorem dL_law_729 : decode cL_law 729 = .ok (.aload_n 0, 1) := by decide +kernel
theorem dL_law_730 : decode cL_law 730 = .ok (.iload_n 3, 1) := by decide +kernel
theorem dL_law_731 : decode cL_law 731 = .ok (.iconst 1, 1) := by decide +kernel
theorem dL_law_732 : decode cL_law 732 = .ok (.iadd, 1) := by decide +kernel
theorem dL_law_733 : decode cL_law 733 = .ok (.iaload, 1) := by decide +kernel
theorem dL_law_734 : decode cL_law 734 = .ok (.invokevirtual 104, 3) := by decide +kernel
theorem dL_law_737 : decode cL_law 737 = .ok (.if_icmp .eq 183, 3) := by decide +kernel
theorem dL_law_740 : decode cL_law 740 = .ok (.iconst 0, 1) := by decide +kernel
theorem dL_law_741 : decode cL_law 741 = .ok (.ireturn, 1) := by decide +kernel
theorem dL_law_742 : decode cL_law 742 = .ok (.aload_n 1, 1) := by decide +kernel
theorem dL_law_743 : decode cL_law 743 = .ok (.invokevirtual 105, 3) := by decide +kernel
theorem dL_law_746 : decode cL_law 746 = .ok (.aload_n 2, 1) := by decide +kernel
theorem dL_law_747 : decode cL_law 747 = .ok (.invokevirtual 108, 3) := by decide +kernel
theorem dL_law_750 : decode cL_law 750 = .ok (.if_icmp .eq 170, 3) := by decide +kernel
theorem dL_law_753 : decode cL_law 753 = .ok (.iconst 0, 1) := by decide +kernel
theorem dL_law_754 : decode cL_law 754 = .ok (.ireturn, 1) := by decide +kernel
theorem dL_law_755 : decode cL_law 755 = .ok (.aload_n 1, 1) := by decide +kernel
theorem dL_law_756 : decode cL_law 756 = .ok (.aload_n 0, 1) := by decide +kernel
theorem dL_law_757 : decode cL_law 757 = .ok (.iload_n 3, 1) := by decide +kernel
theorem dL_law_758 : decode cL_law 758 = .ok (.iconst 1, 1) := by decide +kernel
theorem dL_law_759 : decode cL_law 759 = .ok (.iadd, 1) := by decide +kernel
theorem dL_law_760 : decode cL_law 760 = .ok (.iaload, 1) := by decide +kernel
theorem dL_law_761 : decode cL_law 761 = .ok (.aload_n 0, 1) := by decide +kernel
theorem dL_law_762 : decode cL_law 762 = .ok (.iload_n 3, 1) := by decide +kernel
theorem dL_law_763 : decode cL_law 763 = .ok (.iconst 2, 1) := by decide +kernel
theorem dL_law_764 : decode cL_law 764 = .ok (.iadd, 1) := by decide +kernel
theorem dL_law_765 : decode cL_law 765 = .ok (.iaload, 1) := by decide +kernel
theorem dL_law_766 : decode cL_law 766 = .ok (.invokevirtual 109, 3) := by decide +kernel
theorem dL_law_769 : decode cL_law 769 = .ok (.aload_n 2, 1) := by decide +kernel
theorem dL_law_770 : decode cL_law 770 = .ok (.aload_n 0, 1) := by decide +kernel
theorem dL_law_771 : decode cL_law 771 = .ok (.iload_n 3, 1) := by decide +kernel
theorem dL_law_772 : decode cL_law 772 = .ok (.iconst 1, 1) := by decide +kernel
theorem dL_law_773 : decode cL_law 773 = .ok (.iadd, 1) := by decide +kernel
theorem dL_law_774 : decode cL_law 774 = .ok (.iaload, 1) := by decide +kernel
theorem dL_law_775 : decode cL_law 775 = .ok (.aload_n 0, 1) := by decide +kernel
theorem dL_law_776 : decode cL_law 776 = .ok (.iload_n 3, 1) := by decide +kernel
theorem dL_law_777 : decode cL_law 777 = .ok (.iconst 2, 1) := by decide +kernel
theorem dL_law_778 : decode cL_law 778 = .ok (.iadd, 1) := by decide +kernel
theorem dL_law_779 : decode cL_law 779 = .ok (.iaload, 1) := by decide +kernel
theorem dL_law_780 : decode cL_law 780 = .ok (.invokevirtual 112, 3) := by decide +kernel
theorem dL_law_783 : decode cL_law 783 = .ok (.if_icmp .eq 137, 3) := by decide +kernel
theorem dL_law_786 : decode cL_law 786 = .ok (.iconst 0, 1) := by decide +kernel
theorem dL_law_787 : decode cL_law 787 = .ok (.ireturn, 1) := by decide +kernel
theorem dL_law_788 : decode cL_law 788 = .ok (.aload_n 1, 1) := by decide +kernel
theorem dL_law_789 : decode cL_law 789 = .ok (.aload_n 0, 1) := by decide +kernel
theorem dL_law_790 : decode cL_law 790 = .ok (.iload_n 3, 1) := by decide +kernel
theorem dL_law_791 : decode cL_law 791 = .ok (.iconst 1, 1) := by decide +kernel
theorem dL_law_792 : decode cL_law 792 = .ok (.iadd, 1) := by decide +kernel
theorem dL_law_793 : decode cL_law 793 = .ok (.iaload, 1) := by decide +kernel
theorem dL_law_794 : decode cL_law 794 = .ok (.invokevirtual 113, 3) := by decide +kernel
theorem dL_law_797 : decode cL_law 797 = .ok (.aload_n 2, 1) := by decide +kernel
theorem dL_law_798 : decode cL_law 798 = .ok (.aload_n 0, 1) := by decide +kernel
theorem dL_law_799 : decode cL_law 799 = .ok (.iload_n 3, 1) := by decide +kernel
theorem dL_law_800 : decode cL_law 800 = .ok (.iconst 1, 1) := by decide +kernel
theorem dL_law_801 : decode cL_law 801 = .ok (.iadd, 1) := by decide +kernel
theorem dL_law_802 : decode cL_law 802 = .ok (.iaload, 1) := by decide +kernel
theorem dL_law_803 : decode cL_law 803 = .ok (.invokevirtual 116, 3) := by decide +kernel
theorem dL_law_806 : decode cL_law 806 = .ok (.if_icmp .eq 114, 3) := by decide +kernel
theorem dL_law_809 : decode cL_law 809 = .ok (.iconst 0, 1) := by decide +kernel
theorem dL_law_810 : decode cL_law 810 = .ok (.ireturn, 1) := by decide +kernel
theorem dL_law_811 : decode cL_law 811 = .ok (.aload_n 1, 1) := by decide +kernel
theorem dL_law_812 : decode cL_law 812 = .ok (.aload_n 0, 1) := by decide +kernel
theorem dL_law_813 : decode cL_law 813 = .ok (.iload_n 3, 1) := by decide +kernel
theorem dL_law_814 : decode cL_law 814 = .ok (.iconst 1, 1) := by decide +kernel
theorem dL_law_815 : decode cL_law 815 = .ok (.iadd, 1) := by decide +kernel
theorem dL_law_816 : decode cL_law 816 = .ok (.iaload, 1) := by decide +kernel
theorem dL_law_817 : decode cL_law 817 = .ok (.aload_n 0, 1) := by decide +kernel
theorem dL_law_818 : decode cL_law 818 = .ok (.iload_n 3, 1) := by decide +kernel
theorem dL_law_819 : decode cL_law 819 = .ok (.iconst 2, 1) := by decide +kernel
theorem dL_law_820 : decode cL_law 820 = .ok (.iadd, 1) := by decide +kernel
theorem dL_law_821 : decode cL_law 821 = .ok (.iaload, 1) := by decide +kernel
theorem dL_law_822 : decode cL_law 822 = .ok (.aload_n 0, 1) := by decide +kernel
theorem dL_law_823 : decode cL_law 823 = .ok (.iload_n 3, 1) := by decide +kernel
theorem dL_law_824 : decode cL_law 824 = .ok (.iconst 3, 1) := by decide +kernel
theorem dL_law_825 : decode cL_law 825 = .ok (.iadd, 1) := by decide +kernel
theorem dL_law_826 : decode cL_law 826 = .ok (.iaload, 1) := by decide +kernel
theorem dL_law_827 : decode cL_law 827 = .ok (.aload_n 0, 1) := by decide +kernel
theorem dL_law_828 : decode cL_law 828 = .ok (.iload_n 3, 1) := by decide +kernel
theorem dL_law_829 : decode cL_law 829 = .ok (.iconst 4, 1) := by decide +kernel
theorem dL_law_830 : decode cL_law 830 = .ok (.iadd, 1) := by decide +kernel
theorem dL_law_831 : decode cL_law 831 = .ok (.iaload, 1) := by decide +kernel
theorem dL_law_832 : decode cL_law 832 = .ok (.aload_n 0, 1) := by decide +kernel
theorem dL_law_833 : decode cL_law 833 = .ok (.iload_n 3, 1) := by decide +kernel
theorem dL_law_834 : decode cL_law 834 = .ok (.iconst 5, 1) := by decide +kernel
theorem dL_law_835 : decode cL_law 835 = .ok (.iadd, 1) := by decide +kernel
theorem dL_law_836 : decode cL_law 836 = .ok (.iaload, 1) := by decide +kernel
theorem dL_law_837 : decode cL_law 837 = .ok (.invokevirtual 117, 3) := by decide +kernel
theorem dL_law_840 : decode cL_law 840 = .ok (.aload_n 2, 1) := by decide +kernel
theorem dL_law_841 : decode cL_law 841 = .ok (.aload_n 0, 1) := by decide +kernel
theorem dL_law_842 : decode cL_law 842 = .ok (.iload_n 3, 1) := by decide +kernel
theorem dL_law_843 : decode cL_law 843 = .ok (.iconst 1, 1) := by decide +kernel
theorem dL_law_844 : decode cL_law 844 = .ok (.iadd, 1) := by decide +kernel
theorem dL_law_845 : decode cL_law 845 = .ok (.iaload, 1) := by decide +kernel
theorem dL_law_846 : decode cL_law 846 = .ok (.aload_n 0, 1) := by decide +kernel
theorem dL_law_847 : decode cL_law 847 = .ok (.iload_n 3, 1) := by decide +kernel
theorem dL_law_848 : decode cL_law 848 = .ok (.iconst 2, 1) := by decide +kernel
theorem dL_law_849 : decode cL_law 849 = .ok (.iadd, 1) := by decide +kernel
theorem dL_law_850 : decode cL_law 850 = .ok (.iaload, 1) := by decide +kernel
theorem dL_law_851 : decode cL_law 851 = .ok (.aload_n 0, 1) := by decide +kernel
theorem dL_law_852 : decode cL_law 852 = .ok (.iload_n 3, 1) := by decide +kernel
theorem dL_law_853 : decode cL_law 853 = .ok (.iconst 3, 1) := by decide +kernel
theorem dL_law_854 : decode cL_law 854 = .ok (.iadd, 1) := by decide +kernel
theorem dL_law_855 : decode cL_law 855 = .ok (.iaload, 1) := by decide +kernel
theorem dL_law_856 : decode cL_law 856 = .ok (.aload_n 0, 1) := by decide +kernel
theorem dL_law_857 : decode cL_law 857 = .ok (.iload_n 3, 1) := by decide +kernel
theorem dL_law_858 : decode cL_law 858 = .ok (.iconst 4, 1) := by decide +kernel
theorem dL_law_859 : decode cL_law 859 = .ok (.iadd, 1) := by decide +kernel
theorem dL_law_860 : decode cL_law 860 = .ok (.iaload, 1) := by decide +kernel
theorem dL_law_861 : decode cL_law 861 = .ok (.aload_n 0, 1) := by decide +kernel
theorem dL_law_862 : decode cL_law 862 = .ok (.iload_n 3, 1) := by decide +kernel
theorem dL_law_863 : decode cL_law 863 = .ok (.iconst 5, 1) := by decide +kernel
theorem dL_law_864 : decode cL_law 864 = .ok (.iadd, 1) := by decide +kernel
theorem dL_law_865 : decode cL_law 865 = .ok (.iaload, 1) := by decide +kernel
theorem dL_law_866 : decode cL_law 866 = .ok (.invokevirtual 121, 3) := by decide +kernel
theorem dL_law_869 : decode cL_law 869 = .ok (.if_icmp .eq 51, 3) := by decide +kernel
theorem dL_law_872 : decode cL_law 872 = .ok (.iconst 0, 1) := by decide +kernel
theorem dL_law_873 : decode cL_law 873 = .ok (.ireturn, 1) := by decide +kernel
theorem dL_law_874 : decode cL_law 874 = .ok (.aload_n 1, 1) := by decide +kernel
theorem dL_law_875 : decode cL_law 875 = .ok (.aload_n 0, 1) := by decide +kernel
theorem dL_law_876 : decode cL_law 876 = .ok (.iload_n 3, 1) := by decide +kernel
theorem dL_law_877 : decode cL_law 877 = .ok (.iconst 1, 1) := by decide +kernel
theorem dL_law_878 : decode cL_law 878 = .ok (.iadd, 1) := by decide +kernel
theorem dL_law_879 : decode cL_law 879 = .ok (.iaload, 1) := by decide +kernel
theorem dL_law_880 : decode cL_law 880 = .ok (.invokevirtual 122, 3) := by decide +kernel
theorem dL_law_883 : decode cL_law 883 = .ok (.aload_n 2, 1) := by decide +kernel
theorem dL_law_884 : decode cL_law 884 = .ok (.aload_n 0, 1) := by decide +kernel
theorem dL_law_885 : decode cL_law 885 = .ok (.iload_n 3, 1) := by decide +kernel
theorem dL_law_886 : decode cL_law 886 = .ok (.iconst 1, 1) := by decide +kernel
theorem dL_law_887 : decode cL_law 887 = .ok (.iadd, 1) := by decide +kernel
theorem dL_law_888 : decode cL_law 888 = .ok (.iaload, 1) := by decide +kernel
theorem dL_law_889 : decode cL_law 889 = .ok (.invokevirtual 125, 3) := by decide +kernel
theorem dL_law_892 : decode cL_law 892 = .ok (.if_icmp .eq 28, 3) := by decide +kernel
theorem dL_law_895 : decode cL_law 895 = .ok (.iconst 0, 1) := by decide +kernel
theorem dL_law_896 : decode cL_law 896 = .ok (.ireturn, 1) := by decide +kernel

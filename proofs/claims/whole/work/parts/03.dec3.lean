theorem dX6_off_26 : decode cX6_off 26 = .ok (.getfield 12, 3) := by decide +kernel
theorem dX6_off_29 : decode cX6_off 29 = .ok (.getfield 63, 3) := by decide +kernel
theorem dX6_off_32 : decode cX6_off 32 = .ok (.if_icmp .ge 59, 3) := by decide +kernel
theorem dX6_off_35 : decode cX6_off 35 = .ok (.aload_n 0, 1) := by decide +kernel
theorem dX6_off_36 : decode cX6_off 36 = .ok (.getfield 12, 3) := by decide +kernel
theorem dX6_off_39 : decode cX6_off 39 = .ok (.iload 5, 2) := by decide +kernel
theorem dX6_off_41 : decode cX6_off 41 = .ok (.invokevirtual 98, 3) := by decide +kernel
theorem dX6_off_44 : decode cX6_off 44 = .ok (.ifCond .eq 12, 3) := by decide +kernel
theorem dX6_off_47 : decode cX6_off 47 = .ok (.aload_n 0, 1) := by decide +kernel
theorem dX6_off_48 : decode cX6_off 48 = .ok (.iload 5, 2) := by decide +kernel
theorem dX6_off_50 : decode cX6_off 50 = .ok (.invokevirtual 218, 3) := by decide +kernel
theorem dX6_off_53 : decode cX6_off 53 = .ok (.goto 4, 3) := by decide +kernel
theorem dX6_off_56 : decode cX6_off 56 = .ok (.iconst 0, 1) := by decide +kernel
theorem dX6_off_57 : decode cX6_off 57 = .ok (.istore 6, 2) := by decide +kernel
theorem dX6_off_59 : decode cX6_off 59 = .ok (.iload 6, 2) := by decide +kernel
theorem dX6_off_61 : decode cX6_off 61 = .ok (.ifCond .le 12, 3) := by decide +kernel
theorem dX6_off_64 : decode cX6_off 64 = .ok (.iload 4, 2) := by decide +kernel
theorem dX6_off_66 : decode cX6_off 66 = .ok (.iconst 1, 1) := by decide +kernel
theorem dX6_off_67 : decode cX6_off 67 = .ok (.iload 5, 2) := by decide +kernel
theorem dX6_off_69 : decode cX6_off 69 = .ok (.ishl, 1) := by decide +kernel
theorem dX6_off_70 : decode cX6_off 70 = .ok (.ior, 1) := by decide +kernel
theorem dX6_off_71 : decode cX6_off 71 = .ok (.istore 4, 2) := by decide +kernel
theorem dX6_off_73 : decode cX6_off 73 = .ok (.iload 6, 2) := by decide +kernel
theorem dX6_off_75 : decode cX6_off 75 = .ok (.iload_n 2, 1) := by decide +kernel
theorem dX6_off_76 : decode cX6_off 76 = .ok (.if_icmp .le 9, 3) := by decide +kernel
theorem dX6_off_79 : decode cX6_off 79 = .ok (.iload 6, 2) := by decide +kernel
theorem dX6_off_81 : decode cX6_off 81 = .ok (.istore_n 2, 1) := by decide +kernel
theorem dX6_off_82 : decode cX6_off 82 = .ok (.iload 5, 2) := by decide +kernel
theorem dX6_off_84 : decode cX6_off 84 = .ok (.istore_n 3, 1) := by decide +kernel
theorem dX6_off_85 : decode cX6_off 85 = .ok (.iinc 5 1, 3) := by decide +kernel
theorem dX6_off_88 : decode cX6_off 88 = .ok (.goto (-65), 3) := by decide +kernel
theorem dX6_off_91 : decode cX6_off 91 = .ok (.iload_n 1, 1) := by decide +kernel
theorem dX6_off_92 : decode cX6_off 92 = .ok (.tableswitch 43 0 2 #[28, 30, 32], 28) := by decide +kernel
theorem dX6_off_120 : decode cX6_off 120 = .ok (.iload_n 2, 1) := by decide +kernel
theorem dX6_off_121 : decode cX6_off 121 = .ok (.ireturn, 1) := by decide +kernel
theorem dX6_off_122 : decode cX6_off 122 = .ok (.iload_n 3, 1) := by decide +kernel
theorem dX6_off_123 : decode cX6_off 123 = .ok (.ireturn, 1) := by decide +kernel
theorem dX6_off_124 : decode cX6_off 124 = .ok (.iload 4, 2) := by decide +kernel
theorem dX6_off_126 : decode cX6_off 126 = .ok (.ifCond .ne 7, 3) := by decide +kernel
theorem dX6_off_129 : decode cX6_off 129 = .ok (.iconst 1, 1) := by decide +kernel
theorem dX6_off_130 : decode cX6_off 130 = .ok (.goto 4, 3) := by decide +kernel
theorem dX6_off_133 : decode cX6_off 133 = .ok (.iconst 0, 1) := by decide +kernel
theorem dX6_off_134 : decode cX6_off 134 = .ok (.ireturn, 1) := by decide +kernel
theorem dX6_off_135 : decode cX6_off 135 = .ok (.iload 4, 2) := by decide +kernel
theorem dX6_off_137 : decode cX6_off 137 = .ok (.ireturn, 1) := by decide +kernel
theorem dX6_walk_0 : decode cX6_walk 0 = .ok (.iload_n 1, 1) := by decide +kernel
theorem dX6_walk_1 : decode cX6_walk 1 = .ok (.invokestatic 55, 3) := by decide +kernel
theorem dX6_walk_4 : decode cX6_walk 4 = .ok (.ifCond .eq 10, 3) := by decide +kernel
theorem dX6_walk_7 : decode cX6_walk 7 = .ok (.iload_n 3, 1) := by decide +kernel
theorem dX6_walk_8 : decode cX6_walk 8 = .ok (.invokestatic 55, 3) := by decide +kernel
theorem dX6_walk_11 : decode cX6_walk 11 = .ok (.ifCond .ne 5, 3) := by decide +kernel
theorem dX6_walk_14 : decode cX6_walk 14 = .ok (.iconst (-1), 1) := by decide +kernel
theorem dX6_walk_15 : decode cX6_walk 15 = .ok (.ireturn, 1) := by decide +kernel
theorem dX6_walk_16 : decode cX6_walk 16 = .ok (.iload_n 2, 1) := by decide +kernel
theorem dX6_walk_17 : decode cX6_walk 17 = .ok (.iconst 0, 1) := by decide +kernel
theorem dX6_walk_18 : decode cX6_walk 18 = .ok (.ldc 105, 2) := by decide +kernel
theorem dX6_walk_20 : decode cX6_walk 20 = .ok (.invokestatic 59, 3) := by decide +kernel
theorem dX6_walk_23 : decode cX6_walk 23 = .ok (.ifCond .eq 13, 3) := by decide +kernel
theorem dX6_walk_26 : decode cX6_walk 26 = .ok (.iload 4, 2) := by decide +kernel
theorem dX6_walk_28 : decode cX6_walk 28 = .ok (.iconst 0, 1) := by decide +kernel
theorem dX6_walk_29 : decode cX6_walk 29 = .ok (.iconst 5, 1) := by decide +kernel
theorem dX6_walk_30 : decode cX6_walk 30 = .ok (.invokestatic 59, 3) := by decide +kernel
theorem dX6_walk_33 : decode cX6_walk 33 = .ok (.ifCond .ne 6, 3) := by decide +kernel
theorem dX6_walk_36 : decode cX6_walk 36 = .ok (.bipush (-2), 2) := by decide +kernel
theorem dX6_walk_38 : decode cX6_walk 38 = .ok (.ireturn, 1) := by decide +kernel
theorem dX6_walk_39 : decode cX6_walk 39 = .ok (.aload_n 0, 1) := by decide +kernel
theorem dX6_walk_40 : decode cX6_walk 40 = .ok (.getfield 40, 3) := by decide +kernel
theorem dX6_walk_43 : decode cX6_walk 43 = .ok (.aload_n 0, 1) := by decide +kernel
theorem dX6_walk_44 : decode cX6_walk 44 = .ok (.getfield 12, 3) := by decide +kernel
theorem dX6_walk_47 : decode cX6_walk 47 = .ok (.iload_n 1, 1) := by decide +kernel
theorem dX6_walk_48 : decode cX6_walk 48 = .ok (.iload_n 2, 1) := by decide +kernel
theorem dX6_walk_49 : decode cX6_walk 49 = .ok (.iload 4, 2) := by decide +kernel
theorem dX6_walk_51 : decode cX6_walk 51 = .ok (.invokevirtual 221, 3) := by decide +kernel
theorem dX6_walk_54 : decode cX6_walk 54 = .ok (.aload_n 0, 1) := by decide +kernel
theorem dX6_walk_55 : decode cX6_walk 55 = .ok (.getfield 40, 3) := by decide +kernel
theorem dX6_walk_58 : decode cX6_walk 58 = .ok (.iload_n 3, 1) := by decide +kernel
theorem dX6_walk_59 : decode cX6_walk 59 = .ok (.iload 4, 2) := by decide +kernel
theorem dX6_walk_61 : decode cX6_walk 61 = .ok (.invokevirtual 225, 3) := by decide +kernel
theorem dX6_walk_64 : decode cX6_walk 64 = .ok (.istore 6, 2) := by decide +kernel
theorem dX6_walk_66 : decode cX6_walk 66 = .ok (.iload 5, 2) := by decide +kernel
theorem dX6_walk_68 : decode cX6_walk 68 = .ok (.iconst (-1), 1) := by decide +kernel
theorem dX6_walk_69 : decode cX6_walk 69 = .ok (.if_icmp .ne 25, 3) := by decide +kernel
theorem dX6_walk_72 : decode cX6_walk 72 = .ok (.iload 6, 2) := by decide +kernel
theorem dX6_walk_74 : decode cX6_walk 74 = .ok (.ifCond .ge 7, 3) := by decide +kernel
theorem dX6_walk_77 : decode cX6_walk 77 = .ok (.iconst 0, 1) := by decide +kernel
theorem dX6_walk_78 : decode cX6_walk 78 = .ok (.goto 15, 3) := by decide +kernel
theorem dX6_walk_81 : decode cX6_walk 81 = .ok (.aload_n 0, 1) := by decide +kernel
theorem dX6_walk_82 : decode cX6_walk 82 = .ok (.getfield 40, 3) := by decide +kernel
theorem dX6_walk_85 : decode cX6_walk 85 = .ok (.getfield 228, 3) := by decide +kernel
theorem dX6_walk_88 : decode cX6_walk 88 = .ok (.iload 6, 2) := by decide +kernel
theorem dX6_walk_90 : decode cX6_walk 90 = .ok (.aaload, 1) := by decide +kernel
theorem dX6_walk_91 : decode cX6_walk 91 = .ok (.iload_n 3, 1) := by decide +kernel
theorem dX6_walk_92 : decode cX6_walk 92 = .ok (.iaload, 1) := by decide +kernel
theorem dX6_walk_93 : decode cX6_walk 93 = .ok (.ireturn, 1) := by decide +kernel
theorem dX6_walk_94 : decode cX6_walk 94 = .ok (.iload 5, 2) := by decide +kernel
theorem dX6_walk_96 : decode cX6_walk 96 = .ok (.bipush (-2), 2) := by decide +kernel
theorem dX6_walk_98 : decode cX6_walk 98 = .ok (.if_icmp .ne 16, 3) := by decide +kernel
theorem dX6_walk_101 : decode cX6_walk 101 = .ok (.iload 6, 2) := by decide +kernel
theorem dX6_walk_103 : decode cX6_walk 103 = .ok (.ifCond .ge 8, 3) := by decide +kernel
theorem dX6_walk_106 : decode cX6_walk 106 = .ok (.bipush (-6), 2) := by decide +kernel
theorem dX6_walk_108 : decode cX6_walk 108 = .ok (.goto 5, 3) := by decide +kernel
theorem dX6_walk_111 : decode cX6_walk 111 = .ok (.iload 6, 2) := by decide +kernel
theorem dX6_walk_113 : decode cX6_walk 113 = .ok (.ireturn, 1) := by decide +kernel
theorem dX6_walk_114 : decode cX6_walk 114 = .ok (.iload 5, 2) := by decide +kernel
theorem dX6_walk_116 : decode cX6_walk 116 = .ok (.ifCond .lt 10, 3) := by decide +kernel
theorem dX6_walk_119 : decode cX6_walk 119 = .ok (.iload 5, 2) := by decide +kernel
theorem dX6_walk_121 : decode cX6_walk 121 = .ok (.iload 6, 2) := by decide +kernel
theorem dX6_walk_123 : decode cX6_walk 123 = .ok (.if_icmp .lt 6, 3) := by decide +kernel
theorem dX6_walk_126 : decode cX6_walk 126 = .ok (.bipush (-6), 2) := by decide +kernel
theorem dX6_walk_128 : decode cX6_walk 128 = .ok (.ireturn, 1) := by decide +kernel
theorem dX6_walk_129 : decode cX6_walk 129 = .ok (.aload_n 0, 1) := by decide +kernel
theorem dX6_walk_130 : decode cX6_walk 130 = .ok (.getfield 40, 3) := by decide +kernel
theorem dX6_walk_133 : decode cX6_walk 133 = .ok (.aload_n 0, 1) := by decide +kernel
theorem dX6_walk_134 : decode cX6_walk 134 = .ok (.getfield 12, 3) := by decide +kernel
theorem dX6_walk_137 : decode cX6_walk 137 = .ok (.iload_n 3, 1) := by decide +kernel
theorem dX6_walk_138 : decode cX6_walk 138 = .ok (.iload 6, 2) := by decide +kernel
theorem dX6_walk_140 : decode cX6_walk 140 = .ok (.invokevirtual 231, 3) := by decide +kernel
theorem dX6_walk_143 : decode cX6_walk 143 = .ok (.aload_n 0, 1) := by decide +kernel
theorem dX6_walk_144 : decode cX6_walk 144 = .ok (.getfield 40, 3) := by decide +kernel
theorem dX6_walk_147 : decode cX6_walk 147 = .ok (.aload_n 0, 1) := by decide +kernel
theorem dX6_walk_148 : decode cX6_walk 148 = .ok (.getfield 12, 3) := by decide +kernel
theorem dX6_walk_151 : decode cX6_walk 151 = .ok (.iload_n 1, 1) := by decide +kernel
theorem dX6_walk_152 : decode cX6_walk 152 = .ok (.iload_n 2, 1) := by decide +kernel
theorem dX6_walk_153 : decode cX6_walk 153 = .ok (.iload 5, 2) := by decide +kernel
theorem dX6_walk_155 : decode cX6_walk 155 = .ok (.invokevirtual 235, 3) := by decide +kernel
theorem dX6_walk_158 : decode cX6_walk 158 = .ok (.ireturn, 1) := by decide +kernel
theorem dX6_walkers_0 : decode cX6_walkers 0 = .ok (.iload_n 1, 1) := by decide +kernel
theorem dX6_walkers_1 : decode cX6_walkers 1 = .ok (.iconst (-1), 1) := by decide +kernel
theorem dX6_walkers_2 : decode cX6_walkers 2 = .ok (.if_icmp .eq 16, 3) := by decide +kernel
theorem dX6_walkers_5 : decode cX6_walkers 5 = .ok (.aload_n 0, 1) := by decide +kernel
theorem dX6_walkers_6 : decode cX6_walkers 6 = .ok (.getfield 12, 3) := by decide +kernel
theorem dX6_walkers_9 : decode cX6_walkers 9 = .ok (.iload_n 1, 1) := by decide +kernel
theorem dX6_walkers_10 : decode cX6_walkers 10 = .ok (.invokevirtual 74, 3) := by decide +kernel
theorem dX6_walkers_13 : decode cX6_walkers 13 = .ok (.ifCond .ne 5, 3) := by decide +kernel
theorem dX6_walkers_16 : decode cX6_walkers 16 = .ok (.iconst (-1), 1) := by decide +kernel
theorem dX6_walkers_17 : decode cX6_walkers 17 = .ok (.ireturn, 1) := by decide +kernel
theorem dX6_walkers_18 : decode cX6_walkers 18 = .ok (.aload_n 0, 1) := by decide +kernel
theorem dX6_walkers_19 : decode cX6_walkers 19 = .ok (.invokevirtual 130, 3) := by decide +kernel
theorem dX6_walkers_22 : decode cX6_walkers 22 = .ok (.aload_n 0, 1) := by decide +kernel
theorem dX6_walkers_23 : decode cX6_walkers 23 = .ok (.getfield 47, 3) := by decide +kernel
theorem dX6_walkers_26 : decode cX6_walkers 26 = .ok (.getfield 239, 3) := by decide +kernel
theorem dX6_walkers_29 : decode cX6_walkers 29 = .ok (.ifCond .ne 18, 3) := by decide +kernel
theorem dX6_walkers_32 : decode cX6_walkers 32 = .ok (.aload_n 0, 1) := by decide +kernel
theorem dX6_walkers_33 : decode cX6_walkers 33 = .ok (.getfield 47, 3) := by decide +kernel
theorem dX6_walkers_36 : decode cX6_walkers 36 = .ok (.aload_n 0, 1) := by decide +kernel
theorem dX6_walkers_37 : decode cX6_walkers 37 = .ok (.getfield 12, 3) := by decide +kernel
theorem dX6_walkers_40 : decode cX6_walkers 40 = .ok (.aload_n 0, 1) := by decide +kernel
theorem dX6_walkers_41 : decode cX6_walkers 41 = .ok (.getfield 26, 3) := by decide +kernel
theorem dX6_walkers_44 : decode cX6_walkers 44 = .ok (.invokevirtual 243, 3) := by decide +kernel
theorem dX6_walkers_47 : decode cX6_walkers 47 = .ok (.iload_n 1, 1) := by decide +kernel
theorem dX6_walkers_48 : decode cX6_walkers 48 = .ok (.iconst (-1), 1) := by decide +kernel
theorem dX6_walkers_49 : decode cX6_walkers 49 = .ok (.if_icmp .ne 13, 3) := by decide +kernel
theorem dX6_walkers_52 : decode cX6_walkers 52 = .ok (.aload_n 0, 1) := by decide +kernel
theorem dX6_walkers_53 : decode cX6_walkers 53 = .ok (.getfield 47, 3) := by decide +kernel
theorem dX6_walkers_56 : decode cX6_walkers 56 = .ok (.getfield 247, 3) := by decide +kernel
theorem dX6_walkers_59 : decode cX6_walkers 59 = .ok (.goto 12, 3) := by decide +kernel
theorem dX6_walkers_62 : decode cX6_walkers 62 = .ok (.aload_n 0, 1) := by decide +kernel
theorem dX6_walkers_63 : decode cX6_walkers 63 = .ok (.getfield 47, 3) := by decide +kernel
theorem dX6_walkers_66 : decode cX6_walkers 66 = .ok (.getfield 250, 3) := by decide +kernel
theorem dX6_walkers_69 : decode cX6_walkers 69 = .ok (.iload_n 1, 1) := by decide +kernel
theorem dX6_walkers_70 : decode cX6_walkers 70 = .ok (.iaload, 1) := by decide +kernel
theorem dX6_walkers_71 : decode cX6_walkers 71 = .ok (.ireturn, 1) := by decide +kernel
theorem dX6_told_0 : decode cX6_told 0 = .ok (.iload_n 1, 1) := by decide +kernel
theorem dX6_told_1 : decode cX6_told 1 = .ok (.tableswitch 93 0 5 #[39, 47, 55, 63, 73, 83], 39) := by decide +kernel
theorem dX6_told_40 : decode cX6_told 40 = .ok (.aload_n 0, 1) := by decide +kernel
theorem dX6_told_41 : decode cX6_told 41 = .ok (.getfield 12, 3) := by decide +kernel
theorem dX6_told_44 : decode cX6_told 44 = .ok (.getfield 63, 3) := by decide +kernel
theorem dX6_told_47 : decode cX6_told 47 = .ok (.ireturn, 1) := by decide +kernel
theorem dX6_told_48 : decode cX6_told 48 = .ok (.aload_n 0, 1) := by decide +kernel
theorem dX6_told_49 : decode cX6_told 49 = .ok (.getfield 19, 3) := by decide +kernel
theorem dX6_told_52 : decode cX6_told 52 = .ok (.getfield 115, 3) := by decide +kernel
theorem dX6_told_55 : decode cX6_told 55 = .ok (.ireturn, 1) := by decide +kernel
theorem dX6_told_56 : decode cX6_told 56 = .ok (.aload_n 0, 1) := by decide +kernel
theorem dX6_told_57 : decode cX6_told 57 = .ok (.getfield 12, 3) := by decide +kernel
theorem dX6_told_60 : decode cX6_told 60 = .ok (.invokevirtual 184, 3) := by decide +kernel
theorem dX6_told_63 : decode cX6_told 63 = .ok (.ireturn, 1) := by decide +kernel
theorem dX6_told_64 : decode cX6_told 64 = .ok (.aload_n 0, 1) := by decide +kernel
theorem dX6_told_65 : decode cX6_told 65 = .ok (.getfield 12, 3) := by decide +kernel
theorem dX6_told_68 : decode cX6_told 68 = .ok (.getfield 112, 3) := by decide +kernel
theorem dX6_told_71 : decode cX6_told 71 = .ok (.iconst 0, 1) := by decide +kernel
theorem dX6_told_72 : decode cX6_told 72 = .ok (.iaload, 1) := by decide +kernel
theorem dX6_told_73 : decode cX6_told 73 = .ok (.ireturn, 1) := by decide +kernel
theorem dX6_told_74 : decode cX6_told 74 = .ok (.aload_n 0, 1) := by decide +kernel
theorem dX6_told_75 : decode cX6_told 75 = .ok (.getfield 12, 3) := by decide +kernel
theorem dX6_told_78 : decode cX6_told 78 = .ok (.getfield 112, 3) := by decide +kernel
theorem dX6_told_81 : decode cX6_told 81 = .ok (.iconst 1, 1) := by decide +kernel
theorem dX6_told_82 : decode cX6_told 82 = .ok (.iaload, 1) := by decide +kernel
theorem dX6_told_83 : decode cX6_told 83 = .ok (.ireturn, 1) := by decide +kernel
theorem dX6_told_84 : decode cX6_told 84 = .ok (.aload_n 0, 1) := by decide +kernel
theorem dX6_told_85 : decode cX6_told 85 = .ok (.getfield 12, 3) := by decide +kernel
theorem dX6_told_88 : decode cX6_told 88 = .ok (.getfield 112, 3) := by decide +kernel
theorem dX6_told_91 : decode cX6_told 91 = .ok (.iconst 2, 1) := by decide +kernel
theorem dX6_told_92 : decode cX6_told 92 = .ok (.iaload, 1) := by decide +kernel
theorem dX6_told_93 : decode cX6_told 93 = .ok (.ireturn, 1) := by decide +kernel
theorem dX6_told_94 : decode cX6_told 94 = .ok (.bipush (-2), 2) := by decide +kernel
theorem dX6_told_96 : decode cX6_told 96 = .ok (.ireturn, 1) := by decide +kernel
theorem dX6_isCoin_0 : decode cX6_isCoin 0 = .ok (.iload_n 0, 1) := by decide +kernel
theorem dX6_isCoin_1 : decode cX6_isCoin 1 = .ok (.ifCond .lt 13, 3) := by decide +kernel
theorem dX6_isCoin_4 : decode cX6_isCoin 4 = .ok (.iload_n 0, 1) := by decide +kernel
theorem dX6_isCoin_5 : decode cX6_isCoin 5 = .ok (.bipush 8, 2) := by decide +kernel
theorem dX6_isCoin_7 : decode cX6_isCoin 7 = .ok (.if_icmp .ge 7, 3) := by decide +kernel
theorem dX6_isCoin_10 : decode cX6_isCoin 10 = .ok (.iconst 1, 1) := by decide +kernel
theorem dX6_isCoin_11 : decode cX6_isCoin 11 = .ok (.goto 4, 3) := by decide +kernel
theorem dX6_isCoin_14 : decode cX6_isCoin 14 = .ok (.iconst 0, 1) := by decide +kernel
theorem dX6_isCoin_15 : decode cX6_isCoin 15 = .ok (.ireturn, 1) := by decide +kernel
theorem dX6_isWithin_0 : decode cX6_isWithin 0 = .ok (.iload_n 0, 1) := by decide +kernel
theorem dX6_isWithin_1 : decode cX6_isWithin 1 = .ok (.iload_n 1, 1) := by decide +kernel
theorem dX6_isWithin_2 : decode cX6_isWithin 2 = .ok (.if_icmp .lt 12, 3) := by decide +kernel
theorem dX6_isWithin_5 : decode cX6_isWithin 5 = .ok (.iload_n 0, 1) := by decide +kernel
theorem dX6_isWithin_6 : decode cX6_isWithin 6 = .ok (.iload_n 2, 1) := by decide +kernel
theorem dX6_isWithin_7 : decode cX6_isWithin 7 = .ok (.if_icmp .gt 7, 3) := by decide +kernel
theorem dX6_isWithin_10 : decode cX6_isWithin 10 = .ok (.iconst 1, 1) := by decide +kernel
theorem dX6_isWithin_11 : decode cX6_isWithin 11 = .ok (.goto 4, 3) := by decide +kernel
theorem dX6_isWithin_14 : decode cX6_isWithin 14 = .ok (.iconst 0, 1) := by decide +kernel
theorem dX6_isWithin_15 : decode cX6_isWithin 15 = .ok (.ireturn, 1) := by decide +kernel
theorem dX6_rateUpper_0 : decode cX6_rateUpper 0 = .ok (.iload_n 0, 1) := by decide +kernel
theorem dX6_rateUpper_1 : decode cX6_rateUpper 1 = .ok (.iload_n 1, 1) := by decide +kernel
theorem dX6_rateUpper_2 : decode cX6_rateUpper 2 = .ok (.isub, 1) := by decide +kernel
theorem dX6_rateUpper_3 : decode cX6_rateUpper 3 = .ok (.iconst 1, 1) := by decide +kernel
theorem dX6_rateUpper_4 : decode cX6_rateUpper 4 = .ok (.if_icmp .ge 7, 3) := by decide +kernel
theorem dX6_rateUpper_7 : decode cX6_rateUpper 7 = .ok (.iconst 1, 1) := by decide +kernel
theorem dX6_rateUpper_8 : decode cX6_rateUpper 8 = .ok (.goto 6, 3) := by decide +kernel
theorem dX6_rateUpper_11 : decode cX6_rateUpper 11 = .ok (.iload_n 0, 1) := by decide +kernel
theorem dX6_rateUpper_12 : decode cX6_rateUpper 12 = .ok (.iload_n 1, 1) := by decide +kernel
theorem dX6_rateUpper_13 : decode cX6_rateUpper 13 = .ok (.isub, 1) := by decide +kernel
theorem dX6_rateUpper_14 : decode cX6_rateUpper 14 = .ok (.ireturn, 1) := by decide +kernel
theorem dX6_greatestDivisor_0 : decode cX6_greatestDivisor 0 = .ok (.iconst 0, 1) := by decide +kernel
theorem dX6_greatestDivisor_1 : decode cX6_greatestDivisor 1 = .ok (.istore 4, 2) := by decide +kernel
theorem dX6_greatestDivisor_3 : decode cX6_greatestDivisor 3 = .ok (.iload 4, 2) := by decide +kernel
theorem dX6_greatestDivisor_5 : decode cX6_greatestDivisor 5 = .ok (.bipush 100, 2) := by decide +kernel
theorem dX6_greatestDivisor_7 : decode cX6_greatestDivisor 7 = .ok (.if_icmp .ge 25, 3) := by decide +kernel
theorem dX6_greatestDivisor_10 : decode cX6_greatestDivisor 10 = .ok (.lload_n 2, 1) := by decide +kernel
theorem dX6_greatestDivisor_11 : decode cX6_greatestDivisor 11 = .ok (.lconst 0, 1) := by decide +kernel
theorem dX6_greatestDivisor_12 : decode cX6_greatestDivisor 12 = .ok (.lcmp, 1) := by decide +kernel
theorem dX6_greatestDivisor_13 : decode cX6_greatestDivisor 13 = .ok (.ifCond .eq 19, 3) := by decide +kernel
theorem dX6_greatestDivisor_16 : decode cX6_greatestDivisor 16 = .ok (.lload_n 0, 1) := by decide +kernel
theorem dX6_greatestDivisor_17 : decode cX6_greatestDivisor 17 = .ok (.lload_n 2, 1) := by decide +kernel
theorem dX6_greatestDivisor_18 : decode cX6_greatestDivisor 18 = .ok (.lrem, 1) := by decide +kernel
theorem dX6_greatestDivisor_19 : decode cX6_greatestDivisor 19 = .ok (.lstore 5, 2) := by decide +kernel
theorem dX6_greatestDivisor_21 : decode cX6_greatestDivisor 21 = .ok (.lload_n 2, 1) := by decide +kernel
theorem dX6_greatestDivisor_22 : decode cX6_greatestDivisor 22 = .ok (.lstore_n 0, 1) := by decide +kernel
theorem dX6_greatestDivisor_23 : decode cX6_greatestDivisor 23 = .ok (.lload 5, 2) := by decide +kernel
theorem dX6_greatestDivisor_25 : decode cX6_greatestDivisor 25 = .ok (.lstore_n 2, 1) := by decide +kernel
theorem dX6_greatestDivisor_26 : decode cX6_greatestDivisor 26 = .ok (.iinc 4 1, 3) := by decide +kernel
theorem dX6_greatestDivisor_29 : decode cX6_greatestDivisor 29 = .ok (.goto (-26), 3) := by decide +kernel
theorem dX6_greatestDivisor_32 : decode cX6_greatestDivisor 32 = .ok (.lload_n 0, 1) := by decide +kernel
theorem dX6_greatestDivisor_33 : decode cX6_greatestDivisor 33 = .ok (.lreturn, 1) := by decide +kernel
theorem dX6_inLowestTerms_0 : decode cX6_inLowestTerms 0 = .ok (.lload_n 2, 1) := by decide +kernel
theorem dX6_inLowestTerms_1 : decode cX6_inLowestTerms 1 = .ok (.lconst 1, 1) := by decide +kernel
theorem dX6_inLowestTerms_2 : decode cX6_inLowestTerms 2 = .ok (.lcmp, 1) := by decide +kernel
theorem dX6_inLowestTerms_3 : decode cX6_inLowestTerms 3 = .ok (.ifCond .ge 7, 3) := by decide +kernel
theorem dX6_inLowestTerms_6 : decode cX6_inLowestTerms 6 = .ok (.lload_n 0, 1) := by decide +kernel
theorem dX6_inLowestTerms_7 : decode cX6_inLowestTerms 7 = .ok (.goto 6, 3) := by decide +kernel
theorem dX6_inLowestTerms_10 : decode cX6_inLowestTerms 10 = .ok (.lload_n 0, 1) := by decide +kernel
theorem dX6_inLowestTerms_11 : decode cX6_inLowestTerms 11 = .ok (.lload_n 2, 1) := by decide +kernel
theorem dX6_inLowestTerms_12 : decode cX6_inLowestTerms 12 = .ok (.ldiv, 1) := by decide +kernel
theorem dX6_inLowestTerms_13 : decode cX6_inLowestTerms 13 = .ok (.lreturn, 1) := by decide +kernel
theorem dX6_isAbove_0 : decode cX6_isAbove 0 = .ok (.iconst 0, 1) := by decide +kernel
theorem dX6_isAbove_1 : decode cX6_isAbove 1 = .ok (.istore 8, 2) := by decide +kernel
theorem dX6_isAbove_3 : decode cX6_isAbove 3 = .ok (.iconst 0, 1) := by decide +kernel
theorem dX6_isAbove_4 : decode cX6_isAbove 4 = .ok (.istore 9, 2) := by decide +kernel
theorem dX6_isAbove_6 : decode cX6_isAbove 6 = .ok (.iload 9, 2) := by decide +kernel
theorem dX6_isAbove_8 : decode cX6_isAbove 8 = .ok (.bipush 100, 2) := by decide +kernel
theorem dX6_isAbove_10 : decode cX6_isAbove 10 = .ok (.if_icmp .ge 109, 3) := by decide +kernel
theorem dX6_isAbove_13 : decode cX6_isAbove 13 = .ok (.lload_n 2, 1) := by decide +kernel
theorem dX6_isAbove_14 : decode cX6_isAbove 14 = .ok (.lconst 0, 1) := by decide +kernel
theorem dX6_isAbove_15 : decode cX6_isAbove 15 = .ok (.lcmp, 1) := by decide +kernel
theorem dX6_isAbove_16 : decode cX6_isAbove 16 = .ok (.ifCond .eq 103, 3) := by decide +kernel
theorem dX6_isAbove_19 : decode cX6_isAbove 19 = .ok (.lload 6, 2) := by decide +kernel
theorem dX6_isAbove_21 : decode cX6_isAbove 21 = .ok (.lconst 0, 1) := by decide +kernel
theorem dX6_isAbove_22 : decode cX6_isAbove 22 = .ok (.lcmp, 1) := by decide +kernel
theorem dX6_isAbove_23 : decode cX6_isAbove 23 = .ok (.ifCond .eq 96, 3) := by decide +kernel
theorem dX6_isAbove_26 : decode cX6_isAbove 26 = .ok (.lload_n 0, 1) := by decide +kernel
theorem dX6_isAbove_27 : decode cX6_isAbove 27 = .ok (.lload_n 2, 1) := by decide +kernel
theorem dX6_isAbove_28 : decode cX6_isAbove 28 = .ok (.ldiv, 1) := by decide +kernel
theorem dX6_isAbove_29 : decode cX6_isAbove 29 = .ok (.lstore 10, 2) := by decide +kernel
theorem dX6_isAbove_31 : decode cX6_isAbove 31 = .ok (.lload 4, 2) := by decide +kernel
theorem dX6_isAbove_33 : decode cX6_isAbove 33 = .ok (.lload 6, 2) := by decide +kernel
theorem dX6_isAbove_35 : decode cX6_isAbove 35 = .ok (.ldiv, 1) := by decide +kernel
theorem dX6_isAbove_36 : decode cX6_isAbove 36 = .ok (.lstore 12, 2) := by decide +kernel
theorem dX6_isAbove_38 : decode cX6_isAbove 38 = .ok (.lload 10, 2) := by decide +kernel
theorem dX6_isAbove_40 : decode cX6_isAbove 40 = .ok (.lload 12, 2) := by decide +kernel
theorem dX6_isAbove_42 : decode cX6_isAbove 42 = .ok (.lcmp, 1) := by decide +kernel
theorem dX6_isAbove_43 : decode cX6_isAbove 43 = .ok (.ifCond .eq 27, 3) := by decide +kernel
theorem dX6_isAbove_46 : decode cX6_isAbove 46 = .ok (.lload 10, 2) := by decide +kernel
theorem dX6_isAbove_48 : decode cX6_isAbove 48 = .ok (.lload 12, 2) := by decide +kernel
theorem dX6_isAbove_50 : decode cX6_isAbove 50 = .ok (.lcmp, 1) := by decide +kernel
theorem dX6_isAbove_51 : decode cX6_isAbove 51 = .ok (.ifCond .le 7, 3) := by decide +kernel
theorem dX6_isAbove_54 : decode cX6_isAbove 54 = .ok (.iconst 1, 1) := by decide +kernel
theorem dX6_isAbove_55 : decode cX6_isAbove 55 = .ok (.goto 4, 3) := by decide +kernel
theorem dX6_isAbove_58 : decode cX6_isAbove 58 = .ok (.iconst 0, 1) := by decide +kernel
theorem dX6_isAbove_59 : decode cX6_isAbove 59 = .ok (.iload 8, 2) := by decide +kernel
theorem dX6_isAbove_61 : decode cX6_isAbove 61 = .ok (.if_icmp .eq 7, 3) := by decide +kernel
theorem dX6_isAbove_64 : decode cX6_isAbove 64 = .ok (.iconst 1, 1) := by decide +kernel
theorem dX6_isAbove_65 : decode cX6_isAbove 65 = .ok (.goto 4, 3) := by decide +kernel
theorem dX6_isAbove_68 : decode cX6_isAbove 68 = .ok (.iconst 0, 1) := by decide +kernel
theorem dX6_isAbove_69 : decode cX6_isAbove 69 = .ok (.ireturn, 1) := by decide +kernel
theorem dX6_isAbove_70 : decode cX6_isAbove 70 = .ok (.lload_n 0, 1) := by decide +kernel
theorem dX6_isAbove_71 : decode cX6_isAbove 71 = .ok (.lload 10, 2) := by decide +kernel
theorem dX6_isAbove_73 : decode cX6_isAbove 73 = .ok (.lload_n 2, 1) := by decide +kernel
theorem dX6_isAbove_74 : decode cX6_isAbove 74 = .ok (.lmul, 1) := by decide +kernel
theorem dX6_isAbove_75 : decode cX6_isAbove 75 = .ok (.lsub, 1) := by decide +kernel
theorem dX6_isAbove_76 : decode cX6_isAbove 76 = .ok (.lstore 14, 2) := by decide +kernel
theorem dX6_isAbove_78 : decode cX6_isAbove 78 = .ok (.lload 4, 2) := by decide +kernel
theorem dX6_isAbove_80 : decode cX6_isAbove 80 = .ok (.lload 12, 2) := by decide +kernel
theorem dX6_isAbove_82 : decode cX6_isAbove 82 = .ok (.lload 6, 2) := by decide +kernel
theorem dX6_isAbove_84 : decode cX6_isAbove 84 = .ok (.lmul, 1) := by decide +kernel
theorem dX6_isAbove_85 : decode cX6_isAbove 85 = .ok (.lsub, 1) := by decide +kernel
theorem dX6_isAbove_86 : decode cX6_isAbove 86 = .ok (.lstore 16, 2) := by decide +kernel
theorem dX6_isAbove_88 : decode cX6_isAbove 88 = .ok (.lload_n 2, 1) := by decide +kernel
theorem dX6_isAbove_89 : decode cX6_isAbove 89 = .ok (.lstore_n 0, 1) := by decide +kernel
theorem dX6_isAbove_90 : decode cX6_isAbove 90 = .ok (.lload 14, 2) := by decide +kernel
theorem dX6_isAbove_92 : decode cX6_isAbove 92 = .ok (.lstore_n 2, 1) := by decide +kernel
theorem dX6_isAbove_93 : decode cX6_isAbove 93 = .ok (.lload 6, 2) := by decide +kernel
theorem dX6_isAbove_95 : decode cX6_isAbove 95 = .ok (.lstore 4, 2) := by decide +kernel
theorem dX6_isAbove_97 : decode cX6_isAbove 97 = .ok (.lload 16, 2) := by decide +kernel
theorem dX6_isAbove_99 : decode cX6_isAbove 99 = .ok (.lstore 6, 2) := by decide +kernel
theorem dX6_isAbove_101 : decode cX6_isAbove 101 = .ok (.iload 8, 2) := by decide +kernel
theorem dX6_isAbove_103 : decode cX6_isAbove 103 = .ok (.ifCond .ne 7, 3) := by decide +kernel
theorem dX6_isAbove_106 : decode cX6_isAbove 106 = .ok (.iconst 1, 1) := by decide +kernel
theorem dX6_isAbove_107 : decode cX6_isAbove 107 = .ok (.goto 4, 3) := by decide +kernel
theorem dX6_isAbove_110 : decode cX6_isAbove 110 = .ok (.iconst 0, 1) := by decide +kernel
theorem dX6_isAbove_111 : decode cX6_isAbove 111 = .ok (.istore 8, 2) := by decide +kernel
theorem dX6_isAbove_113 : decode cX6_isAbove 113 = .ok (.iinc 9 1, 3) := by decide +kernel
theorem dX6_isAbove_116 : decode cX6_isAbove 116 = .ok (.goto (-110), 3) := by decide +kernel
theorem dX6_isAbove_119 : decode cX6_isAbove 119 = .ok (.lload_n 2, 1) := by decide +kernel
theorem dX6_isAbove_120 : decode cX6_isAbove 120 = .ok (.lload 6, 2) := by decide +kernel
theorem dX6_isAbove_122 : decode cX6_isAbove 122 = .ok (.lcmp, 1) := by decide +kernel
theorem dX6_isAbove_123 : decode cX6_isAbove 123 = .ok (.ifCond .eq 23, 3) := by decide +kernel
theorem dX6_isAbove_126 : decode cX6_isAbove 126 = .ok (.lload_n 2, 1) := by decide +kernel
theorem dX6_isAbove_127 : decode cX6_isAbove 127 = .ok (.lconst 0, 1) := by decide +kernel
theorem dX6_isAbove_128 : decode cX6_isAbove 128 = .ok (.lcmp, 1) := by decide +kernel
theorem dX6_isAbove_129 : decode cX6_isAbove 129 = .ok (.ifCond .ne 7, 3) := by decide +kernel
theorem dX6_isAbove_132 : decode cX6_isAbove 132 = .ok (.iconst 1, 1) := by decide +kernel
theorem dX6_isAbove_133 : decode cX6_isAbove 133 = .ok (.goto 4, 3) := by decide +kernel
theorem dX6_isAbove_136 : decode cX6_isAbove 136 = .ok (.iconst 0, 1) := by decide +kernel
theorem dX6_isAbove_137 : decode cX6_isAbove 137 = .ok (.iload 8, 2) := by decide +kernel
theorem dX6_isAbove_139 : decode cX6_isAbove 139 = .ok (.if_icmp .eq 7, 3) := by decide +kernel
theorem dX6_isAbove_142 : decode cX6_isAbove 142 = .ok (.iconst 1, 1) := by decide +kernel
theorem dX6_isAbove_143 : decode cX6_isAbove 143 = .ok (.goto 4, 3) := by decide +kernel
theorem dX6_isAbove_146 : decode cX6_isAbove 146 = .ok (.iconst 0, 1) := by decide +kernel
theorem dX6_isAbove_147 : decode cX6_isAbove 147 = .ok (.ireturn, 1) := by decide +kernel
theorem dX6_forget_0 : decode cX6_forget 0 = .ok (.aload_n 0, 1) := by decide +kernel
theorem dX6_forget_1 : decode cX6_forget 1 = .ok (.getfield 26, 3) := by decide +kernel
theorem dX6_forget_4 : decode cX6_forget 4 = .ok (.iconst 0, 1) := by decide +kernel
theorem dX6_forget_5 : decode cX6_forget 5 = .ok (.putfield 251, 3) := by decide +kernel
theorem dX6_forget_8 : decode cX6_forget 8 = .ok (.aload_n 0, 1) := by decide +kernel
theorem dX6_forget_9 : decode cX6_forget 9 = .ok (.getfield 47, 3) := by decide +kernel
theorem dX6_forget_12 : decode cX6_forget 12 = .ok (.iconst 0, 1) := by decide +kernel
theorem dX6_forget_13 : decode cX6_forget 13 = .ok (.putfield 239, 3) := by decide +kernel
theorem dX6_forget_16 : decode cX6_forget 16 = .ok (.return_, 1) := by decide +kernel
theorem dX6_lookAround_0 : decode cX6_lookAround 0 = .ok (.aload_n 0, 1) := by decide +kernel
theorem dX6_lookAround_1 : decode cX6_lookAround 1 = .ok (.getfield 26, 3) := by decide +kernel
theorem dX6_lookAround_4 : decode cX6_lookAround 4 = .ok (.getfield 251, 3) := by decide +kernel
theorem dX6_lookAround_7 : decode cX6_lookAround 7 = .ok (.ifCond .ne 14, 3) := by decide +kernel
theorem dX6_lookAround_10 : decode cX6_lookAround 10 = .ok (.aload_n 0, 1) := by decide +kernel
theorem dX6_lookAround_11 : decode cX6_lookAround 11 = .ok (.getfield 26, 3) := by decide +kernel
theorem dX6_lookAround_14 : decode cX6_lookAround 14 = .ok (.aload_n 0, 1) := by decide +kernel
theorem dX6_lookAround_15 : decode cX6_lookAround 15 = .ok (.getfield 12, 3) := by decide +kernel
theorem dX6_lookAround_18 : decode cX6_lookAround 18 = .ok (.invokevirtual 252, 3) := by decide +kernel
theorem dX6_lookAround_21 : decode cX6_lookAround 21 = .ok (.return_, 1) := by decide +kernel
theorem dX6_refuseFraction_0 : decode cX6_refuseFraction 0 = .ok (.iload_n 1, 1) := by decide +kernel
theorem dX6_refuseFraction_1 : decode cX6_refuseFraction 1 = .ok (.invokestatic 55, 3) := by decide +kernel
theorem dX6_refuseFraction_4 : decode cX6_refuseFraction 4 = .ok (.ifCond .eq 10, 3) := by decide +kernel
theorem dX6_refuseFraction_7 : decode cX6_refuseFraction 7 = .ok (.iload_n 2, 1) := by decide +kernel
theorem dX6_refuseFraction_8 : decode cX6_refuseFraction 8 = .ok (.invokestatic 55, 3) := by decide +kernel
theorem dX6_refuseFraction_11 : decode cX6_refuseFraction 11 = .ok (.ifCond .ne 5, 3) := by decide +kernel
theorem dX6_refuseFraction_14 : decode cX6_refuseFraction 14 = .ok (.iconst (-1), 1) := by decide +kernel
theorem dX6_refuseFraction_15 : decode cX6_refuseFraction 15 = .ok (.ireturn, 1) := by decide +kernel
theorem dX6_refuseFraction_16 : decode cX6_refuseFraction 16 = .ok (.iload_n 3, 1) := by decide +kernel
theorem dX6_refuseFraction_17 : decode cX6_refuseFraction 17 = .ok (.iconst 0, 1) := by decide +kernel
theorem dX6_refuseFraction_18 : decode cX6_refuseFraction 18 = .ok (.iconst 1, 1) := by decide +kernel
theorem dX6_refuseFraction_19 : decode cX6_refuseFraction 19 = .ok (.invokestatic 59, 3) := by decide +kernel
theorem dX6_refuseFraction_22 : decode cX6_refuseFraction 22 = .ok (.ifCond .eq 13, 3) := by decide +kernel
theorem dX6_refuseFraction_25 : decode cX6_refuseFraction 25 = .ok (.iload 4, 2) := by decide +kernel
theorem dX6_refuseFraction_27 : decode cX6_refuseFraction 27 = .ok (.iconst 0, 1) := by decide +kernel
theorem dX6_refuseFraction_28 : decode cX6_refuseFraction 28 = .ok (.iconst 1, 1) := by decide +kernel
theorem dX6_refuseFraction_29 : decode cX6_refuseFraction 29 = .ok (.invokestatic 59, 3) := by decide +kernel
theorem dX6_refuseFraction_32 : decode cX6_refuseFraction 32 = .ok (.ifCond .ne 6, 3) := by decide +kernel
theorem dX6_refuseFraction_35 : decode cX6_refuseFraction 35 = .ok (.bipush (-2), 2) := by decide +kernel
theorem dX6_refuseFraction_37 : decode cX6_refuseFraction 37 = .ok (.ireturn, 1) := by decide +kernel
theorem dX6_refuseFraction_38 : decode cX6_refuseFraction 38 = .ok (.aload_n 0, 1) := by decide +kernel
theorem dX6_refuseFraction_39 : decode cX6_refuseFraction 39 = .ok (.invokevirtual 130, 3) := by decide +kernel
theorem dX6_refuseFraction_42 : decode cX6_refuseFraction 42 = .ok (.aload_n 0, 1) := by decide +kernel
theorem dX6_refuseFraction_43 : decode cX6_refuseFraction 43 = .ok (.getfield 26, 3) := by decide +kernel
theorem dX6_refuseFraction_46 : decode cX6_refuseFraction 46 = .ok (.getfield 134, 3) := by decide +kernel
theorem dX6_refuseFraction_49 : decode cX6_refuseFraction 49 = .ok (.ifCond .le 8, 3) := by decide +kernel
theorem dX6_refuseFraction_52 : decode cX6_refuseFraction 52 = .ok (.bipush (-3), 2) := by decide +kernel
theorem dX6_refuseFraction_54 : decode cX6_refuseFraction 54 = .ok (.goto 4, 3) := by decide +kernel
theorem dX6_refuseFraction_57 : decode cX6_refuseFraction 57 = .ok (.iconst 0, 1) := by decide +kernel
theorem dX6_refuseFraction_58 : decode cX6_refuseFraction 58 = .ok (.ireturn, 1) := by decide +kernel
theorem dX6_partOfBestWay_0 : decode cX6_partOfBestWay 0 = .ok (.iload_n 1, 1) := by decide +kernel
theorem dX6_partOfBestWay_1 : decode cX6_partOfBestWay 1 = .ok (.invokestatic 55, 3) := by decide +kernel
theorem dX6_partOfBestWay_4 : decode cX6_partOfBestWay 4 = .ok (.ifCond .eq 10, 3) := by decide +kernel
theorem dX6_partOfBestWay_7 : decode cX6_partOfBestWay 7 = .ok (.iload_n 2, 1) := by decide +kernel
theorem dX6_partOfBestWay_8 : decode cX6_partOfBestWay 8 = .ok (.invokestatic 55, 3) := by decide +kernel
theorem dX6_partOfBestWay_11 : decode cX6_partOfBestWay 11 = .ok (.ifCond .ne 5, 3) := by decide +kernel
theorem dX6_partOfBestWay_14 : decode cX6_partOfBestWay 14 = .ok (.lconst 0, 1) := by decide +kernel
theorem dX6_partOfBestWay_15 : decode cX6_partOfBestWay 15 = .ok (.lreturn, 1) := by decide +kernel
theorem dX6_partOfBestWay_16 : decode cX6_partOfBestWay 16 = .ok (.aload_n 0, 1) := by decide +kernel
theorem dX6_partOfBestWay_17 : decode cX6_partOfBestWay 17 = .ok (.getfield 33, 3) := by decide +kernel
theorem dX6_partOfBestWay_20 : decode cX6_partOfBestWay 20 = .ok (.aload_n 0, 1) := by decide +kernel
theorem dX6_partOfBestWay_21 : decode cX6_partOfBestWay 21 = .ok (.getfield 12, 3) := by decide +kernel
theorem dX6_partOfBestWay_24 : decode cX6_partOfBestWay 24 = .ok (.iload_n 1, 1) := by decide +kernel
theorem dX6_partOfBestWay_25 : decode cX6_partOfBestWay 25 = .ok (.invokevirtual 255, 3) := by decide +kernel
theorem dX6_partOfBestWay_28 : decode cX6_partOfBestWay 28 = .ok (.iload_n 3, 1) := by decide +kernel
theorem dX6_partOfBestWay_29 : decode cX6_partOfBestWay 29 = .ok (.ifCond .ne 15, 3) := by decide +kernel
theorem dX6_partOfBestWay_32 : decode cX6_partOfBestWay 32 = .ok (.aload_n 0, 1) := by decide +kernel
theorem dX6_partOfBestWay_33 : decode cX6_partOfBestWay 33 = .ok (.getfield 33, 3) := by decide +kernel
theorem dX6_partOfBestWay_36 : decode cX6_partOfBestWay 36 = .ok (.getfield 258, 3) := by decide +kernel
theorem dX6_partOfBestWay_39 : decode cX6_partOfBestWay 39 = .ok (.iload_n 2, 1) := by decide +kernel
theorem dX6_partOfBestWay_40 : decode cX6_partOfBestWay 40 = .ok (.laload, 1) := by decide +kernel
theorem dX6_partOfBestWay_41 : decode cX6_partOfBestWay 41 = .ok (.goto 12, 3) := by decide +kernel
theorem dX6_partOfBestWay_44 : decode cX6_partOfBestWay 44 = .ok (.aload_n 0, 1) := by decide +kernel
theorem dX6_partOfBestWay_45 : decode cX6_partOfBestWay 45 = .ok (.getfield 33, 3) := by decide +kernel
theorem dX6_partOfBestWay_48 : decode cX6_partOfBestWay 48 = .ok (.getfield 260, 3) := by decide +kernel
theorem dX6_partOfBestWay_51 : decode cX6_partOfBestWay 51 = .ok (.iload_n 2, 1) := by decide +kernel
theorem dX6_partOfBestWay_52 : decode cX6_partOfBestWay 52 = .ok (.laload, 1) := by decide +kernel
theorem dX6_partOfBestWay_53 : decode cX6_partOfBestWay 53 = .ok (.lreturn, 1) := by decide +kernel
theorem dX6_excess_0 : decode cX6_excess 0 = .ok (.aload_n 0, 1) := by decide +kernel
theorem dX6_excess_1 : decode cX6_excess 1 = .ok (.getfield 12, 3) := by decide +kernel
theorem dX6_excess_4 : decode cX6_excess 4 = .ok (.iload_n 1, 1) := by decide +kernel
theorem dX6_excess_5 : decode cX6_excess 5 = .ok (.invokevirtual 101, 3) := by decide +kernel
theorem dX6_excess_8 : decode cX6_excess 8 = .ok (.aload_n 0, 1) := by decide +kernel
theorem dX6_excess_9 : decode cX6_excess 9 = .ok (.getfield 51, 3) := by decide +kernel
theorem dX6_excess_12 : decode cX6_excess 12 = .ok (.aload_n 0, 1) := by decide +kernel
theorem dX6_excess_13 : decode cX6_excess 13 = .ok (.getfield 12, 3) := by decide +kernel
theorem dX6_excess_16 : decode cX6_excess 16 = .ok (.getfield 83, 3) := by decide +kernel
theorem dX6_excess_19 : decode cX6_excess 19 = .ok (.iload_n 1, 1) := by decide +kernel
theorem dX6_excess_20 : decode cX6_excess 20 = .ok (.iaload, 1) := by decide +kernel
theorem dX6_excess_21 : decode cX6_excess 21 = .ok (.iaload, 1) := by decide +kernel
theorem dX6_excess_22 : decode cX6_excess 22 = .ok (.imul, 1) := by decide +kernel
theorem dX6_excess_23 : decode cX6_excess 23 = .ok (.aload_n 0, 1) := by decide +kernel
theorem dX6_excess_24 : decode cX6_excess 24 = .ok (.getfield 12, 3) := by decide +kernel
theorem dX6_excess_27 : decode cX6_excess 27 = .ok (.getfield 80, 3) := by decide +kernel
theorem dX6_excess_30 : decode cX6_excess 30 = .ok (.iload_n 1, 1) := by decide +kernel
theorem dX6_excess_31 : decode cX6_excess 31 = .ok (.iaload, 1) := by decide +kernel
theorem dX6_excess_32 : decode cX6_excess 32 = .ok (.aload_n 0, 1) := by decide +kernel
theorem dX6_excess_33 : decode cX6_excess 33 = .ok (.getfield 51, 3) := by decide +kernel
theorem dX6_excess_36 : decode cX6_excess 36 = .ok (.aload_n 0, 1) := by decide +kernel
theorem dX6_excess_37 : decode cX6_excess 37 = .ok (.getfield 12, 3) := by decide +kernel
theorem dX6_excess_40 : decode cX6_excess 40 = .ok (.getfield 77, 3) := by decide +kernel
theorem dX6_excess_43 : decode cX6_excess 43 = .ok (.iload_n 1, 1) := by decide +kernel
theorem dX6_excess_44 : decode cX6_excess 44 = .ok (.iaload, 1) := by decide +kernel
theorem dX6_excess_45 : decode cX6_excess 45 = .ok (.iaload, 1) := by decide +kernel
theorem dX6_excess_46 : decode cX6_excess 46 = .ok (.imul, 1) := by decide +kernel
theorem dX6_excess_47 : decode cX6_excess 47 = .ok (.isub, 1) := by decide +kernel
theorem dX6_excess_48 : decode cX6_excess 48 = .ok (.ireturn, 1) := by decide +kernel
theorem dX7_init_0 : decode cX7_init 0 = .ok (.aload_n 0, 1) := by decide +kernel
theorem dX7_init_1 : decode cX7_init 1 = .ok (.invokespecial 1, 3) := by decide +kernel
theorem dX7_init_4 : decode cX7_init 4 = .ok (.aload_n 0, 1) := by decide +kernel
theorem dX7_init_5 : decode cX7_init 5 = .ok (.bipush 12, 2) := by decide +kernel
theorem dX7_init_7 : decode cX7_init 7 = .ok (.newarray .int, 2) := by decide +kernel
theorem dX7_init_9 : decode cX7_init 9 = .ok (.putfield 7, 3) := by decide +kernel
theorem dX7_init_12 : decode cX7_init 12 = .ok (.aload_n 0, 1) := by decide +kernel
theorem dX7_init_13 : decode cX7_init 13 = .ok (.bipush 12, 2) := by decide +kernel
theorem dX7_init_15 : decode cX7_init 15 = .ok (.newarray .int, 2) := by decide +kernel
theorem dX7_init_17 : decode cX7_init 17 = .ok (.putfield 13, 3) := by decide +kernel
theorem dX7_init_20 : decode cX7_init 20 = .ok (.aload_n 0, 1) := by decide +kernel
theorem dX7_init_21 : decode cX7_init 21 = .ok (.bipush 12, 2) := by decide +kernel
theorem dX7_init_23 : decode cX7_init 23 = .ok (.newarray .int, 2) := by decide +kernel
theorem dX7_init_25 : decode cX7_init 25 = .ok (.putfield 16, 3) := by decide +kernel
theorem dX7_init_28 : decode cX7_init 28 = .ok (.aload_n 0, 1) := by decide +kernel
theorem dX7_init_29 : decode cX7_init 29 = .ok (.bipush 12, 2) := by decide +kernel
theorem dX7_init_31 : decode cX7_init 31 = .ok (.newarray .int, 2) := by decide +kernel
theorem dX7_init_33 : decode cX7_init 33 = .ok (.putfield 19, 3) := by decide +kernel
theorem dX7_init_36 : decode cX7_init 36 = .ok (.aload_n 0, 1) := by decide +kernel
theorem dX7_init_37 : decode cX7_init 37 = .ok (.bipush 12, 2) := by decide +kernel
theorem dX7_init_39 : decode cX7_init 39 = .ok (.newarray .int, 2) := by decide +kernel
theorem dX7_init_41 : decode cX7_init 41 = .ok (.putfield 22, 3) := by decide +kernel
theorem dX7_init_44 : decode cX7_init 44 = .ok (.aload_n 0, 1) := by decide +kernel
theorem dX7_init_45 : decode cX7_init 45 = .ok (.bipush 12, 2) := by decide +kernel
theorem dX7_init_47 : decode cX7_init 47 = .ok (.newarray .int, 2) := by decide +kernel
theorem dX7_init_49 : decode cX7_init 49 = .ok (.putfield 25, 3) := by decide +kernel
theorem dX7_init_52 : decode cX7_init 52 = .ok (.aload_n 0, 1) := by decide +kernel
theorem dX7_init_53 : decode cX7_init 53 = .ok (.bipush 12, 2) := by decide +kernel
theorem dX7_init_55 : decode cX7_init 55 = .ok (.newarray .int, 2) := by decide +kernel
theorem dX7_init_57 : decode cX7_init 57 = .ok (.putfield 28, 3) := by decide +kernel
theorem dX7_init_60 : decode cX7_init 60 = .ok (.aload_n 0, 1) := by decide +kernel
theorem dX7_init_61 : decode cX7_init 61 = .ok (.iconst 3, 1) := by decide +kernel
theorem dX7_init_62 : decode cX7_init 62 = .ok (.newarray .int, 2) := by decide +kernel
theorem dX7_init_64 : decode cX7_init 64 = .ok (.putfield 31, 3) := by decide +kernel
theorem dX7_init_67 : decode cX7_init 67 = .ok (.aload_n 0, 1) := by decide +kernel
theorem dX7_init_68 : decode cX7_init 68 = .ok (.bipush 80, 2) := by decide +kernel
theorem dX7_init_70 : decode cX7_init 70 = .ok (.newarray .int, 2) := by decide +kernel
theorem dX7_init_72 : decode cX7_init 72 = .ok (.putfield 34, 3) := by decide +kernel
theorem dX7_init_75 : decode cX7_init 75 = .ok (.aload_n 0, 1) := by decide +kernel
theorem dX7_init_76 : decode cX7_init 76 = .ok (.bipush 8, 2) := by decide +kernel
theorem dX7_init_78 : decode cX7_init 78 = .ok (.newarray .int, 2) := by decide +kernel
theorem dX7_init_80 : decode cX7_init 80 = .ok (.putfield 37, 3) := by decide +kernel
theorem dX7_init_83 : decode cX7_init 83 = .ok (.aload_n 0, 1) := by decide +kernel
theorem dX7_init_84 : decode cX7_init 84 = .ok (.sipush 400, 3) := by decide +kernel
theorem dX7_init_87 : decode cX7_init 87 = .ok (.newarray .int, 2) := by decide +kernel
theorem dX7_init_89 : decode cX7_init 89 = .ok (.putfield 40, 3) := by decide +kernel
theorem dX7_init_92 : decode cX7_init 92 = .ok (.aload_n 0, 1) := by decide +kernel
theorem dX7_init_93 : decode cX7_init 93 = .ok (.sipush 400, 3) := by decide +kernel
theorem dX7_init_96 : decode cX7_init 96 = .ok (.newarray .int, 2) := by decide +kernel
theorem dX7_init_98 : decode cX7_init 98 = .ok (.putfield 43, 3) := by decide +kernel
theorem dX7_init_101 : decode cX7_init 101 = .ok (.aload_n 0, 1) := by decide +kernel
theorem dX7_init_102 : decode cX7_init 102 = .ok (.sipush 3200, 3) := by decide +kernel
theorem dX7_init_105 : decode cX7_init 105 = .ok (.newarray .int, 2) := by decide +kernel
theorem dX7_init_107 : decode cX7_init 107 = .ok (.putfield 46, 3) := by decide +kernel
theorem dX7_init_110 : decode cX7_init 110 = .ok (.aload_n 0, 1) := by decide +kernel
theorem dX7_init_111 : decode cX7_init 111 = .ok (.sipush 400, 3) := by decide +kernel
theorem dX7_init_114 : decode cX7_init 114 = .ok (.newarray .long, 2) := by decide +kernel
theorem dX7_init_116 : decode cX7_init 116 = .ok (.putfield 49, 3) := by decide +kernel
theorem dX7_init_119 : decode cX7_init 119 = .ok (.aload_n 0, 1) := by decide +kernel
theorem dX7_init_120 : decode cX7_init 120 = .ok (.sipush 400, 3) := by decide +kernel
theorem dX7_init_123 : decode cX7_init 123 = .ok (.newarray .long, 2) := by decide +kernel
theorem dX7_init_125 : decode cX7_init 125 = .ok (.putfield 53, 3) := by decide +kernel
theorem dX7_init_128 : decode cX7_init 128 = .ok (.aload_n 0, 1) := by decide +kernel
theorem dX7_init_129 : decode cX7_init 129 = .ok (.bipush 8, 2) := by decide +kernel
theorem dX7_init_131 : decode cX7_init 131 = .ok (.newarray .int, 2) := by decide +kernel
theorem dX7_init_133 : decode cX7_init 133 = .ok (.putfield 56, 3) := by decide +kernel
theorem dX7_init_136 : decode cX7_init 136 = .ok (.aload_n 0, 1) := by decide +kernel
theorem dX7_init_137 : decode cX7_init 137 = .ok (.bipush 9, 2) := by decide +kernel
theorem dX7_init_139 : decode cX7_init 139 = .ok (.newarray .long, 2) := by decide +kernel
theorem dX7_init_141 : decode cX7_init 141 = .ok (.putfield 59, 3) := by decide +kernel
theorem dX7_init_144 : decode cX7_init 144 = .ok (.aload_n 0, 1) := by decide +kernel
theorem dX7_init_145 : decode cX7_init 145 = .ok (.bipush 9, 2) := by decide +kernel
theorem dX7_init_147 : decode cX7_init 147 = .ok (.newarray .long, 2) := by decide +kernel
theorem dX7_init_149 : decode cX7_init 149 = .ok (.putfield 62, 3) := by decide +kernel
theorem dX7_init_152 : decode cX7_init 152 = .ok (.aload_n 0, 1) := by decide +kernel
theorem dX7_init_153 : decode cX7_init 153 = .ok (.iconst 5, 1) := by decide +kernel
theorem dX7_init_154 : decode cX7_init 154 = .ok (.newarray .int, 2) := by decide +kernel
theorem dX7_init_156 : decode cX7_init 156 = .ok (.putfield 65, 3) := by decide +kernel
theorem dX7_init_159 : decode cX7_init 159 = .ok (.aload_n 0, 1) := by decide +kernel
theorem dX7_init_160 : decode cX7_init 160 = .ok (.bipush 6, 2) := by decide +kernel
theorem dX7_init_162 : decode cX7_init 162 = .ok (.newarray .int, 2) := by decide +kernel
theorem dX7_init_164 : decode cX7_init 164 = .ok (.putfield 68, 3) := by decide +kernel
theorem dX7_init_167 : decode cX7_init 167 = .ok (.aload_n 0, 1) := by decide +kernel
theorem dX7_init_168 : decode cX7_init 168 = .ok (.bipush 6, 2) := by decide +kernel
theorem dX7_init_170 : decode cX7_init 170 = .ok (.newarray .int, 2) := by decide +kernel
theorem dX7_init_172 : decode cX7_init 172 = .ok (.putfield 71, 3) := by decide +kernel
theorem dX7_init_175 : decode cX7_init 175 = .ok (.aload_n 0, 1) := by decide +kernel
theorem dX7_init_176 : decode cX7_init 176 = .ok (.bipush 12, 2) := by decide +kernel
theorem dX7_init_178 : decode cX7_init 178 = .ok (.newarray .int, 2) := by decide +kernel
theorem dX7_init_180 : decode cX7_init 180 = .ok (.putfield 74, 3) := by decide +kernel
theorem dX7_init_183 : decode cX7_init 183 = .ok (.aload_n 0, 1) := by decide +kernel
theorem dX7_init_184 : decode cX7_init 184 = .ok (.getfield 31, 3) := by decide +kernel
theorem dX7_init_187 : decode cX7_init 187 = .ok (.iconst 2, 1) := by decide +kernel
theorem dX7_init_188 : decode cX7_init 188 = .ok (.iconst 1, 1) := by decide +kernel
theorem dX7_init_189 : decode cX7_init 189 = .ok (.iastore, 1) := by decide +kernel
theorem dX7_init_190 : decode cX7_init 190 = .ok (.iconst 0, 1) := by decide +kernel
theorem dX7_init_191 : decode cX7_init 191 = .ok (.istore_n 1, 1) := by decide +kernel
theorem dX7_init_192 : decode cX7_init 192 = .ok (.iload_n 1, 1) := by decide +kernel
theorem dX7_init_193 : decode cX7_init 193 = .ok (.bipush 8, 2) := by decide +kernel
theorem dX7_init_195 : decode cX7_init 195 = .ok (.if_icmp .ge 16, 3) := by decide +kernel
theorem dX7_init_198 : decode cX7_init 198 = .ok (.aload_n 0, 1) := by decide +kernel
theorem dX7_init_199 : decode cX7_init 199 = .ok (.getfield 37, 3) := by decide +kernel
theorem dX7_init_202 : decode cX7_init 202 = .ok (.iload_n 1, 1) := by decide +kernel
theorem dX7_init_203 : decode cX7_init 203 = .ok (.iconst 1, 1) := by decide +kernel
theorem dX7_init_204 : decode cX7_init 204 = .ok (.iastore, 1) := by decide +kernel
theorem dX7_init_205 : decode cX7_init 205 = .ok (.iinc 1 1, 3) := by decide +kernel
theorem dX7_init_208 : decode cX7_init 208 = .ok (.goto (-16), 3) := by decide +kernel
theorem dX7_init_211 : decode cX7_init 211 = .ok (.return_, 1) := by decide +kernel
theorem dX7_in_0 : decode cX7_in 0 = .ok (.iload_n 0, 1) := by decide +kernel
theorem dX7_in_1 : decode cX7_in 1 = .ok (.iload_n 1, 1) := by decide +kernel
theorem dX7_in_2 : decode cX7_in 2 = .ok (.if_icmp .lt 12, 3) := by decide +kernel
theorem dX7_in_5 : decode cX7_in 5 = .ok (.iload_n 0, 1) := by decide +kernel
theorem dX7_in_6 : decode cX7_in 6 = .ok (.iload_n 2, 1) := by decide +kernel
theorem dX7_in_7 : decode cX7_in 7 = .ok (.if_icmp .gt 7, 3) := by decide +kernel
theorem dX7_in_10 : decode cX7_in 10 = .ok (.iconst 1, 1) := by decide +kernel
theorem dX7_in_11 : decode cX7_in 11 = .ok (.goto 4, 3) := by decide +kernel
theorem dX7_in_14 : decode cX7_in 14 = .ok (.iconst 0, 1) := by decide +kernel
theorem dX7_in_15 : decode cX7_in 15 = .ok (.ireturn, 1) := by decide +kernel
theorem dX7_isCoin_0 : decode cX7_isCoin 0 = .ok (.iload_n 0, 1) := by decide +kernel
theorem dX7_isCoin_1 : decode cX7_isCoin 1 = .ok (.iconst 0, 1) := by decide +kernel
theorem dX7_isCoin_2 : decode cX7_isCoin 2 = .ok (.bipush 7, 2) := by decide +kernel
theorem dX7_isCoin_4 : decode cX7_isCoin 4 = .ok (.invokestatic 77, 3) := by decide +kernel
theorem dX7_isCoin_7 : decode cX7_isCoin 7 = .ok (.ireturn, 1) := by decide +kernel
theorem dX7_isBoard_0 : decode cX7_isBoard 0 = .ok (.iload_n 1, 1) := by decide +kernel
theorem dX7_isBoard_1 : decode cX7_isBoard 1 = .ok (.iconst 0, 1) := by decide +kernel
theorem dX7_isBoard_2 : decode cX7_isBoard 2 = .ok (.aload_n 0, 1) := by decide +kernel
theorem dX7_isBoard_3 : decode cX7_isBoard 3 = .ok (.getfield 81, 3) := by decide +kernel
theorem dX7_isBoard_6 : decode cX7_isBoard 6 = .ok (.iconst 1, 1) := by decide +kernel
theorem dX7_isBoard_7 : decode cX7_isBoard 7 = .ok (.isub, 1) := by decide +kernel
theorem dX7_isBoard_8 : decode cX7_isBoard 8 = .ok (.invokestatic 77, 3) := by decide +kernel
theorem dX7_isBoard_11 : decode cX7_isBoard 11 = .ok (.ireturn, 1) := by decide +kernel
theorem dX7_add_0 : decode cX7_add 0 = .ok (.aload_n 0, 1) := by decide +kernel
theorem dX7_add_1 : decode cX7_add 1 = .ok (.getfield 7, 3) := by decide +kernel
theorem dX7_add_4 : decode cX7_add 4 = .ok (.aload_n 0, 1) := by decide +kernel
theorem dX7_add_5 : decode cX7_add 5 = .ok (.getfield 81, 3) := by decide +kernel
theorem dX7_add_8 : decode cX7_add 8 = .ok (.iload_n 1, 1) := by decide +kernel
theorem dX7_add_9 : decode cX7_add 9 = .ok (.iastore, 1) := by decide +kernel
theorem dX7_add_10 : decode cX7_add 10 = .ok (.aload_n 0, 1) := by decide +kernel
theorem dX7_add_11 : decode cX7_add 11 = .ok (.getfield 13, 3) := by decide +kernel
theorem dX7_add_14 : decode cX7_add 14 = .ok (.aload_n 0, 1) := by decide +kernel
theorem dX7_add_15 : decode cX7_add 15 = .ok (.getfield 81, 3) := by decide +kernel
theorem dX7_add_18 : decode cX7_add 18 = .ok (.iload_n 2, 1) := by decide +kernel
theorem dX7_add_19 : decode cX7_add 19 = .ok (.iastore, 1) := by decide +kernel
theorem dX7_add_20 : decode cX7_add 20 = .ok (.aload_n 0, 1) := by decide +kernel
theorem dX7_add_21 : decode cX7_add 21 = .ok (.getfield 16, 3) := by decide +kernel
theorem dX7_add_24 : decode cX7_add 24 = .ok (.aload_n 0, 1) := by decide +kernel
theorem dX7_add_25 : decode cX7_add 25 = .ok (.getfield 81, 3) := by decide +kernel
theorem dX7_add_28 : decode cX7_add 28 = .ok (.iload_n 3, 1) := by decide +kernel
theorem dX7_add_29 : decode cX7_add 29 = .ok (.iastore, 1) := by decide +kernel
theorem dX7_add_30 : decode cX7_add 30 = .ok (.aload_n 0, 1) := by decide +kernel
theorem dX7_add_31 : decode cX7_add 31 = .ok (.getfield 19, 3) := by decide +kernel
theorem dX7_add_34 : decode cX7_add 34 = .ok (.aload_n 0, 1) := by decide +kernel
theorem dX7_add_35 : decode cX7_add 35 = .ok (.getfield 81, 3) := by decide +kernel
theorem dX7_add_38 : decode cX7_add 38 = .ok (.iload 4, 2) := by decide +kernel
theorem dX7_add_40 : decode cX7_add 40 = .ok (.iastore, 1) := by decide +kernel
theorem dX7_add_41 : decode cX7_add 41 = .ok (.aload_n 0, 1) := by decide +kernel
theorem dX7_add_42 : decode cX7_add 42 = .ok (.getfield 22, 3) := by decide +kernel
theorem dX7_add_45 : decode cX7_add 45 = .ok (.aload_n 0, 1) := by decide +kernel
theorem dX7_add_46 : decode cX7_add 46 = .ok (.getfield 81, 3) := by decide +kernel
theorem dX7_add_49 : decode cX7_add 49 = .ok (.iconst 0, 1) := by decide +kernel
theorem dX7_add_50 : decode cX7_add 50 = .ok (.iastore, 1) := by decide +kernel
theorem dX7_add_51 : decode cX7_add 51 = .ok (.aload_n 0, 1) := by decide +kernel
theorem dX7_add_52 : decode cX7_add 52 = .ok (.getfield 25, 3) := by decide +kernel
theorem dX7_add_55 : decode cX7_add 55 = .ok (.aload_n 0, 1) := by decide +kernel
theorem dX7_add_56 : decode cX7_add 56 = .ok (.getfield 81, 3) := by decide +kernel
theorem dX7_add_59 : decode cX7_add 59 = .ok (.bipush 99, 2) := by decide +kernel
theorem dX7_add_61 : decode cX7_add 61 = .ok (.iastore, 1) := by decide +kernel
theorem dX7_add_62 : decode cX7_add 62 = .ok (.aload_n 0, 1) := by decide +kernel
theorem dX7_add_63 : decode cX7_add 63 = .ok (.getfield 28, 3) := by decide +kernel
theorem dX7_add_66 : decode cX7_add 66 = .ok (.aload_n 0, 1) := by decide +kernel
theorem dX7_add_67 : decode cX7_add 67 = .ok (.getfield 81, 3) := by decide +kernel
theorem dX7_add_70 : decode cX7_add 70 = .ok (.ldc 85, 2) := by decide +kernel
theorem dX7_add_72 : decode cX7_add 72 = .ok (.iastore, 1) := by decide +kernel
theorem dX7_add_73 : decode cX7_add 73 = .ok (.aload_n 0, 1) := by decide +kernel
theorem dX7_add_74 : decode cX7_add 74 = .ok (.dup, 1) := by decide +kernel
theorem dX7_add_75 : decode cX7_add 75 = .ok (.getfield 81, 3) := by decide +kernel
theorem dX7_add_78 : decode cX7_add 78 = .ok (.iconst 1, 1) := by decide +kernel
theorem dX7_add_79 : decode cX7_add 79 = .ok (.iadd, 1) := by decide +kernel
theorem dX7_add_80 : decode cX7_add 80 = .ok (.putfield 81, 3) := by decide +kernel
theorem dX7_add_83 : decode cX7_add 83 = .ok (.aload_n 0, 1) := by decide +kernel
theorem dX7_add_84 : decode cX7_add 84 = .ok (.getfield 81, 3) := by decide +kernel
theorem dX7_add_87 : decode cX7_add 87 = .ok (.iconst 1, 1) := by decide +kernel
theorem dX7_add_88 : decode cX7_add 88 = .ok (.isub, 1) := by decide +kernel
theorem dX7_add_89 : decode cX7_add 89 = .ok (.ireturn, 1) := by decide +kernel
theorem dX7_board_0 : decode cX7_board 0 = .ok (.iload_n 1, 1) := by decide +kernel
theorem dX7_board_1 : decode cX7_board 1 = .ok (.invokestatic 86, 3) := by decide +kernel
theorem dX7_board_4 : decode cX7_board 4 = .ok (.ifCond .eq 15, 3) := by decide +kernel
theorem dX7_board_7 : decode cX7_board 7 = .ok (.iload_n 3, 1) := by decide +kernel
theorem dX7_board_8 : decode cX7_board 8 = .ok (.invokestatic 86, 3) := by decide +kernel
theorem dX7_board_11 : decode cX7_board 11 = .ok (.ifCond .eq 8, 3) := by decide +kernel
theorem dX7_board_14 : decode cX7_board 14 = .ok (.iload_n 1, 1) := by decide +kernel
theorem dX7_board_15 : decode cX7_board 15 = .ok (.iload_n 3, 1) := by decide +kernel
theorem dX7_board_16 : decode cX7_board 16 = .ok (.if_icmp .ne 5, 3) := by decide +kernel
theorem dX7_board_19 : decode cX7_board 19 = .ok (.iconst (-1), 1) := by decide +kernel
theorem dX7_board_20 : decode cX7_board 20 = .ok (.ireturn, 1) := by decide +kernel
theorem dX7_board_21 : decode cX7_board 21 = .ok (.iload_n 2, 1) := by decide +kernel
theorem dX7_board_22 : decode cX7_board 22 = .ok (.iconst 1, 1) := by decide +kernel
theorem dX7_board_23 : decode cX7_board 23 = .ok (.bipush 99, 2) := by decide +kernel
theorem dX7_board_25 : decode cX7_board 25 = .ok (.invokestatic 77, 3) := by decide +kernel
theorem dX7_board_28 : decode cX7_board 28 = .ok (.ifCond .eq 14, 3) := by decide +kernel
theorem dX7_board_31 : decode cX7_board 31 = .ok (.iload 4, 2) := by decide +kernel
theorem dX7_board_33 : decode cX7_board 33 = .ok (.iconst 1, 1) := by decide +kernel
theorem dX7_board_34 : decode cX7_board 34 = .ok (.bipush 99, 2) := by decide +kernel
theorem dX7_board_36 : decode cX7_board 36 = .ok (.invokestatic 77, 3) := by decide +kernel
theorem dX7_board_39 : decode cX7_board 39 = .ok (.ifCond .ne 6, 3) := by decide +kernel
theorem dX7_board_42 : decode cX7_board 42 = .ok (.bipush (-2), 2) := by decide +kernel
theorem dX7_board_44 : decode cX7_board 44 = .ok (.ireturn, 1) := by decide +kernel
theorem dX7_board_45 : decode cX7_board 45 = .ok (.aload_n 0, 1) := by decide +kernel
theorem dX7_board_46 : decode cX7_board 46 = .ok (.getfield 81, 3) := by decide +kernel
theorem dX7_board_49 : decode cX7_board 49 = .ok (.bipush 12, 2) := by decide +kernel
theorem dX7_board_51 : decode cX7_board 51 = .ok (.if_icmp .ne 8, 3) := by decide +kernel
theorem dX7_board_54 : decode cX7_board 54 = .ok (.bipush (-4), 2) := by decide +kernel
theorem dX7_board_56 : decode cX7_board 56 = .ok (.goto 12, 3) := by decide +kernel
theorem dX7_board_59 : decode cX7_board 59 = .ok (.aload_n 0, 1) := by decide +kernel
theorem dX7_board_60 : decode cX7_board 60 = .ok (.iload_n 1, 1) := by decide +kernel
theorem dX7_board_61 : decode cX7_board 61 = .ok (.iload_n 2, 1) := by decide +kernel
theorem dX7_board_62 : decode cX7_board 62 = .ok (.iload_n 3, 1) := by decide +kernel
theorem dX7_board_63 : decode cX7_board 63 = .ok (.iload 4, 2) := by decide +kernel
theorem dX7_board_65 : decode cX7_board 65 = .ok (.invokevirtual 90, 3) := by decide +kernel
theorem dX7_board_68 : decode cX7_board 68 = .ok (.ireturn, 1) := by decide +kernel
theorem dX7_isOpen_0 : decode cX7_isOpen 0 = .ok (.aload_n 0, 1) := by decide +kernel
theorem dX7_isOpen_1 : decode cX7_isOpen 1 = .ok (.getfield 31, 3) := by decide +kernel
theorem dX7_isOpen_4 : decode cX7_isOpen 4 = .ok (.iconst 1, 1) := by decide +kernel
theorem dX7_isOpen_5 : decode cX7_isOpen 5 = .ok (.iaload, 1) := by decide +kernel
theorem dX7_isOpen_6 : decode cX7_isOpen 6 = .ok (.aload_n 0, 1) := by decide +kernel
theorem dX7_isOpen_7 : decode cX7_isOpen 7 = .ok (.getfield 22, 3) := by decide +kernel
theorem dX7_isOpen_10 : decode cX7_isOpen 10 = .ok (.iload_n 1, 1) := by decide +kernel
theorem dX7_isOpen_11 : decode cX7_isOpen 11 = .ok (.iaload, 1) := by decide +kernel
theorem dX7_isOpen_12 : decode cX7_isOpen 12 = .ok (.aload_n 0, 1) := by decide +kernel
theorem dX7_isOpen_13 : decode cX7_isOpen 13 = .ok (.getfield 25, 3) := by decide +kernel
theorem dX7_isOpen_16 : decode cX7_isOpen 16 = .ok (.iload_n 1, 1) := by decide +kernel
theorem dX7_isOpen_17 : decode cX7_isOpen 17 = .ok (.iaload, 1) := by decide +kernel
theorem dX7_isOpen_18 : decode cX7_isOpen 18 = .ok (.invokestatic 77, 3) := by decide +kernel
theorem dX7_isOpen_21 : decode cX7_isOpen 21 = .ok (.ireturn, 1) := by decide +kernel
theorem dX7_upper_0 : decode cX7_upper 0 = .ok (.aload_n 0, 1) := by decide +kernel
theorem dX7_upper_1 : decode cX7_upper 1 = .ok (.getfield 19, 3) := by decide +kernel
theorem dX7_upper_4 : decode cX7_upper 4 = .ok (.iload_n 1, 1) := by decide +kernel
theorem dX7_upper_5 : decode cX7_upper 5 = .ok (.iaload, 1) := by decide +kernel
theorem dX7_upper_6 : decode cX7_upper 6 = .ok (.aload_n 0, 1) := by decide +kernel
theorem dX7_upper_7 : decode cX7_upper 7 = .ok (.getfield 31, 3) := by decide +kernel
theorem dX7_upper_10 : decode cX7_upper 10 = .ok (.iconst 0, 1) := by decide +kernel
theorem dX7_upper_11 : decode cX7_upper 11 = .ok (.iaload, 1) := by decide +kernel
theorem dX7_upper_12 : decode cX7_upper 12 = .ok (.isub, 1) := by decide +kernel
theorem dX7_upper_13 : decode cX7_upper 13 = .ok (.iconst 1, 1) := by decide +kernel
theorem dX7_upper_14 : decode cX7_upper 14 = .ok (.if_icmp .ge 7, 3) := by decide +kernel
theorem dX7_upper_17 : decode cX7_upper 17 = .ok (.iconst 1, 1) := by decide +kernel
theorem dX7_upper_18 : decode cX7_upper 18 = .ok (.goto 16, 3) := by decide +kernel
theorem dX7_upper_21 : decode cX7_upper 21 = .ok (.aload_n 0, 1) := by decide +kernel
theorem dX7_upper_22 : decode cX7_upper 22 = .ok (.getfield 19, 3) := by decide +kernel
theorem dX7_upper_25 : decode cX7_upper 25 = .ok (.iload_n 1, 1) := by decide +kernel
theorem dX7_upper_26 : decode cX7_upper 26 = .ok (.iaload, 1) := by decide +kernel
theorem dX7_upper_27 : decode cX7_upper 27 = .ok (.aload_n 0, 1) := by decide +kernel
theorem dX7_upper_28 : decode cX7_upper 28 = .ok (.getfield 31, 3) := by decide +kernel
theorem dX7_upper_31 : decode cX7_upper 31 = .ok (.iconst 0, 1) := by decide +kernel
theorem dX7_upper_32 : decode cX7_upper 32 = .ok (.iaload, 1) := by decide +kernel
theorem dX7_upper_33 : decode cX7_upper 33 = .ok (.isub, 1) := by decide +kernel
theorem dX7_upper_34 : decode cX7_upper 34 = .ok (.ireturn, 1) := by decide +kernel
theorem dX7_of_0 : decode cX7_of 0 = .ok (.aload_n 0, 1) := by decide +kernel
theorem dX7_of_1 : decode cX7_of 1 = .ok (.iload_n 1, 1) := by decide +kernel
theorem dX7_of_2 : decode cX7_of 2 = .ok (.invokevirtual 94, 3) := by decide +kernel
theorem dX7_of_5 : decode cX7_of 5 = .ok (.ifCond .ne 5, 3) := by decide +kernel
theorem dX7_of_8 : decode cX7_of 8 = .ok (.iconst (-1), 1) := by decide +kernel
theorem dX7_of_9 : decode cX7_of 9 = .ok (.ireturn, 1) := by decide +kernel
theorem dX7_of_10 : decode cX7_of 10 = .ok (.iload_n 2, 1) := by decide +kernel
theorem dX7_of_11 : decode cX7_of 11 = .ok (.tableswitch 118 0 8 #[49, 56, 63, 70, 77, 84, 91, 98, 112], 49) := by decide +kernel
theorem dX7_of_60 : decode cX7_of 60 = .ok (.aload_n 0, 1) := by decide +kernel
theorem dX7_of_61 : decode cX7_of 61 = .ok (.getfield 7, 3) := by decide +kernel
theorem dX7_of_64 : decode cX7_of 64 = .ok (.iload_n 1, 1) := by decide +kernel
theorem dX7_of_65 : decode cX7_of 65 = .ok (.iaload, 1) := by decide +kernel
theorem dX7_of_66 : decode cX7_of 66 = .ok (.ireturn, 1) := by decide +kernel
theorem dX7_of_67 : decode cX7_of 67 = .ok (.aload_n 0, 1) := by decide +kernel
theorem dX7_of_68 : decode cX7_of 68 = .ok (.getfield 13, 3) := by decide +kernel
theorem dX7_of_71 : decode cX7_of 71 = .ok (.iload_n 1, 1) := by decide +kernel
theorem dX7_of_72 : decode cX7_of 72 = .ok (.iaload, 1) := by decide +kernel
theorem dX7_of_73 : decode cX7_of 73 = .ok (.ireturn, 1) := by decide +kernel
theorem dX7_of_74 : decode cX7_of 74 = .ok (.aload_n 0, 1) := by decide +kernel
theorem dX7_of_75 : decode cX7_of 75 = .ok (.getfield 16, 3) := by decide +kernel
theorem dX7_of_78 : decode cX7_of 78 = .ok (.iload_n 1, 1) := by decide +kernel
theorem dX7_of_79 : decode cX7_of 79 = .ok (.iaload, 1) := by decide +kernel
theorem dX7_of_80 : decode cX7_of 80 = .ok (.ireturn, 1) := by decide +kernel
theorem dX7_of_81 : decode cX7_of 81 = .ok (.aload_n 0, 1) := by decide +kernel
theorem dX7_of_82 : decode cX7_of 82 = .ok (.getfield 19, 3) := by decide +kernel
theorem dX7_of_85 : decode cX7_of 85 = .ok (.iload_n 1, 1) := by decide +kernel
theorem dX7_of_86 : decode cX7_of 86 = .ok (.iaload, 1) := by decide +kernel
theorem dX7_of_87 : decode cX7_of 87 = .ok (.ireturn, 1) := by decide +kernel
theorem dX7_of_88 : decode cX7_of 88 = .ok (.aload_n 0, 1) := by decide +kernel
theorem dX7_of_89 : decode cX7_of 89 = .ok (.getfield 22, 3) := by decide +kernel
theorem dX7_of_92 : decode cX7_of 92 = .ok (.iload_n 1, 1) := by decide +kernel
theorem dX7_of_93 : decode cX7_of 93 = .ok (.iaload, 1) := by decide +kernel
theorem dX7_of_94 : decode cX7_of 94 = .ok (.ireturn, 1) := by decide +kernel
theorem dX7_of_95 : decode cX7_of 95 = .ok (.aload_n 0, 1) := by decide +kernel
theorem dX7_of_96 : decode cX7_of 96 = .ok (.getfield 25, 3) := by decide +kernel
theorem dX7_of_99 : decode cX7_of 99 = .ok (.iload_n 1, 1) := by decide +kernel
theorem dX7_of_100 : decode cX7_of 100 = .ok (.iaload, 1) := by decide +kernel
theorem dX7_of_101 : decode cX7_of 101 = .ok (.ireturn, 1) := by decide +kernel
theorem dX7_of_102 : decode cX7_of 102 = .ok (.aload_n 0, 1) := by decide +kernel
theorem dX7_of_103 : decode cX7_of 103 = .ok (.getfield 28, 3) := by decide +kernel
theorem dX7_of_106 : decode cX7_of 106 = .ok (.iload_n 1, 1) := by decide +kernel
theorem dX7_of_107 : decode cX7_of 107 = .ok (.iaload, 1) := by decide +kernel
theorem dX7_of_108 : decode cX7_of 108 = .ok (.ireturn, 1) := by decide +kernel
theorem dX7_of_109 : decode cX7_of 109 = .ok (.aload_n 0, 1) := by decide +kernel
theorem dX7_of_110 : decode cX7_of 110 = .ok (.iload_n 1, 1) := by decide +kernel
theorem dX7_of_111 : decode cX7_of 111 = .ok (.invokevirtual 97, 3) := by decide +kernel
theorem dX7_of_114 : decode cX7_of 114 = .ok (.ifCond .eq 7, 3) := by decide +kernel
theorem dX7_of_117 : decode cX7_of 117 = .ok (.iconst 1, 1) := by decide +kernel
theorem dX7_of_118 : decode cX7_of 118 = .ok (.goto 4, 3) := by decide +kernel
theorem dX7_of_121 : decode cX7_of 121 = .ok (.iconst 0, 1) := by decide +kernel
theorem dX7_of_122 : decode cX7_of 122 = .ok (.ireturn, 1) := by decide +kernel
theorem dX7_of_123 : decode cX7_of 123 = .ok (.aload_n 0, 1) := by decide +kernel
theorem dX7_of_124 : decode cX7_of 124 = .ok (.iload_n 1, 1) := by decide +kernel
theorem dX7_of_125 : decode cX7_of 125 = .ok (.invokevirtual 100, 3) := by decide +kernel
theorem dX7_of_128 : decode cX7_of 128 = .ok (.ireturn, 1) := by decide +kernel
theorem dX7_of_129 : decode cX7_of 129 = .ok (.bipush (-2), 2) := by decide +kernel
theorem dX7_of_131 : decode cX7_of 131 = .ok (.ireturn, 1) := by decide +kernel
theorem dX7_change_0 : decode cX7_change 0 = .ok (.aload_n 0, 1) := by decide +kernel
theorem dX7_change_1 : decode cX7_change 1 = .ok (.iload_n 1, 1) := by decide +kernel
theorem dX7_change_2 : decode cX7_change 2 = .ok (.invokevirtual 94, 3) := by decide +kernel
theorem dX7_change_5 : decode cX7_change 5 = .ok (.ifCond .ne 5, 3) := by decide +kernel
theorem dX7_change_8 : decode cX7_change 8 = .ok (.iconst (-1), 1) := by decide +kernel
theorem dX7_change_9 : decode cX7_change 9 = .ok (.ireturn, 1) := by decide +kernel
theorem dX7_change_10 : decode cX7_change 10 = .ok (.iload_n 2, 1) := by decide +kernel
theorem dX7_change_11 : decode cX7_change 11 = .ok (.iconst 0, 1) := by decide +kernel
theorem dX7_change_12 : decode cX7_change 12 = .ok (.iconst 1, 1) := by decide +kernel
theorem dX7_change_13 : decode cX7_change 13 = .ok (.invokestatic 77, 3) := by decide +kernel
theorem dX7_change_16 : decode cX7_change 16 = .ok (.ifCond .eq 22, 3) := by decide +kernel
theorem dX7_change_19 : decode cX7_change 19 = .ok (.iload_n 3, 1) := by decide +kernel
theorem dX7_change_20 : decode cX7_change 20 = .ok (.iconst 1, 1) := by decide +kernel
theorem dX7_change_21 : decode cX7_change 21 = .ok (.iload_n 2, 1) := by decide +kernel
theorem dX7_change_22 : decode cX7_change 22 = .ok (.ifCond .ne 8, 3) := by decide +kernel
theorem dX7_change_25 : decode cX7_change 25 = .ok (.bipush 99, 2) := by decide +kernel
theorem dX7_change_27 : decode cX7_change 27 = .ok (.goto 5, 3) := by decide +kernel
theorem dX7_change_30 : decode cX7_change 30 = .ok (.ldc 85, 2) := by decide +kernel
theorem dX7_change_32 : decode cX7_change 32 = .ok (.invokestatic 77, 3) := by decide +kernel
theorem dX7_change_35 : decode cX7_change 35 = .ok (.ifCond .ne 6, 3) := by decide +kernel
theorem dX7_change_38 : decode cX7_change 38 = .ok (.bipush (-2), 2) := by decide +kernel
theorem dX7_change_40 : decode cX7_change 40 = .ok (.ireturn, 1) := by decide +kernel
theorem dX7_change_41 : decode cX7_change 41 = .ok (.iload_n 2, 1) := by decide +kernel
theorem dX7_change_42 : decode cX7_change 42 = .ok (.ifCond .ne 12, 3) := by decide +kernel
theorem dX7_change_45 : decode cX7_change 45 = .ok (.aload_n 0, 1) := by decide +kernel
theorem dX7_change_46 : decode cX7_change 46 = .ok (.getfield 19, 3) := by decide +kernel
theorem dX7_change_49 : decode cX7_change 49 = .ok (.iload_n 1, 1) := by decide +kernel
theorem dX7_change_50 : decode cX7_change 50 = .ok (.iaload, 1) := by decide +kernel
theorem dX7_change_51 : decode cX7_change 51 = .ok (.goto 9, 3) := by decide +kernel
theorem dX7_change_54 : decode cX7_change 54 = .ok (.aload_n 0, 1) := by decide +kernel
theorem dX7_change_55 : decode cX7_change 55 = .ok (.getfield 28, 3) := by decide +kernel
theorem dX7_change_58 : decode cX7_change 58 = .ok (.iload_n 1, 1) := by decide +kernel
theorem dX7_change_59 : decode cX7_change 59 = .ok (.iaload, 1) := by decide +kernel
theorem dX7_change_60 : decode cX7_change 60 = .ok (.istore 4, 2) := by decide +kernel
theorem dX7_change_62 : decode cX7_change 62 = .ok (.iload_n 2, 1) := by decide +kernel
theorem dX7_change_63 : decode cX7_change 63 = .ok (.ifCond .ne 13, 3) := by decide +kernel
theorem dX7_change_66 : decode cX7_change 66 = .ok (.aload_n 0, 1) := by decide +kernel
theorem dX7_change_67 : decode cX7_change 67 = .ok (.getfield 19, 3) := by decide +kernel
theorem dX7_change_70 : decode cX7_change 70 = .ok (.iload_n 1, 1) := by decide +kernel
theorem dX7_change_71 : decode cX7_change 71 = .ok (.iload_n 3, 1) := by decide +kernel
theorem dX7_change_72 : decode cX7_change 72 = .ok (.iastore, 1) := by decide +kernel
theorem dX7_change_73 : decode cX7_change 73 = .ok (.goto 10, 3) := by decide +kernel
theorem dX7_change_76 : decode cX7_change 76 = .ok (.aload_n 0, 1) := by decide +kernel
theorem dX7_change_77 : decode cX7_change 77 = .ok (.getfield 28, 3) := by decide +kernel
theorem dX7_change_80 : decode cX7_change 80 = .ok (.iload_n 1, 1) := by decide +kernel
theorem dX7_change_81 : decode cX7_change 81 = .ok (.iload_n 3, 1) := by decide +kernel
theorem dX7_change_82 : decode cX7_change 82 = .ok (.iastore, 1) := by decide +kernel
theorem dX7_change_83 : decode cX7_change 83 = .ok (.iload 4, 2) := by decide +kernel
theorem dX7_change_85 : decode cX7_change 85 = .ok (.ireturn, 1) := by decide +kernel
theorem dX7_isHour_0 : decode cX7_isHour 0 = .ok (.iload_n 0, 1) := by decide +kernel
theorem dX7_isHour_1 : decode cX7_isHour 1 = .ok (.iconst 0, 1) := by decide +kernel
theorem dX7_isHour_2 : decode cX7_isHour 2 = .ok (.bipush 99, 2) := by decide +kernel
theorem dX7_isHour_4 : decode cX7_isHour 4 = .ok (.invokestatic 77, 3) := by decide +kernel
theorem dX7_isHour_7 : decode cX7_isHour 7 = .ok (.ireturn, 1) := by decide +kernel
theorem dX7_hours_0 : decode cX7_hours 0 = .ok (.aload_n 0, 1) := by decide +kernel
theorem dX7_hours_1 : decode cX7_hours 1 = .ok (.iload_n 1, 1) := by decide +kernel
theorem dX7_hours_2 : decode cX7_hours 2 = .ok (.invokevirtual 94, 3) := by decide +kernel
theorem dX7_hours_5 : decode cX7_hours 5 = .ok (.ifCond .ne 5, 3) := by decide +kernel
theorem dX7_hours_8 : decode cX7_hours 8 = .ok (.iconst (-1), 1) := by decide +kernel
theorem dX7_hours_9 : decode cX7_hours 9 = .ok (.ireturn, 1) := by decide +kernel
theorem dX7_hours_10 : decode cX7_hours 10 = .ok (.iload_n 2, 1) := by decide +kernel
theorem dX7_hours_11 : decode cX7_hours 11 = .ok (.invokestatic 104, 3) := by decide +kernel
theorem dX7_hours_14 : decode cX7_hours 14 = .ok (.ifCond .eq 15, 3) := by decide +kernel
theorem dX7_hours_17 : decode cX7_hours 17 = .ok (.iload_n 3, 1) := by decide +kernel
theorem dX7_hours_18 : decode cX7_hours 18 = .ok (.invokestatic 104, 3) := by decide +kernel
theorem dX7_hours_21 : decode cX7_hours 21 = .ok (.ifCond .eq 8, 3) := by decide +kernel
theorem dX7_hours_24 : decode cX7_hours 24 = .ok (.iload_n 2, 1) := by decide +kernel
theorem dX7_hours_25 : decode cX7_hours 25 = .ok (.iload_n 3, 1) := by decide +kernel
theorem dX7_hours_26 : decode cX7_hours 26 = .ok (.if_icmp .le 6, 3) := by decide +kernel
theorem dX7_hours_29 : decode cX7_hours 29 = .ok (.bipush (-2), 2) := by decide +kernel
theorem dX7_hours_31 : decode cX7_hours 31 = .ok (.ireturn, 1) := by decide +kernel
theorem dX7_hours_32 : decode cX7_hours 32 = .ok (.aload_n 0, 1) := by decide +kernel
theorem dX7_hours_33 : decode cX7_hours 33 = .ok (.getfield 22, 3) := by decide +kernel
theorem dX7_hours_36 : decode cX7_hours 36 = .ok (.iload_n 1, 1) := by decide +kernel
theorem dX7_hours_37 : decode cX7_hours 37 = .ok (.iload_n 2, 1) := by decide +kernel
theorem dX7_hours_38 : decode cX7_hours 38 = .ok (.iastore, 1) := by decide +kernel
theorem dX7_hours_39 : decode cX7_hours 39 = .ok (.aload_n 0, 1) := by decide +kernel
theorem dX7_hours_40 : decode cX7_hours 40 = .ok (.getfield 25, 3) := by decide +kernel
theorem dX7_hours_43 : decode cX7_hours 43 = .ok (.iload_n 1, 1) := by decide +kernel
theorem dX7_hours_44 : decode cX7_hours 44 = .ok (.iload_n 3, 1) := by decide +kernel
theorem dX7_hours_45 : decode cX7_hours 45 = .ok (.iastore, 1) := by decide +kernel
theorem dX7_hours_46 : decode cX7_hours 46 = .ok (.iconst 1, 1) := by decide +kernel
theorem dX7_hours_47 : decode cX7_hours 47 = .ok (.ireturn, 1) := by decide +kernel
theorem dX7_set_0 : decode cX7_set 0 = .ok (.iload_n 1, 1) := by decide +kernel
theorem dX7_set_1 : decode cX7_set 1 = .ok (.iconst 0, 1) := by decide +kernel
theorem dX7_set_2 : decode cX7_set 2 = .ok (.iconst 2, 1) := by decide +kernel
theorem dX7_set_3 : decode cX7_set 3 = .ok (.invokestatic 77, 3) := by decide +kernel
theorem dX7_set_6 : decode cX7_set 6 = .ok (.ifCond .ne 6, 3) := by decide +kernel
theorem dX7_set_9 : decode cX7_set 9 = .ok (.bipush (-2), 2) := by decide +kernel
theorem dX7_set_11 : decode cX7_set 11 = .ok (.ireturn, 1) := by decide +kernel
theorem dX7_set_12 : decode cX7_set 12 = .ok (.iload_n 2, 1) := by decide +kernel
theorem dX7_set_13 : decode cX7_set 13 = .ok (.iload_n 1, 1) := by decide +kernel
theorem dX7_set_14 : decode cX7_set 14 = .ok (.iconst 2, 1) := by decide +kernel
theorem dX7_set_15 : decode cX7_set 15 = .ok (.if_icmp .ne 7, 3) := by decide +kernel
theorem dX7_set_18 : decode cX7_set 18 = .ok (.iconst 1, 1) := by decide +kernel
theorem dX7_set_19 : decode cX7_set 19 = .ok (.goto 4, 3) := by decide +kernel
theorem dX7_set_22 : decode cX7_set 22 = .ok (.iconst 0, 1) := by decide +kernel
theorem dX7_set_23 : decode cX7_set 23 = .ok (.iload_n 1, 1) := by decide +kernel
theorem dX7_set_24 : decode cX7_set 24 = .ok (.iconst 1, 1) := by decide +kernel
theorem dX7_set_25 : decode cX7_set 25 = .ok (.if_icmp .ne 8, 3) := by decide +kernel
theorem dX7_set_28 : decode cX7_set 28 = .ok (.bipush 99, 2) := by decide +kernel
theorem dX7_set_30 : decode cX7_set 30 = .ok (.goto 5, 3) := by decide +kernel
theorem dX7_set_33 : decode cX7_set 33 = .ok (.bipush 98, 2) := by decide +kernel
theorem dX7_set_35 : decode cX7_set 35 = .ok (.invokestatic 77, 3) := by decide +kernel
theorem dX7_set_38 : decode cX7_set 38 = .ok (.ifCond .ne 6, 3) := by decide +kernel
theorem dX7_set_41 : decode cX7_set 41 = .ok (.bipush (-2), 2) := by decide +kernel
theorem dX7_set_43 : decode cX7_set 43 = .ok (.ireturn, 1) := by decide +kernel
theorem dX7_set_44 : decode cX7_set 44 = .ok (.aload_n 0, 1) := by decide +kernel
theorem dX7_set_45 : decode cX7_set 45 = .ok (.getfield 31, 3) := by decide +kernel
theorem dX7_set_48 : decode cX7_set 48 = .ok (.iload_n 1, 1) := by decide +kernel
theorem dX7_set_49 : decode cX7_set 49 = .ok (.iaload, 1) := by decide +kernel
theorem dX7_set_50 : decode cX7_set 50 = .ok (.istore_n 3, 1) := by decide +kernel
theorem dX7_set_51 : decode cX7_set 51 = .ok (.aload_n 0, 1) := by decide +kernel
theorem dX7_set_52 : decode cX7_set 52 = .ok (.getfield 31, 3) := by decide +kernel
theorem dX7_set_55 : decode cX7_set 55 = .ok (.iload_n 1, 1) := by decide +kernel
theorem dX7_set_56 : decode cX7_set 56 = .ok (.iload_n 2, 1) := by decide +kernel
theorem dX7_set_57 : decode cX7_set 57 = .ok (.iastore, 1) := by decide +kernel
theorem dX7_set_58 : decode cX7_set 58 = .ok (.iload_n 3, 1) := by decide +kernel
theorem dX7_set_59 : decode cX7_set 59 = .ok (.ireturn, 1) := by decide +kernel
theorem dX7_say_0 : decode cX7_say 0 = .ok (.iload_n 1, 1) := by decide +kernel
theorem dX7_say_1 : decode cX7_say 1 = .ok (.bipush 33, 2) := by decide +kernel
theorem dX7_say_3 : decode cX7_say 3 = .ok (.bipush 126, 2) := by decide +kernel
theorem dX7_say_5 : decode cX7_say 5 = .ok (.invokestatic 77, 3) := by decide +kernel
theorem dX7_say_8 : decode cX7_say 8 = .ok (.ifCond .ne 6, 3) := by decide +kernel
theorem dX7_say_11 : decode cX7_say 11 = .ok (.bipush (-2), 2) := by decide +kernel
theorem dX7_say_13 : decode cX7_say 13 = .ok (.ireturn, 1) := by decide +kernel
theorem dX7_say_14 : decode cX7_say 14 = .ok (.aload_n 0, 1) := by decide +kernel
theorem dX7_say_15 : decode cX7_say 15 = .ok (.getfield 107, 3) := by decide +kernel
theorem dX7_say_18 : decode cX7_say 18 = .ok (.bipush 80, 2) := by decide +kernel
theorem dX7_say_20 : decode cX7_say 20 = .ok (.if_icmp .ne 6, 3) := by decide +kernel
theorem dX7_say_23 : decode cX7_say 23 = .ok (.bipush (-4), 2) := by decide +kernel
theorem dX7_say_25 : decode cX7_say 25 = .ok (.ireturn, 1) := by decide +kernel
theorem dX7_say_26 : decode cX7_say 26 = .ok (.aload_n 0, 1) := by decide +kernel
theorem dX7_say_27 : decode cX7_say 27 = .ok (.getfield 34, 3) := by decide +kernel
theorem dX7_say_30 : decode cX7_say 30 = .ok (.aload_n 0, 1) := by decide +kernel
theorem dX7_say_31 : decode cX7_say 31 = .ok (.getfield 107, 3) := by decide +kernel
theorem dX7_say_34 : decode cX7_say 34 = .ok (.iload_n 1, 1) := by decide +kernel
theorem dX7_say_35 : decode cX7_say 35 = .ok (.iastore, 1) := by decide +kernel
theorem dX7_say_36 : decode cX7_say 36 = .ok (.aload_n 0, 1) := by decide +kernel
theorem dX7_say_37 : decode cX7_say 37 = .ok (.dup, 1) := by decide +kernel
theorem dX7_say_38 : decode cX7_say 38 = .ok (.getfield 107, 3) := by decide +kernel
theorem dX7_say_41 : decode cX7_say 41 = .ok (.iconst 1, 1) := by decide +kernel
theorem dX7_say_42 : decode cX7_say 42 = .ok (.iadd, 1) := by decide +kernel
theorem dX7_say_43 : decode cX7_say 43 = .ok (.putfield 107, 3) := by decide +kernel
theorem dX7_say_46 : decode cX7_say 46 = .ok (.aload_n 0, 1) := by decide +kernel
theorem dX7_say_47 : decode cX7_say 47 = .ok (.getfield 107, 3) := by decide +kernel
theorem dX7_say_50 : decode cX7_say 50 = .ok (.ireturn, 1) := by decide +kernel
theorem dX7_wipe_0 : decode cX7_wipe 0 = .ok (.aload_n 0, 1) := by decide +kernel
theorem dX7_wipe_1 : decode cX7_wipe 1 = .ok (.getfield 107, 3) := by decide +kernel
theorem dX7_wipe_4 : decode cX7_wipe 4 = .ok (.istore_n 1, 1) := by decide +kernel
theorem dX7_wipe_5 : decode cX7_wipe 5 = .ok (.aload_n 0, 1) := by decide +kernel
theorem dX7_wipe_6 : decode cX7_wipe 6 = .ok (.iconst 0, 1) := by decide +kernel
theorem dX7_wipe_7 : decode cX7_wipe 7 = .ok (.putfield 107, 3) := by decide +kernel
theorem dX7_wipe_10 : decode cX7_wipe 10 = .ok (.iload_n 1, 1) := by decide +kernel
theorem dX7_wipe_11 : decode cX7_wipe 11 = .ok (.ireturn, 1) := by decide +kernel
theorem dX7_faultOf_0 : decode cX7_faultOf 0 = .ok (.iconst 0, 1) := by decide +kernel
theorem dX7_faultOf_1 : decode cX7_faultOf 1 = .ok (.istore_n 1, 1) := by decide +kernel
theorem dX7_faultOf_2 : decode cX7_faultOf 2 = .ok (.iconst 0, 1) := by decide +kernel
theorem dX7_faultOf_3 : decode cX7_faultOf 3 = .ok (.istore_n 2, 1) := by decide +kernel
theorem dX7_faultOf_4 : decode cX7_faultOf 4 = .ok (.iconst 0, 1) := by decide +kernel
theorem dX7_faultOf_5 : decode cX7_faultOf 5 = .ok (.istore_n 3, 1) := by decide +kernel
theorem dX7_faultOf_6 : decode cX7_faultOf 6 = .ok (.iload_n 3, 1) := by decide +kernel
theorem dX7_faultOf_7 : decode cX7_faultOf 7 = .ok (.aload_n 0, 1) := by decide +kernel
theorem dX7_faultOf_8 : decode cX7_faultOf 8 = .ok (.getfield 107, 3) := by decide +kernel
theorem dX7_faultOf_11 : decode cX7_faultOf 11 = .ok (.if_icmp .ge 163, 3) := by decide +kernel
theorem dX7_faultOf_14 : decode cX7_faultOf 14 = .ok (.aload_n 0, 1) := by decide +kernel
theorem dX7_faultOf_15 : decode cX7_faultOf 15 = .ok (.getfield 34, 3) := by decide +kernel
theorem dX7_faultOf_18 : decode cX7_faultOf 18 = .ok (.iload_n 3, 1) := by decide +kernel
theorem dX7_faultOf_19 : decode cX7_faultOf 19 = .ok (.iaload, 1) := by decide +kernel
theorem dX7_faultOf_20 : decode cX7_faultOf 20 = .ok (.istore 4, 2) := by decide +kernel
theorem dX7_faultOf_22 : decode cX7_faultOf 22 = .ok (.iload_n 1, 1) := by decide +kernel
theorem dX7_faultOf_23 : decode cX7_faultOf 23 = .ok (.iconst 4, 1) := by decide +kernel
theorem dX7_faultOf_24 : decode cX7_faultOf 24 = .ok (.irem, 1) := by decide +kernel
theorem dX7_faultOf_25 : decode cX7_faultOf 25 = .ok (.istore 5, 2) := by decide +kernel
theorem dX7_faultOf_27 : decode cX7_faultOf 27 = .ok (.bipush (-6), 2) := by decide +kernel
theorem dX7_faultOf_29 : decode cX7_faultOf 29 = .ok (.istore 6, 2) := by decide +kernel
theorem dX7_faultOf_31 : decode cX7_faultOf 31 = .ok (.iload_n 1, 1) := by decide +kernel
theorem dX7_faultOf_32 : decode cX7_faultOf 32 = .ok (.iconst 3, 1) := by decide +kernel
theorem dX7_faultOf_33 : decode cX7_faultOf 33 = .ok (.if_icmp .ne 21, 3) := by decide +kernel
theorem dX7_faultOf_36 : decode cX7_faultOf 36 = .ok (.iload 4, 2) := by decide +kernel
theorem dX7_faultOf_38 : decode cX7_faultOf 38 = .ok (.bipush 62, 2) := by decide +kernel
theorem dX7_faultOf_40 : decode cX7_faultOf 40 = .ok (.if_icmp .ne 7, 3) := by decide +kernel
theorem dX7_faultOf_43 : decode cX7_faultOf 43 = .ok (.iconst 4, 1) := by decide +kernel
theorem dX7_faultOf_44 : decode cX7_faultOf 44 = .ok (.goto 5, 3) := by decide +kernel
theorem dX7_faultOf_47 : decode cX7_faultOf 47 = .ok (.bipush (-6), 2) := by decide +kernel
theorem dX7_faultOf_49 : decode cX7_faultOf 49 = .ok (.istore 6, 2) := by decide +kernel
theorem dX7_faultOf_51 : decode cX7_faultOf 51 = .ok (.goto 107, 3) := by decide +kernel
theorem dX7_faultOf_54 : decode cX7_faultOf 54 = .ok (.iload_n 1, 1) := by decide +kernel
theorem dX7_faultOf_55 : decode cX7_faultOf 55 = .ok (.bipush 7, 2) := by decide +kernel
theorem dX7_faultOf_57 : decode cX7_faultOf 57 = .ok (.if_icmp .ne 21, 3) := by decide +kernel
theorem dX7_faultOf_60 : decode cX7_faultOf 60 = .ok (.iload 4, 2) := by decide +kernel
theorem dX7_faultOf_62 : decode cX7_faultOf 62 = .ok (.bipush 59, 2) := by decide +kernel
theorem dX7_faultOf_64 : decode cX7_faultOf 64 = .ok (.if_icmp .ne 7, 3) := by decide +kernel
theorem dX7_faultOf_67 : decode cX7_faultOf 67 = .ok (.iconst 0, 1) := by decide +kernel
theorem dX7_faultOf_68 : decode cX7_faultOf 68 = .ok (.goto 5, 3) := by decide +kernel
theorem dX7_faultOf_71 : decode cX7_faultOf 71 = .ok (.bipush (-6), 2) := by decide +kernel
theorem dX7_faultOf_73 : decode cX7_faultOf 73 = .ok (.istore 6, 2) := by decide +kernel
theorem dX7_faultOf_75 : decode cX7_faultOf 75 = .ok (.goto 83, 3) := by decide +kernel
theorem dX7_faultOf_78 : decode cX7_faultOf 78 = .ok (.iload 5, 2) := by decide +kernel
theorem dX7_faultOf_80 : decode cX7_faultOf 80 = .ok (.iconst 2, 1) := by decide +kernel
theorem dX7_faultOf_81 : decode cX7_faultOf 81 = .ok (.if_icmp .ge 33, 3) := by decide +kernel
theorem dX7_faultOf_84 : decode cX7_faultOf 84 = .ok (.iload 4, 2) := by decide +kernel
theorem dX7_faultOf_86 : decode cX7_faultOf 86 = .ok (.iload 5, 2) := by decide +kernel
theorem dX7_faultOf_88 : decode cX7_faultOf 88 = .ok (.ifCond .ne 8, 3) := by decide +kernel
theorem dX7_faultOf_91 : decode cX7_faultOf 91 = .ok (.bipush 49, 2) := by decide +kernel
theorem dX7_faultOf_93 : decode cX7_faultOf 93 = .ok (.goto 5, 3) := by decide +kernel
theorem dX7_faultOf_96 : decode cX7_faultOf 96 = .ok (.bipush 48, 2) := by decide +kernel
theorem dX7_faultOf_98 : decode cX7_faultOf 98 = .ok (.bipush 57, 2) := by decide +kernel
theorem dX7_faultOf_100 : decode cX7_faultOf 100 = .ok (.invokestatic 77, 3) := by decide +kernel
theorem dX7_faultOf_103 : decode cX7_faultOf 103 = .ok (.ifCond .eq 11, 3) := by decide +kernel
theorem dX7_faultOf_106 : decode cX7_faultOf 106 = .ok (.iload_n 1, 1) := by decide +kernel
theorem dX7_faultOf_107 : decode cX7_faultOf 107 = .ok (.iconst 1, 1) := by decide +kernel
theorem dX7_faultOf_108 : decode cX7_faultOf 108 = .ok (.iadd, 1) := by decide +kernel
theorem dX7_faultOf_109 : decode cX7_faultOf 109 = .ok (.istore 6, 2) := by decide +kernel
theorem dX7_faultOf_111 : decode cX7_faultOf 111 = .ok (.goto 47, 3) := by decide +kernel
theorem dX7_faultOf_114 : decode cX7_faultOf 114 = .ok (.iload 5, 2) := by decide +kernel
theorem dX7_faultOf_116 : decode cX7_faultOf 116 = .ok (.ifCond .le 42, 3) := by decide +kernel
theorem dX7_faultOf_119 : decode cX7_faultOf 119 = .ok (.iload 4, 2) := by decide +kernel
theorem dX7_faultOf_121 : decode cX7_faultOf 121 = .ok (.bipush 97, 2) := by decide +kernel
theorem dX7_faultOf_123 : decode cX7_faultOf 123 = .ok (.bipush 104, 2) := by decide +kernel
theorem dX7_faultOf_125 : decode cX7_faultOf 125 = .ok (.invokestatic 77, 3) := by decide +kernel
theorem dX7_faultOf_128 : decode cX7_faultOf 128 = .ok (.ifCond .eq 30, 3) := by decide +kernel
theorem dX7_faultOf_131 : decode cX7_faultOf 131 = .ok (.iload_n 1, 1) := by decide +kernel
theorem dX7_faultOf_132 : decode cX7_faultOf 132 = .ok (.iconst 4, 1) := by decide +kernel
theorem dX7_faultOf_133 : decode cX7_faultOf 133 = .ok (.if_icmp .lt 9, 3) := by decide +kernel
theorem dX7_faultOf_136 : decode cX7_faultOf 136 = .ok (.iload 4, 2) := by decide +kernel
theorem dX7_faultOf_138 : decode cX7_faultOf 138 = .ok (.iload_n 2, 1) := by decide +kernel
theorem dX7_faultOf_139 : decode cX7_faultOf 139 = .ok (.if_icmp .eq 19, 3) := by decide +kernel
theorem dX7_faultOf_142 : decode cX7_faultOf 142 = .ok (.iload_n 1, 1) := by decide +kernel
theorem dX7_faultOf_143 : decode cX7_faultOf 143 = .ok (.iconst 4, 1) := by decide +kernel
theorem dX7_faultOf_144 : decode cX7_faultOf 144 = .ok (.if_icmp .ge 7, 3) := by decide +kernel
theorem dX7_faultOf_147 : decode cX7_faultOf 147 = .ok (.iconst 3, 1) := by decide +kernel
theorem dX7_faultOf_148 : decode cX7_faultOf 148 = .ok (.goto 5, 3) := by decide +kernel
theorem dX7_faultOf_151 : decode cX7_faultOf 151 = .ok (.bipush 7, 2) := by decide +kernel
theorem dX7_faultOf_153 : decode cX7_faultOf 153 = .ok (.istore 6, 2) := by decide +kernel
theorem dX7_faultOf_155 : decode cX7_faultOf 155 = .ok (.iload 4, 2) := by decide +kernel
theorem dX7_faultOf_157 : decode cX7_faultOf 157 = .ok (.istore_n 2, 1) := by decide +kernel
theorem dX7_faultOf_158 : decode cX7_faultOf 158 = .ok (.iload 6, 2) := by decide +kernel
theorem dX7_faultOf_160 : decode cX7_faultOf 160 = .ok (.ifCond .ge 5, 3) := by decide +kernel
theorem dX7_faultOf_163 : decode cX7_faultOf 163 = .ok (.iload_n 3, 1) := by decide +kernel
theorem dX7_faultOf_164 : decode cX7_faultOf 164 = .ok (.ireturn, 1) := by decide +kernel
theorem dX7_faultOf_165 : decode cX7_faultOf 165 = .ok (.iload 6, 2) := by decide +kernel
theorem dX7_faultOf_167 : decode cX7_faultOf 167 = .ok (.istore_n 1, 1) := by decide +kernel
theorem dX7_faultOf_168 : decode cX7_faultOf 168 = .ok (.iinc 3 1, 3) := by decide +kernel
theorem dX7_faultOf_171 : decode cX7_faultOf 171 = .ok (.goto (-165), 3) := by decide +kernel
theorem dX7_faultOf_174 : decode cX7_faultOf 174 = .ok (.iload_n 1, 1) := by decide +kernel
theorem dX7_faultOf_175 : decode cX7_faultOf 175 = .ok (.bipush 7, 2) := by decide +kernel
theorem dX7_faultOf_177 : decode cX7_faultOf 177 = .ok (.if_icmp .ne 8, 3) := by decide +kernel
theorem dX7_faultOf_180 : decode cX7_faultOf 180 = .ok (.bipush (-6), 2) := by decide +kernel
theorem dX7_faultOf_182 : decode cX7_faultOf 182 = .ok (.goto 7, 3) := by decide +kernel
theorem dX7_faultOf_185 : decode cX7_faultOf 185 = .ok (.aload_n 0, 1) := by decide +kernel
theorem dX7_faultOf_186 : decode cX7_faultOf 186 = .ok (.getfield 107, 3) := by decide +kernel
theorem dX7_faultOf_189 : decode cX7_faultOf 189 = .ok (.ireturn, 1) := by decide +kernel
theorem dX7_fault_0 : decode cX7_fault 0 = .ok (.aload_n 0, 1) := by decide +kernel
theorem dX7_fault_1 : decode cX7_fault 1 = .ok (.invokevirtual 110, 3) := by decide +kernel
theorem dX7_fault_4 : decode cX7_fault 4 = .ok (.ireturn, 1) := by decide +kernel
theorem dX7_read_0 : decode cX7_read 0 = .ok (.aload_n 0, 1) := by decide +kernel
theorem dX7_read_1 : decode cX7_read 1 = .ok (.invokevirtual 110, 3) := by decide +kernel
theorem dX7_read_4 : decode cX7_read 4 = .ok (.ifCond .lt 6, 3) := by decide +kernel
theorem dX7_read_7 : decode cX7_read 7 = .ok (.bipush (-5), 2) := by decide +kernel
theorem dX7_read_9 : decode cX7_read 9 = .ok (.ireturn, 1) := by decide +kernel
theorem dX7_read_10 : decode cX7_read 10 = .ok (.iconst 1, 1) := by decide +kernel
theorem dX7_read_11 : decode cX7_read 11 = .ok (.istore_n 1, 1) := by decide +kernel
theorem dX7_read_12 : decode cX7_read 12 = .ok (.iconst 0, 1) := by decide +kernel
theorem dX7_read_13 : decode cX7_read 13 = .ok (.istore_n 2, 1) := by decide +kernel
theorem dX7_read_14 : decode cX7_read 14 = .ok (.iload_n 2, 1) := by decide +kernel
theorem dX7_read_15 : decode cX7_read 15 = .ok (.aload_n 0, 1) := by decide +kernel
theorem dX7_read_16 : decode cX7_read 16 = .ok (.getfield 107, 3) := by decide +kernel
theorem dX7_read_19 : decode cX7_read 19 = .ok (.if_icmp .ge 28, 3) := by decide +kernel
theorem dX7_read_22 : decode cX7_read 22 = .ok (.iload_n 1, 1) := by decide +kernel
theorem dX7_read_23 : decode cX7_read 23 = .ok (.aload_n 0, 1) := by decide +kernel
theorem dX7_read_24 : decode cX7_read 24 = .ok (.getfield 34, 3) := by decide +kernel
theorem dX7_read_27 : decode cX7_read 27 = .ok (.iload_n 2, 1) := by decide +kernel
theorem dX7_read_28 : decode cX7_read 28 = .ok (.iaload, 1) := by decide +kernel
theorem dX7_read_29 : decode cX7_read 29 = .ok (.bipush 59, 2) := by decide +kernel
theorem dX7_read_31 : decode cX7_read 31 = .ok (.if_icmp .ne 7, 3) := by decide +kernel
theorem dX7_read_34 : decode cX7_read 34 = .ok (.iconst 1, 1) := by decide +kernel
theorem dX7_read_35 : decode cX7_read 35 = .ok (.goto 4, 3) := by decide +kernel
theorem dX7_read_38 : decode cX7_read 38 = .ok (.iconst 0, 1) := by decide +kernel
theorem dX7_read_39 : decode cX7_read 39 = .ok (.iadd, 1) := by decide +kernel
theorem dX7_read_40 : decode cX7_read 40 = .ok (.istore_n 1, 1) := by decide +kernel
theorem dX7_read_41 : decode cX7_read 41 = .ok (.iinc 2 1, 3) := by decide +kernel
theorem dX7_read_44 : decode cX7_read 44 = .ok (.goto (-30), 3) := by decide +kernel
theorem dX7_read_47 : decode cX7_read 47 = .ok (.aload_n 0, 1) := by decide +kernel
theorem dX7_read_48 : decode cX7_read 48 = .ok (.getfield 81, 3) := by decide +kernel
theorem dX7_read_51 : decode cX7_read 51 = .ok (.iload_n 1, 1) := by decide +kernel
theorem dX7_read_52 : decode cX7_read 52 = .ok (.iadd, 1) := by decide +kernel
theorem dX7_read_53 : decode cX7_read 53 = .ok (.bipush 12, 2) := by decide +kernel
theorem dX7_read_55 : decode cX7_read 55 = .ok (.if_icmp .le 6, 3) := by decide +kernel
theorem dX7_read_58 : decode cX7_read 58 = .ok (.bipush (-4), 2) := by decide +kernel
theorem dX7_read_60 : decode cX7_read 60 = .ok (.ireturn, 1) := by decide +kernel
theorem dX7_read_61 : decode cX7_read 61 = .ok (.iconst 0, 1) := by decide +kernel
theorem dX7_read_62 : decode cX7_read 62 = .ok (.istore_n 2, 1) := by decide +kernel
theorem dX7_read_63 : decode cX7_read 63 = .ok (.iconst 0, 1) := by decide +kernel
theorem dX7_read_64 : decode cX7_read 64 = .ok (.istore_n 3, 1) := by decide +kernel
theorem dX7_read_65 : decode cX7_read 65 = .ok (.iconst 0, 1) := by decide +kernel
theorem dX7_read_66 : decode cX7_read 66 = .ok (.istore 4, 2) := by decide +kernel
theorem dX7_read_68 : decode cX7_read 68 = .ok (.iconst 0, 1) := by decide +kernel
theorem dX7_read_69 : decode cX7_read 69 = .ok (.istore 5, 2) := by decide +kernel
theorem dX7_read_71 : decode cX7_read 71 = .ok (.iload 5, 2) := by decide +kernel
theorem dX7_read_73 : decode cX7_read 73 = .ok (.aload_n 0, 1) := by decide +kernel
theorem dX7_read_74 : decode cX7_read 74 = .ok (.getfield 107, 3) := by decide +kernel
theorem dX7_read_77 : decode cX7_read 77 = .ok (.if_icmp .gt 120, 3) := by decide +kernel
theorem dX7_read_80 : decode cX7_read 80 = .ok (.iload 5, 2) := by decide +kernel
theorem dX7_read_82 : decode cX7_read 82 = .ok (.aload_n 0, 1) := by decide +kernel
theorem dX7_read_83 : decode cX7_read 83 = .ok (.getfield 107, 3) := by decide +kernel
theorem dX7_read_86 : decode cX7_read 86 = .ok (.if_icmp .ge 13, 3) := by decide +kernel
theorem dX7_read_89 : decode cX7_read 89 = .ok (.aload_n 0, 1) := by decide +kernel
theorem dX7_read_90 : decode cX7_read 90 = .ok (.getfield 34, 3) := by decide +kernel
theorem dX7_read_93 : decode cX7_read 93 = .ok (.iload 5, 2) := by decide +kernel
theorem dX7_read_95 : decode cX7_read 95 = .ok (.iaload, 1) := by decide +kernel
theorem dX7_read_96 : decode cX7_read 96 = .ok (.goto 5, 3) := by decide +kernel
theorem dX7_read_99 : decode cX7_read 99 = .ok (.bipush 59, 2) := by decide +kernel
theorem dX7_read_101 : decode cX7_read 101 = .ok (.istore 6, 2) := by decide +kernel
theorem dX7_read_103 : decode cX7_read 103 = .ok (.iload 6, 2) := by decide +kernel
theorem dX7_read_105 : decode cX7_read 105 = .ok (.bipush 48, 2) := by decide +kernel
theorem dX7_read_107 : decode cX7_read 107 = .ok (.bipush 57, 2) := by decide +kernel
theorem dX7_read_109 : decode cX7_read 109 = .ok (.invokestatic 77, 3) := by decide +kernel
theorem dX7_read_112 : decode cX7_read 112 = .ok (.ifCond .eq 19, 3) := by decide +kernel
theorem dX7_read_115 : decode cX7_read 115 = .ok (.bipush 10, 2) := by decide +kernel
theorem dX7_read_117 : decode cX7_read 117 = .ok (.iload 4, 2) := by decide +kernel
theorem dX7_read_119 : decode cX7_read 119 = .ok (.imul, 1) := by decide +kernel
theorem dX7_read_120 : decode cX7_read 120 = .ok (.iload 6, 2) := by decide +kernel
theorem dX7_read_122 : decode cX7_read 122 = .ok (.iadd, 1) := by decide +kernel
theorem dX7_read_123 : decode cX7_read 123 = .ok (.bipush 48, 2) := by decide +kernel
theorem dX7_read_125 : decode cX7_read 125 = .ok (.isub, 1) := by decide +kernel
theorem dX7_read_126 : decode cX7_read 126 = .ok (.istore 4, 2) := by decide +kernel
theorem dX7_read_128 : decode cX7_read 128 = .ok (.goto 63, 3) := by decide +kernel
theorem dX7_read_131 : decode cX7_read 131 = .ok (.iload 6, 2) := by decide +kernel
theorem dX7_read_133 : decode cX7_read 133 = .ok (.bipush 62, 2) := by decide +kernel
theorem dX7_read_135 : decode cX7_read 135 = .ok (.if_icmp .ne 25, 3) := by decide +kernel
theorem dX7_read_138 : decode cX7_read 138 = .ok (.iload 4, 2) := by decide +kernel
theorem dX7_read_140 : decode cX7_read 140 = .ok (.istore_n 2, 1) := by decide +kernel
theorem dX7_read_141 : decode cX7_read 141 = .ok (.aload_n 0, 1) := by decide +kernel
theorem dX7_read_142 : decode cX7_read 142 = .ok (.getfield 34, 3) := by decide +kernel
theorem dX7_read_145 : decode cX7_read 145 = .ok (.iload 5, 2) := by decide +kernel
theorem dX7_read_147 : decode cX7_read 147 = .ok (.iconst 1, 1) := by decide +kernel
theorem dX7_read_148 : decode cX7_read 148 = .ok (.isub, 1) := by decide +kernel
theorem dX7_read_149 : decode cX7_read 149 = .ok (.iaload, 1) := by decide +kernel
theorem dX7_read_150 : decode cX7_read 150 = .ok (.bipush 97, 2) := by decide +kernel
theorem dX7_read_152 : decode cX7_read 152 = .ok (.isub, 1) := by decide +kernel
theorem dX7_read_153 : decode cX7_read 153 = .ok (.istore_n 3, 1) := by decide +kernel
theorem dX7_read_154 : decode cX7_read 154 = .ok (.iconst 0, 1) := by decide +kernel
theorem dX7_read_155 : decode cX7_read 155 = .ok (.istore 4, 2) := by decide +kernel
theorem dX7_read_157 : decode cX7_read 157 = .ok (.goto 34, 3) := by decide +kernel
theorem dX7_read_160 : decode cX7_read 160 = .ok (.iload 6, 2) := by decide +kernel
theorem dX7_read_162 : decode cX7_read 162 = .ok (.bipush 59, 2) := by decide +kernel
theorem dX7_read_164 : decode cX7_read 164 = .ok (.if_icmp .ne 27, 3) := by decide +kernel
theorem dX7_read_167 : decode cX7_read 167 = .ok (.aload_n 0, 1) := by decide +kernel
theorem dX7_read_168 : decode cX7_read 168 = .ok (.iload_n 3, 1) := by decide +kernel
theorem dX7_read_169 : decode cX7_read 169 = .ok (.iload_n 2, 1) := by decide +kernel
theorem dX7_read_170 : decode cX7_read 170 = .ok (.aload_n 0, 1) := by decide +kernel
theorem dX7_read_171 : decode cX7_read 171 = .ok (.getfield 34, 3) := by decide +kernel
theorem dX7_read_174 : decode cX7_read 174 = .ok (.iload 5, 2) := by decide +kernel
theorem dX7_read_176 : decode cX7_read 176 = .ok (.iconst 1, 1) := by decide +kernel
theorem dX7_read_177 : decode cX7_read 177 = .ok (.isub, 1) := by decide +kernel
theorem dX7_read_178 : decode cX7_read 178 = .ok (.iaload, 1) := by decide +kernel
theorem dX7_read_179 : decode cX7_read 179 = .ok (.bipush 97, 2) := by decide +kernel
theorem dX7_read_181 : decode cX7_read 181 = .ok (.isub, 1) := by decide +kernel
theorem dX7_read_182 : decode cX7_read 182 = .ok (.iload 4, 2) := by decide +kernel
theorem dX7_read_184 : decode cX7_read 184 = .ok (.invokevirtual 90, 3) := by decide +kernel
theorem dX7_read_187 : decode cX7_read 187 = .ok (.pop, 1) := by decide +kernel
theorem dX7_read_188 : decode cX7_read 188 = .ok (.iconst 0, 1) := by decide +kernel
theorem dX7_read_189 : decode cX7_read 189 = .ok (.istore 4, 2) := by decide +kernel
theorem dX7_read_191 : decode cX7_read 191 = .ok (.iinc 5 1, 3) := by decide +kernel
theorem dX7_read_194 : decode cX7_read 194 = .ok (.goto (-123), 3) := by decide +kernel
theorem dX7_read_197 : decode cX7_read 197 = .ok (.aload_n 0, 1) := by decide +kernel
theorem dX7_read_198 : decode cX7_read 198 = .ok (.iconst 0, 1) := by decide +kernel
theorem dX7_read_199 : decode cX7_read 199 = .ok (.putfield 107, 3) := by decide +kernel
theorem dX7_read_202 : decode cX7_read 202 = .ok (.aload_n 0, 1) := by decide +kernel
theorem dX7_read_203 : decode cX7_read 203 = .ok (.getfield 81, 3) := by decide +kernel
theorem dX7_read_206 : decode cX7_read 206 = .ok (.ireturn, 1) := by decide +kernel
theorem dX7_held_0 : decode cX7_held 0 = .ok (.lload_n 0, 1) := by decide +kernel
theorem dX7_held_1 : decode cX7_held 1 = .ok (.lstore 8, 2) := by decide +kernel
theorem dX7_held_3 : decode cX7_held 3 = .ok (.lload_n 2, 1) := by decide +kernel
theorem dX7_held_4 : decode cX7_held 4 = .ok (.lstore 10, 2) := by decide +kernel
theorem dX7_held_6 : decode cX7_held 6 = .ok (.lload 4, 2) := by decide +kernel
theorem dX7_held_8 : decode cX7_held 8 = .ok (.lstore 12, 2) := by decide +kernel
theorem dX7_held_10 : decode cX7_held 10 = .ok (.lload 6, 2) := by decide +kernel
theorem dX7_held_12 : decode cX7_held 12 = .ok (.lstore 14, 2) := by decide +kernel
theorem dX7_held_14 : decode cX7_held 14 = .ok (.iconst 1, 1) := by decide +kernel
theorem dX7_held_15 : decode cX7_held 15 = .ok (.istore 16, 2) := by decide +kernel
theorem dX7_held_17 : decode cX7_held 17 = .ok (.lload 10, 2) := by decide +kernel
theorem dX7_held_19 : decode cX7_held 19 = .ok (.lconst 0, 1) := by decide +kernel
theorem dX7_held_20 : decode cX7_held 20 = .ok (.lcmp, 1) := by decide +kernel
theorem dX7_held_21 : decode cX7_held 21 = .ok (.ifCond .eq 10, 3) := by decide +kernel
theorem dX7_held_24 : decode cX7_held 24 = .ok (.lload 14, 2) := by decide +kernel
theorem dX7_held_26 : decode cX7_held 26 = .ok (.lconst 0, 1) := by decide +kernel
theorem dX7_held_27 : decode cX7_held 27 = .ok (.lcmp, 1) := by decide +kernel
theorem dX7_held_28 : decode cX7_held 28 = .ok (.ifCond .ne 31, 3) := by decide +kernel
theorem dX7_held_31 : decode cX7_held 31 = .ok (.lload 10, 2) := by decide +kernel
theorem dX7_held_33 : decode cX7_held 33 = .ok (.lload 14, 2) := by decide +kernel
theorem dX7_held_35 : decode cX7_held 35 = .ok (.lcmp, 1) := by decide +kernel
theorem dX7_held_36 : decode cX7_held 36 = .ok (.ifCond .ne 7, 3) := by decide +kernel
theorem dX7_held_39 : decode cX7_held 39 = .ok (.iconst 0, 1) := by decide +kernel
theorem dX7_held_40 : decode cX7_held 40 = .ok (.goto 18, 3) := by decide +kernel
theorem dX7_held_43 : decode cX7_held 43 = .ok (.lload 10, 2) := by decide +kernel
theorem dX7_held_45 : decode cX7_held 45 = .ok (.lconst 0, 1) := by decide +kernel
theorem dX7_held_46 : decode cX7_held 46 = .ok (.lcmp, 1) := by decide +kernel
theorem dX7_held_47 : decode cX7_held 47 = .ok (.ifCond .ne 8, 3) := by decide +kernel
theorem dX7_held_50 : decode cX7_held 50 = .ok (.iload 16, 2) := by decide +kernel
theorem dX7_held_52 : decode cX7_held 52 = .ok (.goto 6, 3) := by decide +kernel
theorem dX7_held_55 : decode cX7_held 55 = .ok (.iload 16, 2) := by decide +kernel
theorem dX7_held_57 : decode cX7_held 57 = .ok (.ineg, 1) := by decide +kernel
theorem dX7_held_58 : decode cX7_held 58 = .ok (.ireturn, 1) := by decide +kernel
theorem dX7_held_59 : decode cX7_held 59 = .ok (.lload 8, 2) := by decide +kernel
theorem dX7_held_61 : decode cX7_held 61 = .ok (.lload 10, 2) := by decide +kernel
theorem dX7_held_63 : decode cX7_held 63 = .ok (.ldiv, 1) := by decide +kernel
theorem dX7_held_64 : decode cX7_held 64 = .ok (.lstore 17, 2) := by decide +kernel
theorem dX7_held_66 : decode cX7_held 66 = .ok (.lload 12, 2) := by decide +kernel
theorem dX7_held_68 : decode cX7_held 68 = .ok (.lload 14, 2) := by decide +kernel
theorem dX7_held_70 : decode cX7_held 70 = .ok (.ldiv, 1) := by decide +kernel
theorem dX7_held_71 : decode cX7_held 71 = .ok (.lstore 19, 2) := by decide +kernel
theorem dX7_held_73 : decode cX7_held 73 = .ok (.lload 17, 2) := by decide +kernel
theorem dX7_held_75 : decode cX7_held 75 = .ok (.lload 19, 2) := by decide +kernel
theorem dX7_held_77 : decode cX7_held 77 = .ok (.lcmp, 1) := by decide +kernel
theorem dX7_held_78 : decode cX7_held 78 = .ok (.ifCond .eq 20, 3) := by decide +kernel
theorem dX7_held_81 : decode cX7_held 81 = .ok (.lload 17, 2) := by decide +kernel
theorem dX7_held_83 : decode cX7_held 83 = .ok (.lload 19, 2) := by decide +kernel
theorem dX7_held_85 : decode cX7_held 85 = .ok (.lcmp, 1) := by decide +kernel
theorem dX7_held_86 : decode cX7_held 86 = .ok (.ifCond .le 8, 3) := by decide +kernel
theorem dX7_held_89 : decode cX7_held 89 = .ok (.iload 16, 2) := by decide +kernel
theorem dX7_held_91 : decode cX7_held 91 = .ok (.goto 6, 3) := by decide +kernel
theorem dX7_held_94 : decode cX7_held 94 = .ok (.iload 16, 2) := by decide +kernel
theorem dX7_held_96 : decode cX7_held 96 = .ok (.ineg, 1) := by decide +kernel
theorem dX7_held_97 : decode cX7_held 97 = .ok (.ireturn, 1) := by decide +kernel
theorem dX7_held_98 : decode cX7_held 98 = .ok (.lload 8, 2) := by decide +kernel
theorem dX7_held_100 : decode cX7_held 100 = .ok (.lload 10, 2) := by decide +kernel
theorem dX7_held_102 : decode cX7_held 102 = .ok (.lrem, 1) := by decide +kernel
theorem dX7_held_103 : decode cX7_held 103 = .ok (.lstore 21, 2) := by decide +kernel
theorem dX7_held_105 : decode cX7_held 105 = .ok (.lload 12, 2) := by decide +kernel
theorem dX7_held_107 : decode cX7_held 107 = .ok (.lload 14, 2) := by decide +kernel
theorem dX7_held_109 : decode cX7_held 109 = .ok (.lrem, 1) := by decide +kernel
theorem dX7_held_110 : decode cX7_held 110 = .ok (.lstore 23, 2) := by decide +kernel
theorem dX7_held_112 : decode cX7_held 112 = .ok (.lload 10, 2) := by decide +kernel
theorem dX7_held_114 : decode cX7_held 114 = .ok (.lstore 8, 2) := by decide +kernel
theorem dX7_held_116 : decode cX7_held 116 = .ok (.lload 21, 2) := by decide +kernel
theorem dX7_held_118 : decode cX7_held 118 = .ok (.lstore 10, 2) := by decide +kernel

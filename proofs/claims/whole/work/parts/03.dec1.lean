theorem dX0_init_0 : decode cX0_init 0 = .ok (.aload_n 0, 1) := by decide +kernel
theorem dX0_init_1 : decode cX0_init 1 = .ok (.invokespecial 3, 3) := by decide +kernel
theorem dX0_init_4 : decode cX0_init 4 = .ok (.aload_n 0, 1) := by decide +kernel
theorem dX0_init_5 : decode cX0_init 5 = .ok (.bipush 12, 2) := by decide +kernel
theorem dX0_init_7 : decode cX0_init 7 = .ok (.newarray .int, 2) := by decide +kernel
theorem dX0_init_9 : decode cX0_init 9 = .ok (.putfield 9, 3) := by decide +kernel
theorem dX0_init_12 : decode cX0_init 12 = .ok (.aload_n 0, 1) := by decide +kernel
theorem dX0_init_13 : decode cX0_init 13 = .ok (.bipush 12, 2) := by decide +kernel
theorem dX0_init_15 : decode cX0_init 15 = .ok (.newarray .int, 2) := by decide +kernel
theorem dX0_init_17 : decode cX0_init 17 = .ok (.putfield 15, 3) := by decide +kernel
theorem dX0_init_20 : decode cX0_init 20 = .ok (.aload_n 0, 1) := by decide +kernel
theorem dX0_init_21 : decode cX0_init 21 = .ok (.bipush 12, 2) := by decide +kernel
theorem dX0_init_23 : decode cX0_init 23 = .ok (.newarray .int, 2) := by decide +kernel
theorem dX0_init_25 : decode cX0_init 25 = .ok (.putfield 18, 3) := by decide +kernel
theorem dX0_init_28 : decode cX0_init 28 = .ok (.aload_n 0, 1) := by decide +kernel
theorem dX0_init_29 : decode cX0_init 29 = .ok (.bipush 12, 2) := by decide +kernel
theorem dX0_init_31 : decode cX0_init 31 = .ok (.newarray .int, 2) := by decide +kernel
theorem dX0_init_33 : decode cX0_init 33 = .ok (.putfield 21, 3) := by decide +kernel
theorem dX0_init_36 : decode cX0_init 36 = .ok (.aload_n 0, 1) := by decide +kernel
theorem dX0_init_37 : decode cX0_init 37 = .ok (.bipush 12, 2) := by decide +kernel
theorem dX0_init_39 : decode cX0_init 39 = .ok (.newarray .int, 2) := by decide +kernel
theorem dX0_init_41 : decode cX0_init 41 = .ok (.putfield 24, 3) := by decide +kernel
theorem dX0_init_44 : decode cX0_init 44 = .ok (.aload_n 0, 1) := by decide +kernel
theorem dX0_init_45 : decode cX0_init 45 = .ok (.bipush 12, 2) := by decide +kernel
theorem dX0_init_47 : decode cX0_init 47 = .ok (.newarray .int, 2) := by decide +kernel
theorem dX0_init_49 : decode cX0_init 49 = .ok (.putfield 27, 3) := by decide +kernel
theorem dX0_init_52 : decode cX0_init 52 = .ok (.aload_n 0, 1) := by decide +kernel
theorem dX0_init_53 : decode cX0_init 53 = .ok (.bipush 12, 2) := by decide +kernel
theorem dX0_init_55 : decode cX0_init 55 = .ok (.newarray .int, 2) := by decide +kernel
theorem dX0_init_57 : decode cX0_init 57 = .ok (.putfield 30, 3) := by decide +kernel
theorem dX0_init_60 : decode cX0_init 60 = .ok (.aload_n 0, 1) := by decide +kernel
theorem dX0_init_61 : decode cX0_init 61 = .ok (.iconst 3, 1) := by decide +kernel
theorem dX0_init_62 : decode cX0_init 62 = .ok (.newarray .int, 2) := by decide +kernel
theorem dX0_init_64 : decode cX0_init 64 = .ok (.dup, 1) := by decide +kernel
theorem dX0_init_65 : decode cX0_init 65 = .ok (.iconst 0, 1) := by decide +kernel
theorem dX0_init_66 : decode cX0_init 66 = .ok (.iconst 0, 1) := by decide +kernel
theorem dX0_init_67 : decode cX0_init 67 = .ok (.iastore, 1) := by decide +kernel
theorem dX0_init_68 : decode cX0_init 68 = .ok (.dup, 1) := by decide +kernel
theorem dX0_init_69 : decode cX0_init 69 = .ok (.iconst 1, 1) := by decide +kernel
theorem dX0_init_70 : decode cX0_init 70 = .ok (.iconst 0, 1) := by decide +kernel
theorem dX0_init_71 : decode cX0_init 71 = .ok (.iastore, 1) := by decide +kernel
theorem dX0_init_72 : decode cX0_init 72 = .ok (.dup, 1) := by decide +kernel
theorem dX0_init_73 : decode cX0_init 73 = .ok (.iconst 2, 1) := by decide +kernel
theorem dX0_init_74 : decode cX0_init 74 = .ok (.iconst 1, 1) := by decide +kernel
theorem dX0_init_75 : decode cX0_init 75 = .ok (.iastore, 1) := by decide +kernel
theorem dX0_init_76 : decode cX0_init 76 = .ok (.putfield 33, 3) := by decide +kernel
theorem dX0_init_79 : decode cX0_init 79 = .ok (.aload_n 0, 1) := by decide +kernel
theorem dX0_init_80 : decode cX0_init 80 = .ok (.iconst 0, 1) := by decide +kernel
theorem dX0_init_81 : decode cX0_init 81 = .ok (.putfield 36, 3) := by decide +kernel
theorem dX0_init_84 : decode cX0_init 84 = .ok (.return_, 1) := by decide +kernel
theorem dX0_has_0 : decode cX0_has 0 = .ok (.iload_n 1, 1) := by decide +kernel
theorem dX0_has_1 : decode cX0_has 1 = .ok (.ifCond .lt 15, 3) := by decide +kernel
theorem dX0_has_4 : decode cX0_has 4 = .ok (.iload_n 1, 1) := by decide +kernel
theorem dX0_has_5 : decode cX0_has 5 = .ok (.aload_n 0, 1) := by decide +kernel
theorem dX0_has_6 : decode cX0_has 6 = .ok (.getfield 36, 3) := by decide +kernel
theorem dX0_has_9 : decode cX0_has 9 = .ok (.if_icmp .ge 7, 3) := by decide +kernel
theorem dX0_has_12 : decode cX0_has 12 = .ok (.iconst 1, 1) := by decide +kernel
theorem dX0_has_13 : decode cX0_has 13 = .ok (.goto 4, 3) := by decide +kernel
theorem dX0_has_16 : decode cX0_has 16 = .ok (.iconst 0, 1) := by decide +kernel
theorem dX0_has_17 : decode cX0_has 17 = .ok (.ireturn, 1) := by decide +kernel
theorem dX0_add_0 : decode cX0_add 0 = .ok (.aload_n 0, 1) := by decide +kernel
theorem dX0_add_1 : decode cX0_add 1 = .ok (.getfield 36, 3) := by decide +kernel
theorem dX0_add_4 : decode cX0_add 4 = .ok (.bipush 12, 2) := by decide +kernel
theorem dX0_add_6 : decode cX0_add 6 = .ok (.if_icmp .lt 4, 3) := by decide +kernel
theorem dX0_add_9 : decode cX0_add 9 = .ok (.return_, 1) := by decide +kernel
theorem dX0_add_10 : decode cX0_add 10 = .ok (.aload_n 0, 1) := by decide +kernel
theorem dX0_add_11 : decode cX0_add 11 = .ok (.getfield 9, 3) := by decide +kernel
theorem dX0_add_14 : decode cX0_add 14 = .ok (.aload_n 0, 1) := by decide +kernel
theorem dX0_add_15 : decode cX0_add 15 = .ok (.getfield 36, 3) := by decide +kernel
theorem dX0_add_18 : decode cX0_add 18 = .ok (.iload_n 1, 1) := by decide +kernel
theorem dX0_add_19 : decode cX0_add 19 = .ok (.iastore, 1) := by decide +kernel
theorem dX0_add_20 : decode cX0_add 20 = .ok (.aload_n 0, 1) := by decide +kernel
theorem dX0_add_21 : decode cX0_add 21 = .ok (.getfield 15, 3) := by decide +kernel
theorem dX0_add_24 : decode cX0_add 24 = .ok (.aload_n 0, 1) := by decide +kernel
theorem dX0_add_25 : decode cX0_add 25 = .ok (.getfield 36, 3) := by decide +kernel
theorem dX0_add_28 : decode cX0_add 28 = .ok (.iload_n 2, 1) := by decide +kernel
theorem dX0_add_29 : decode cX0_add 29 = .ok (.iastore, 1) := by decide +kernel
theorem dX0_add_30 : decode cX0_add 30 = .ok (.aload_n 0, 1) := by decide +kernel
theorem dX0_add_31 : decode cX0_add 31 = .ok (.getfield 18, 3) := by decide +kernel
theorem dX0_add_34 : decode cX0_add 34 = .ok (.aload_n 0, 1) := by decide +kernel
theorem dX0_add_35 : decode cX0_add 35 = .ok (.getfield 36, 3) := by decide +kernel
theorem dX0_add_38 : decode cX0_add 38 = .ok (.iload_n 3, 1) := by decide +kernel
theorem dX0_add_39 : decode cX0_add 39 = .ok (.iastore, 1) := by decide +kernel
theorem dX0_add_40 : decode cX0_add 40 = .ok (.aload_n 0, 1) := by decide +kernel
theorem dX0_add_41 : decode cX0_add 41 = .ok (.getfield 21, 3) := by decide +kernel
theorem dX0_add_44 : decode cX0_add 44 = .ok (.aload_n 0, 1) := by decide +kernel
theorem dX0_add_45 : decode cX0_add 45 = .ok (.getfield 36, 3) := by decide +kernel
theorem dX0_add_48 : decode cX0_add 48 = .ok (.iload 4, 2) := by decide +kernel
theorem dX0_add_50 : decode cX0_add 50 = .ok (.iastore, 1) := by decide +kernel
theorem dX0_add_51 : decode cX0_add 51 = .ok (.aload_n 0, 1) := by decide +kernel
theorem dX0_add_52 : decode cX0_add 52 = .ok (.getfield 24, 3) := by decide +kernel
theorem dX0_add_55 : decode cX0_add 55 = .ok (.aload_n 0, 1) := by decide +kernel
theorem dX0_add_56 : decode cX0_add 56 = .ok (.getfield 36, 3) := by decide +kernel
theorem dX0_add_59 : decode cX0_add 59 = .ok (.iconst 0, 1) := by decide +kernel
theorem dX0_add_60 : decode cX0_add 60 = .ok (.iastore, 1) := by decide +kernel
theorem dX0_add_61 : decode cX0_add 61 = .ok (.aload_n 0, 1) := by decide +kernel
theorem dX0_add_62 : decode cX0_add 62 = .ok (.getfield 27, 3) := by decide +kernel
theorem dX0_add_65 : decode cX0_add 65 = .ok (.aload_n 0, 1) := by decide +kernel
theorem dX0_add_66 : decode cX0_add 66 = .ok (.getfield 36, 3) := by decide +kernel
theorem dX0_add_69 : decode cX0_add 69 = .ok (.bipush 99, 2) := by decide +kernel
theorem dX0_add_71 : decode cX0_add 71 = .ok (.iastore, 1) := by decide +kernel
theorem dX0_add_72 : decode cX0_add 72 = .ok (.aload_n 0, 1) := by decide +kernel
theorem dX0_add_73 : decode cX0_add 73 = .ok (.getfield 30, 3) := by decide +kernel
theorem dX0_add_76 : decode cX0_add 76 = .ok (.aload_n 0, 1) := by decide +kernel
theorem dX0_add_77 : decode cX0_add 77 = .ok (.getfield 36, 3) := by decide +kernel
theorem dX0_add_80 : decode cX0_add 80 = .ok (.ldc 40, 2) := by decide +kernel
theorem dX0_add_82 : decode cX0_add 82 = .ok (.iastore, 1) := by decide +kernel
theorem dX0_add_83 : decode cX0_add 83 = .ok (.aload_n 0, 1) := by decide +kernel
theorem dX0_add_84 : decode cX0_add 84 = .ok (.dup, 1) := by decide +kernel
theorem dX0_add_85 : decode cX0_add 85 = .ok (.getfield 36, 3) := by decide +kernel
theorem dX0_add_88 : decode cX0_add 88 = .ok (.iconst 1, 1) := by decide +kernel
theorem dX0_add_89 : decode cX0_add 89 = .ok (.iadd, 1) := by decide +kernel
theorem dX0_add_90 : decode cX0_add 90 = .ok (.putfield 36, 3) := by decide +kernel
theorem dX0_add_93 : decode cX0_add 93 = .ok (.return_, 1) := by decide +kernel
theorem dX0_isOpen_0 : decode cX0_isOpen 0 = .ok (.aload_n 0, 1) := by decide +kernel
theorem dX0_isOpen_1 : decode cX0_isOpen 1 = .ok (.iload_n 1, 1) := by decide +kernel
theorem dX0_isOpen_2 : decode cX0_isOpen 2 = .ok (.invokevirtual 41, 3) := by decide +kernel
theorem dX0_isOpen_5 : decode cX0_isOpen 5 = .ok (.ifCond .eq 31, 3) := by decide +kernel
theorem dX0_isOpen_8 : decode cX0_isOpen 8 = .ok (.aload_n 0, 1) := by decide +kernel
theorem dX0_isOpen_9 : decode cX0_isOpen 9 = .ok (.getfield 33, 3) := by decide +kernel
theorem dX0_isOpen_12 : decode cX0_isOpen 12 = .ok (.iconst 1, 1) := by decide +kernel
theorem dX0_isOpen_13 : decode cX0_isOpen 13 = .ok (.iaload, 1) := by decide +kernel
theorem dX0_isOpen_14 : decode cX0_isOpen 14 = .ok (.aload_n 0, 1) := by decide +kernel
theorem dX0_isOpen_15 : decode cX0_isOpen 15 = .ok (.getfield 24, 3) := by decide +kernel
theorem dX0_isOpen_18 : decode cX0_isOpen 18 = .ok (.iload_n 1, 1) := by decide +kernel
theorem dX0_isOpen_19 : decode cX0_isOpen 19 = .ok (.iaload, 1) := by decide +kernel
theorem dX0_isOpen_20 : decode cX0_isOpen 20 = .ok (.aload_n 0, 1) := by decide +kernel
theorem dX0_isOpen_21 : decode cX0_isOpen 21 = .ok (.getfield 27, 3) := by decide +kernel
theorem dX0_isOpen_24 : decode cX0_isOpen 24 = .ok (.iload_n 1, 1) := by decide +kernel
theorem dX0_isOpen_25 : decode cX0_isOpen 25 = .ok (.iaload, 1) := by decide +kernel
theorem dX0_isOpen_26 : decode cX0_isOpen 26 = .ok (.invokestatic 45, 3) := by decide +kernel
theorem dX0_isOpen_29 : decode cX0_isOpen 29 = .ok (.ifCond .eq 7, 3) := by decide +kernel
theorem dX0_isOpen_32 : decode cX0_isOpen 32 = .ok (.iconst 1, 1) := by decide +kernel
theorem dX0_isOpen_33 : decode cX0_isOpen 33 = .ok (.goto 4, 3) := by decide +kernel
theorem dX0_isOpen_36 : decode cX0_isOpen 36 = .ok (.iconst 0, 1) := by decide +kernel
theorem dX0_isOpen_37 : decode cX0_isOpen 37 = .ok (.ireturn, 1) := by decide +kernel
theorem dX0_openBits_0 : decode cX0_openBits 0 = .ok (.iconst 0, 1) := by decide +kernel
theorem dX0_openBits_1 : decode cX0_openBits 1 = .ok (.istore_n 1, 1) := by decide +kernel
theorem dX0_openBits_2 : decode cX0_openBits 2 = .ok (.iconst 0, 1) := by decide +kernel
theorem dX0_openBits_3 : decode cX0_openBits 3 = .ok (.istore_n 2, 1) := by decide +kernel
theorem dX0_openBits_4 : decode cX0_openBits 4 = .ok (.iload_n 2, 1) := by decide +kernel
theorem dX0_openBits_5 : decode cX0_openBits 5 = .ok (.aload_n 0, 1) := by decide +kernel
theorem dX0_openBits_6 : decode cX0_openBits 6 = .ok (.getfield 36, 3) := by decide +kernel
theorem dX0_openBits_9 : decode cX0_openBits 9 = .ok (.if_icmp .ge 23, 3) := by decide +kernel
theorem dX0_openBits_12 : decode cX0_openBits 12 = .ok (.aload_n 0, 1) := by decide +kernel
theorem dX0_openBits_13 : decode cX0_openBits 13 = .ok (.iload_n 2, 1) := by decide +kernel
theorem dX0_openBits_14 : decode cX0_openBits 14 = .ok (.invokevirtual 49, 3) := by decide +kernel
theorem dX0_openBits_17 : decode cX0_openBits 17 = .ok (.ifCond .eq 9, 3) := by decide +kernel
theorem dX0_openBits_20 : decode cX0_openBits 20 = .ok (.iload_n 1, 1) := by decide +kernel
theorem dX0_openBits_21 : decode cX0_openBits 21 = .ok (.iconst 1, 1) := by decide +kernel
theorem dX0_openBits_22 : decode cX0_openBits 22 = .ok (.iload_n 2, 1) := by decide +kernel
theorem dX0_openBits_23 : decode cX0_openBits 23 = .ok (.ishl, 1) := by decide +kernel
theorem dX0_openBits_24 : decode cX0_openBits 24 = .ok (.ior, 1) := by decide +kernel
theorem dX0_openBits_25 : decode cX0_openBits 25 = .ok (.istore_n 1, 1) := by decide +kernel
theorem dX0_openBits_26 : decode cX0_openBits 26 = .ok (.iinc 2 1, 3) := by decide +kernel
theorem dX0_openBits_29 : decode cX0_openBits 29 = .ok (.goto (-25), 3) := by decide +kernel
theorem dX0_openBits_32 : decode cX0_openBits 32 = .ok (.iload_n 1, 1) := by decide +kernel
theorem dX0_openBits_33 : decode cX0_openBits 33 = .ok (.ireturn, 1) := by decide +kernel
theorem dX0_upper_0 : decode cX0_upper 0 = .ok (.aload_n 0, 1) := by decide +kernel
theorem dX0_upper_1 : decode cX0_upper 1 = .ok (.iload_n 1, 1) := by decide +kernel
theorem dX0_upper_2 : decode cX0_upper 2 = .ok (.invokevirtual 41, 3) := by decide +kernel
theorem dX0_upper_5 : decode cX0_upper 5 = .ok (.ifCond .eq 21, 3) := by decide +kernel
theorem dX0_upper_8 : decode cX0_upper 8 = .ok (.aload_n 0, 1) := by decide +kernel
theorem dX0_upper_9 : decode cX0_upper 9 = .ok (.getfield 21, 3) := by decide +kernel
theorem dX0_upper_12 : decode cX0_upper 12 = .ok (.iload_n 1, 1) := by decide +kernel
theorem dX0_upper_13 : decode cX0_upper 13 = .ok (.iaload, 1) := by decide +kernel
theorem dX0_upper_14 : decode cX0_upper 14 = .ok (.aload_n 0, 1) := by decide +kernel
theorem dX0_upper_15 : decode cX0_upper 15 = .ok (.getfield 33, 3) := by decide +kernel
theorem dX0_upper_18 : decode cX0_upper 18 = .ok (.iconst 0, 1) := by decide +kernel
theorem dX0_upper_19 : decode cX0_upper 19 = .ok (.iaload, 1) := by decide +kernel
theorem dX0_upper_20 : decode cX0_upper 20 = .ok (.invokestatic 52, 3) := by decide +kernel
theorem dX0_upper_23 : decode cX0_upper 23 = .ok (.goto 4, 3) := by decide +kernel
theorem dX0_upper_26 : decode cX0_upper 26 = .ok (.iconst 1, 1) := by decide +kernel
theorem dX0_upper_27 : decode cX0_upper 27 = .ok (.ireturn, 1) := by decide +kernel
theorem dX0_wholes_0 : decode cX0_wholes 0 = .ok (.aload_n 0, 1) := by decide +kernel
theorem dX0_wholes_1 : decode cX0_wholes 1 = .ok (.iload_n 1, 1) := by decide +kernel
theorem dX0_wholes_2 : decode cX0_wholes 2 = .ok (.invokevirtual 41, 3) := by decide +kernel
theorem dX0_wholes_5 : decode cX0_wholes 5 = .ok (.ifCond .eq 32, 3) := by decide +kernel
theorem dX0_wholes_8 : decode cX0_wholes 8 = .ok (.aload_n 0, 1) := by decide +kernel
theorem dX0_wholes_9 : decode cX0_wholes 9 = .ok (.getfield 15, 3) := by decide +kernel
theorem dX0_wholes_12 : decode cX0_wholes 12 = .ok (.iload_n 1, 1) := by decide +kernel
theorem dX0_wholes_13 : decode cX0_wholes 13 = .ok (.iaload, 1) := by decide +kernel
theorem dX0_wholes_14 : decode cX0_wholes 14 = .ok (.ifCond .le 23, 3) := by decide +kernel
theorem dX0_wholes_17 : decode cX0_wholes 17 = .ok (.iload_n 2, 1) := by decide +kernel
theorem dX0_wholes_18 : decode cX0_wholes 18 = .ok (.aload_n 0, 1) := by decide +kernel
theorem dX0_wholes_19 : decode cX0_wholes 19 = .ok (.getfield 30, 3) := by decide +kernel
theorem dX0_wholes_22 : decode cX0_wholes 22 = .ok (.iload_n 1, 1) := by decide +kernel
theorem dX0_wholes_23 : decode cX0_wholes 23 = .ok (.iaload, 1) := by decide +kernel
theorem dX0_wholes_24 : decode cX0_wholes 24 = .ok (.invokestatic 56, 3) := by decide +kernel
theorem dX0_wholes_27 : decode cX0_wholes 27 = .ok (.aload_n 0, 1) := by decide +kernel
theorem dX0_wholes_28 : decode cX0_wholes 28 = .ok (.getfield 15, 3) := by decide +kernel
theorem dX0_wholes_31 : decode cX0_wholes 31 = .ok (.iload_n 1, 1) := by decide +kernel
theorem dX0_wholes_32 : decode cX0_wholes 32 = .ok (.iaload, 1) := by decide +kernel
theorem dX0_wholes_33 : decode cX0_wholes 33 = .ok (.idiv, 1) := by decide +kernel
theorem dX0_wholes_34 : decode cX0_wholes 34 = .ok (.goto 4, 3) := by decide +kernel
theorem dX0_wholes_37 : decode cX0_wholes 37 = .ok (.iconst 0, 1) := by decide +kernel
theorem dX0_wholes_38 : decode cX0_wholes 38 = .ok (.ireturn, 1) := by decide +kernel
theorem dX0_heapBehind_0 : decode cX0_heapBehind 0 = .ok (.aload_n 0, 1) := by decide +kernel
theorem dX0_heapBehind_1 : decode cX0_heapBehind 1 = .ok (.iload_n 1, 1) := by decide +kernel
theorem dX0_heapBehind_2 : decode cX0_heapBehind 2 = .ok (.iload_n 2, 1) := by decide +kernel
theorem dX0_heapBehind_3 : decode cX0_heapBehind 3 = .ok (.invokevirtual 61, 3) := by decide +kernel
theorem dX0_heapBehind_6 : decode cX0_heapBehind 6 = .ok (.aload_n 0, 1) := by decide +kernel
theorem dX0_heapBehind_7 : decode cX0_heapBehind 7 = .ok (.iload_n 1, 1) := by decide +kernel
theorem dX0_heapBehind_8 : decode cX0_heapBehind 8 = .ok (.invokevirtual 64, 3) := by decide +kernel
theorem dX0_heapBehind_11 : decode cX0_heapBehind 11 = .ok (.imul, 1) := by decide +kernel
theorem dX0_heapBehind_12 : decode cX0_heapBehind 12 = .ok (.ireturn, 1) := by decide +kernel
theorem dX1_init_0 : decode cX1_init 0 = .ok (.aload_n 0, 1) := by decide +kernel
theorem dX1_init_1 : decode cX1_init 1 = .ok (.invokespecial 3, 3) := by decide +kernel
theorem dX1_init_4 : decode cX1_init 4 = .ok (.aload_n 0, 1) := by decide +kernel
theorem dX1_init_5 : decode cX1_init 5 = .ok (.bipush 6, 2) := by decide +kernel
theorem dX1_init_7 : decode cX1_init 7 = .ok (.bipush 8, 2) := by decide +kernel
theorem dX1_init_9 : decode cX1_init 9 = .ok (.multianewarray 9 2, 4) := by decide +kernel
theorem dX1_init_13 : decode cX1_init 13 = .ok (.putfield 11, 3) := by decide +kernel
theorem dX1_init_16 : decode cX1_init 16 = .ok (.aload_n 0, 1) := by decide +kernel
theorem dX1_init_17 : decode cX1_init 17 = .ok (.bipush 6, 2) := by decide +kernel
theorem dX1_init_19 : decode cX1_init 19 = .ok (.bipush 8, 2) := by decide +kernel
theorem dX1_init_21 : decode cX1_init 21 = .ok (.multianewarray 9 2, 4) := by decide +kernel
theorem dX1_init_25 : decode cX1_init 25 = .ok (.putfield 16, 3) := by decide +kernel
theorem dX1_init_28 : decode cX1_init 28 = .ok (.return_, 1) := by decide +kernel
theorem dX1_goAll_0 : decode cX1_goAll 0 = .ok (.iconst 0, 1) := by decide +kernel
theorem dX1_goAll_1 : decode cX1_goAll 1 = .ok (.istore 5, 2) := by decide +kernel
theorem dX1_goAll_3 : decode cX1_goAll 3 = .ok (.iload 5, 2) := by decide +kernel
theorem dX1_goAll_5 : decode cX1_goAll 5 = .ok (.iload 4, 2) := by decide +kernel
theorem dX1_goAll_7 : decode cX1_goAll 7 = .ok (.if_icmp .gt 153, 3) := by decide +kernel
theorem dX1_goAll_10 : decode cX1_goAll 10 = .ok (.iload 5, 2) := by decide +kernel
theorem dX1_goAll_12 : decode cX1_goAll 12 = .ok (.iconst 5, 1) := by decide +kernel
theorem dX1_goAll_13 : decode cX1_goAll 13 = .ok (.if_icmp .gt 147, 3) := by decide +kernel
theorem dX1_goAll_16 : decode cX1_goAll 16 = .ok (.iconst 0, 1) := by decide +kernel
theorem dX1_goAll_17 : decode cX1_goAll 17 = .ok (.istore 6, 2) := by decide +kernel
theorem dX1_goAll_19 : decode cX1_goAll 19 = .ok (.iload 6, 2) := by decide +kernel
theorem dX1_goAll_21 : decode cX1_goAll 21 = .ok (.bipush 8, 2) := by decide +kernel
theorem dX1_goAll_23 : decode cX1_goAll 23 = .ok (.if_icmp .ge 35, 3) := by decide +kernel
theorem dX1_goAll_26 : decode cX1_goAll 26 = .ok (.aload_n 0, 1) := by decide +kernel
theorem dX1_goAll_27 : decode cX1_goAll 27 = .ok (.getfield 11, 3) := by decide +kernel
theorem dX1_goAll_30 : decode cX1_goAll 30 = .ok (.iload 5, 2) := by decide +kernel
theorem dX1_goAll_32 : decode cX1_goAll 32 = .ok (.aaload, 1) := by decide +kernel
theorem dX1_goAll_33 : decode cX1_goAll 33 = .ok (.iload 6, 2) := by decide +kernel
theorem dX1_goAll_35 : decode cX1_goAll 35 = .ok (.iload 5, 2) := by decide +kernel
theorem dX1_goAll_37 : decode cX1_goAll 37 = .ok (.ifCond .ne 13, 3) := by decide +kernel
theorem dX1_goAll_40 : decode cX1_goAll 40 = .ok (.iload 6, 2) := by decide +kernel
theorem dX1_goAll_42 : decode cX1_goAll 42 = .ok (.iload_n 2, 1) := by decide +kernel
theorem dX1_goAll_43 : decode cX1_goAll 43 = .ok (.if_icmp .ne 7, 3) := by decide +kernel
theorem dX1_goAll_46 : decode cX1_goAll 46 = .ok (.iload_n 3, 1) := by decide +kernel
theorem dX1_goAll_47 : decode cX1_goAll 47 = .ok (.goto 4, 3) := by decide +kernel
theorem dX1_goAll_50 : decode cX1_goAll 50 = .ok (.iconst (-1), 1) := by decide +kernel
theorem dX1_goAll_51 : decode cX1_goAll 51 = .ok (.iastore, 1) := by decide +kernel
theorem dX1_goAll_52 : decode cX1_goAll 52 = .ok (.iinc 6 1, 3) := by decide +kernel
theorem dX1_goAll_55 : decode cX1_goAll 55 = .ok (.goto (-36), 3) := by decide +kernel
theorem dX1_goAll_58 : decode cX1_goAll 58 = .ok (.iconst 0, 1) := by decide +kernel
theorem dX1_goAll_59 : decode cX1_goAll 59 = .ok (.istore 6, 2) := by decide +kernel
theorem dX1_goAll_61 : decode cX1_goAll 61 = .ok (.iload 5, 2) := by decide +kernel
theorem dX1_goAll_63 : decode cX1_goAll 63 = .ok (.ifCond .le 91, 3) := by decide +kernel
theorem dX1_goAll_66 : decode cX1_goAll 66 = .ok (.iload 6, 2) := by decide +kernel
theorem dX1_goAll_68 : decode cX1_goAll 68 = .ok (.aload_n 1, 1) := by decide +kernel
theorem dX1_goAll_69 : decode cX1_goAll 69 = .ok (.getfield 19, 3) := by decide +kernel
theorem dX1_goAll_72 : decode cX1_goAll 72 = .ok (.if_icmp .ge 82, 3) := by decide +kernel
theorem dX1_goAll_75 : decode cX1_goAll 75 = .ok (.aload_n 0, 1) := by decide +kernel
theorem dX1_goAll_76 : decode cX1_goAll 76 = .ok (.getfield 11, 3) := by decide +kernel
theorem dX1_goAll_79 : decode cX1_goAll 79 = .ok (.iload 5, 2) := by decide +kernel
theorem dX1_goAll_81 : decode cX1_goAll 81 = .ok (.iconst 1, 1) := by decide +kernel
theorem dX1_goAll_82 : decode cX1_goAll 82 = .ok (.isub, 1) := by decide +kernel
theorem dX1_goAll_83 : decode cX1_goAll 83 = .ok (.aaload, 1) := by decide +kernel
theorem dX1_goAll_84 : decode cX1_goAll 84 = .ok (.aload_n 1, 1) := by decide +kernel
theorem dX1_goAll_85 : decode cX1_goAll 85 = .ok (.getfield 25, 3) := by decide +kernel
theorem dX1_goAll_88 : decode cX1_goAll 88 = .ok (.iload 6, 2) := by decide +kernel
theorem dX1_goAll_90 : decode cX1_goAll 90 = .ok (.iaload, 1) := by decide +kernel
theorem dX1_goAll_91 : decode cX1_goAll 91 = .ok (.iaload, 1) := by decide +kernel
theorem dX1_goAll_92 : decode cX1_goAll 92 = .ok (.istore 7, 2) := by decide +kernel
theorem dX1_goAll_94 : decode cX1_goAll 94 = .ok (.aload_n 1, 1) := by decide +kernel
theorem dX1_goAll_95 : decode cX1_goAll 95 = .ok (.getfield 29, 3) := by decide +kernel
theorem dX1_goAll_98 : decode cX1_goAll 98 = .ok (.iload 6, 2) := by decide +kernel
theorem dX1_goAll_100 : decode cX1_goAll 100 = .ok (.iaload, 1) := by decide +kernel
theorem dX1_goAll_101 : decode cX1_goAll 101 = .ok (.istore 8, 2) := by decide +kernel
theorem dX1_goAll_103 : decode cX1_goAll 103 = .ok (.iload 7, 2) := by decide +kernel
theorem dX1_goAll_105 : decode cX1_goAll 105 = .ok (.ifCond .lt 43, 3) := by decide +kernel
theorem dX1_goAll_108 : decode cX1_goAll 108 = .ok (.aload_n 1, 1) := by decide +kernel
theorem dX1_goAll_109 : decode cX1_goAll 109 = .ok (.iload 6, 2) := by decide +kernel
theorem dX1_goAll_111 : decode cX1_goAll 111 = .ok (.invokevirtual 32, 3) := by decide +kernel
theorem dX1_goAll_114 : decode cX1_goAll 114 = .ok (.ifCond .eq 34, 3) := by decide +kernel
theorem dX1_goAll_117 : decode cX1_goAll 117 = .ok (.aload_n 0, 1) := by decide +kernel
theorem dX1_goAll_118 : decode cX1_goAll 118 = .ok (.getfield 11, 3) := by decide +kernel
theorem dX1_goAll_121 : decode cX1_goAll 121 = .ok (.iload 5, 2) := by decide +kernel
theorem dX1_goAll_123 : decode cX1_goAll 123 = .ok (.aaload, 1) := by decide +kernel
theorem dX1_goAll_124 : decode cX1_goAll 124 = .ok (.iload 8, 2) := by decide +kernel
theorem dX1_goAll_126 : decode cX1_goAll 126 = .ok (.aload_n 0, 1) := by decide +kernel
theorem dX1_goAll_127 : decode cX1_goAll 127 = .ok (.getfield 11, 3) := by decide +kernel
theorem dX1_goAll_130 : decode cX1_goAll 130 = .ok (.iload 5, 2) := by decide +kernel
theorem dX1_goAll_132 : decode cX1_goAll 132 = .ok (.aaload, 1) := by decide +kernel
theorem dX1_goAll_133 : decode cX1_goAll 133 = .ok (.iload 8, 2) := by decide +kernel
theorem dX1_goAll_135 : decode cX1_goAll 135 = .ok (.iaload, 1) := by decide +kernel
theorem dX1_goAll_136 : decode cX1_goAll 136 = .ok (.aload_n 1, 1) := by decide +kernel
theorem dX1_goAll_137 : decode cX1_goAll 137 = .ok (.iload 6, 2) := by decide +kernel
theorem dX1_goAll_139 : decode cX1_goAll 139 = .ok (.iload 7, 2) := by decide +kernel
theorem dX1_goAll_141 : decode cX1_goAll 141 = .ok (.invokevirtual 36, 3) := by decide +kernel
theorem dX1_goAll_144 : decode cX1_goAll 144 = .ok (.invokestatic 40, 3) := by decide +kernel
theorem dX1_goAll_147 : decode cX1_goAll 147 = .ok (.iastore, 1) := by decide +kernel
theorem dX1_goAll_148 : decode cX1_goAll 148 = .ok (.iinc 6 1, 3) := by decide +kernel
theorem dX1_goAll_151 : decode cX1_goAll 151 = .ok (.goto (-90), 3) := by decide +kernel
theorem dX1_goAll_154 : decode cX1_goAll 154 = .ok (.iinc 5 1, 3) := by decide +kernel
theorem dX1_goAll_157 : decode cX1_goAll 157 = .ok (.goto (-154), 3) := by decide +kernel
theorem dX1_goAll_160 : decode cX1_goAll 160 = .ok (.return_, 1) := by decide +kernel
theorem dX1_bestSteps_0 : decode cX1_bestSteps 0 = .ok (.iconst (-1), 1) := by decide +kernel
theorem dX1_bestSteps_1 : decode cX1_bestSteps 1 = .ok (.istore_n 3, 1) := by decide +kernel
theorem dX1_bestSteps_2 : decode cX1_bestSteps 2 = .ok (.iconst (-1), 1) := by decide +kernel
theorem dX1_bestSteps_3 : decode cX1_bestSteps 3 = .ok (.istore 4, 2) := by decide +kernel
theorem dX1_bestSteps_5 : decode cX1_bestSteps 5 = .ok (.iconst 0, 1) := by decide +kernel
theorem dX1_bestSteps_6 : decode cX1_bestSteps 6 = .ok (.istore 5, 2) := by decide +kernel
theorem dX1_bestSteps_8 : decode cX1_bestSteps 8 = .ok (.iload 5, 2) := by decide +kernel
theorem dX1_bestSteps_10 : decode cX1_bestSteps 10 = .ok (.iload_n 2, 1) := by decide +kernel
theorem dX1_bestSteps_11 : decode cX1_bestSteps 11 = .ok (.if_icmp .gt 43, 3) := by decide +kernel
theorem dX1_bestSteps_14 : decode cX1_bestSteps 14 = .ok (.iload 5, 2) := by decide +kernel
theorem dX1_bestSteps_16 : decode cX1_bestSteps 16 = .ok (.iconst 5, 1) := by decide +kernel
theorem dX1_bestSteps_17 : decode cX1_bestSteps 17 = .ok (.if_icmp .gt 37, 3) := by decide +kernel
theorem dX1_bestSteps_20 : decode cX1_bestSteps 20 = .ok (.aload_n 0, 1) := by decide +kernel
theorem dX1_bestSteps_21 : decode cX1_bestSteps 21 = .ok (.getfield 11, 3) := by decide +kernel
theorem dX1_bestSteps_24 : decode cX1_bestSteps 24 = .ok (.iload 5, 2) := by decide +kernel
theorem dX1_bestSteps_26 : decode cX1_bestSteps 26 = .ok (.aaload, 1) := by decide +kernel
theorem dX1_bestSteps_27 : decode cX1_bestSteps 27 = .ok (.iload_n 1, 1) := by decide +kernel
theorem dX1_bestSteps_28 : decode cX1_bestSteps 28 = .ok (.iaload, 1) := by decide +kernel
theorem dX1_bestSteps_29 : decode cX1_bestSteps 29 = .ok (.iload 4, 2) := by decide +kernel
theorem dX1_bestSteps_31 : decode cX1_bestSteps 31 = .ok (.if_icmp .le 17, 3) := by decide +kernel
theorem dX1_bestSteps_34 : decode cX1_bestSteps 34 = .ok (.aload_n 0, 1) := by decide +kernel
theorem dX1_bestSteps_35 : decode cX1_bestSteps 35 = .ok (.getfield 11, 3) := by decide +kernel
theorem dX1_bestSteps_38 : decode cX1_bestSteps 38 = .ok (.iload 5, 2) := by decide +kernel
theorem dX1_bestSteps_40 : decode cX1_bestSteps 40 = .ok (.aaload, 1) := by decide +kernel
theorem dX1_bestSteps_41 : decode cX1_bestSteps 41 = .ok (.iload_n 1, 1) := by decide +kernel
theorem dX1_bestSteps_42 : decode cX1_bestSteps 42 = .ok (.iaload, 1) := by decide +kernel
theorem dX1_bestSteps_43 : decode cX1_bestSteps 43 = .ok (.istore 4, 2) := by decide +kernel
theorem dX1_bestSteps_45 : decode cX1_bestSteps 45 = .ok (.iload 5, 2) := by decide +kernel
theorem dX1_bestSteps_47 : decode cX1_bestSteps 47 = .ok (.istore_n 3, 1) := by decide +kernel
theorem dX1_bestSteps_48 : decode cX1_bestSteps 48 = .ok (.iinc 5 1, 3) := by decide +kernel
theorem dX1_bestSteps_51 : decode cX1_bestSteps 51 = .ok (.goto (-43), 3) := by decide +kernel
theorem dX1_bestSteps_54 : decode cX1_bestSteps 54 = .ok (.iload_n 3, 1) := by decide +kernel
theorem dX1_bestSteps_55 : decode cX1_bestSteps 55 = .ok (.ireturn, 1) := by decide +kernel
theorem dX1_lookBack_0 : decode cX1_lookBack 0 = .ok (.iload_n 3, 1) := by decide +kernel
theorem dX1_lookBack_1 : decode cX1_lookBack 1 = .ok (.ifCond .lt 8, 3) := by decide +kernel
theorem dX1_lookBack_4 : decode cX1_lookBack 4 = .ok (.iload_n 3, 1) := by decide +kernel
theorem dX1_lookBack_5 : decode cX1_lookBack 5 = .ok (.iconst 5, 1) := by decide +kernel
theorem dX1_lookBack_6 : decode cX1_lookBack 6 = .ok (.if_icmp .le 4, 3) := by decide +kernel
theorem dX1_lookBack_9 : decode cX1_lookBack 9 = .ok (.return_, 1) := by decide +kernel
theorem dX1_lookBack_10 : decode cX1_lookBack 10 = .ok (.iload_n 3, 1) := by decide +kernel
theorem dX1_lookBack_11 : decode cX1_lookBack 11 = .ok (.istore 4, 2) := by decide +kernel
theorem dX1_lookBack_13 : decode cX1_lookBack 13 = .ok (.iload 4, 2) := by decide +kernel
theorem dX1_lookBack_15 : decode cX1_lookBack 15 = .ok (.ifCond .lt 152, 3) := by decide +kernel
theorem dX1_lookBack_18 : decode cX1_lookBack 18 = .ok (.iconst 0, 1) := by decide +kernel
theorem dX1_lookBack_19 : decode cX1_lookBack 19 = .ok (.istore 5, 2) := by decide +kernel
theorem dX1_lookBack_21 : decode cX1_lookBack 21 = .ok (.iload 5, 2) := by decide +kernel
theorem dX1_lookBack_23 : decode cX1_lookBack 23 = .ok (.bipush 8, 2) := by decide +kernel
theorem dX1_lookBack_25 : decode cX1_lookBack 25 = .ok (.if_icmp .ge 44, 3) := by decide +kernel
theorem dX1_lookBack_28 : decode cX1_lookBack 28 = .ok (.aload_n 0, 1) := by decide +kernel
theorem dX1_lookBack_29 : decode cX1_lookBack 29 = .ok (.getfield 16, 3) := by decide +kernel
theorem dX1_lookBack_32 : decode cX1_lookBack 32 = .ok (.iload 4, 2) := by decide +kernel
theorem dX1_lookBack_34 : decode cX1_lookBack 34 = .ok (.aaload, 1) := by decide +kernel
theorem dX1_lookBack_35 : decode cX1_lookBack 35 = .ok (.iload 5, 2) := by decide +kernel
theorem dX1_lookBack_37 : decode cX1_lookBack 37 = .ok (.iload 4, 2) := by decide +kernel
theorem dX1_lookBack_39 : decode cX1_lookBack 39 = .ok (.iload_n 3, 1) := by decide +kernel
theorem dX1_lookBack_40 : decode cX1_lookBack 40 = .ok (.if_icmp .ne 20, 3) := by decide +kernel
theorem dX1_lookBack_43 : decode cX1_lookBack 43 = .ok (.iload 5, 2) := by decide +kernel
theorem dX1_lookBack_45 : decode cX1_lookBack 45 = .ok (.iload_n 2, 1) := by decide +kernel
theorem dX1_lookBack_46 : decode cX1_lookBack 46 = .ok (.if_icmp .ne 14, 3) := by decide +kernel
theorem dX1_lookBack_49 : decode cX1_lookBack 49 = .ok (.aload_n 0, 1) := by decide +kernel
theorem dX1_lookBack_50 : decode cX1_lookBack 50 = .ok (.getfield 11, 3) := by decide +kernel
theorem dX1_lookBack_53 : decode cX1_lookBack 53 = .ok (.iload_n 3, 1) := by decide +kernel
theorem dX1_lookBack_54 : decode cX1_lookBack 54 = .ok (.aaload, 1) := by decide +kernel
theorem dX1_lookBack_55 : decode cX1_lookBack 55 = .ok (.iload_n 2, 1) := by decide +kernel
theorem dX1_lookBack_56 : decode cX1_lookBack 56 = .ok (.iaload, 1) := by decide +kernel
theorem dX1_lookBack_57 : decode cX1_lookBack 57 = .ok (.goto 5, 3) := by decide +kernel
theorem dX1_lookBack_60 : decode cX1_lookBack 60 = .ok (.ldc 45, 2) := by decide +kernel
theorem dX1_lookBack_62 : decode cX1_lookBack 62 = .ok (.iastore, 1) := by decide +kernel
theorem dX1_lookBack_63 : decode cX1_lookBack 63 = .ok (.iinc 5 1, 3) := by decide +kernel
theorem dX1_lookBack_66 : decode cX1_lookBack 66 = .ok (.goto (-45), 3) := by decide +kernel
theorem dX1_lookBack_69 : decode cX1_lookBack 69 = .ok (.iconst 0, 1) := by decide +kernel
theorem dX1_lookBack_70 : decode cX1_lookBack 70 = .ok (.istore 5, 2) := by decide +kernel
theorem dX1_lookBack_72 : decode cX1_lookBack 72 = .ok (.iload 4, 2) := by decide +kernel
theorem dX1_lookBack_74 : decode cX1_lookBack 74 = .ok (.iload_n 3, 1) := by decide +kernel
theorem dX1_lookBack_75 : decode cX1_lookBack 75 = .ok (.if_icmp .ge 86, 3) := by decide +kernel
theorem dX1_lookBack_78 : decode cX1_lookBack 78 = .ok (.iload 5, 2) := by decide +kernel
theorem dX1_lookBack_80 : decode cX1_lookBack 80 = .ok (.aload_n 1, 1) := by decide +kernel
theorem dX1_lookBack_81 : decode cX1_lookBack 81 = .ok (.getfield 19, 3) := by decide +kernel
theorem dX1_lookBack_84 : decode cX1_lookBack 84 = .ok (.if_icmp .ge 77, 3) := by decide +kernel
theorem dX1_lookBack_87 : decode cX1_lookBack 87 = .ok (.aload_n 1, 1) := by decide +kernel
theorem dX1_lookBack_88 : decode cX1_lookBack 88 = .ok (.getfield 25, 3) := by decide +kernel
theorem dX1_lookBack_91 : decode cX1_lookBack 91 = .ok (.iload 5, 2) := by decide +kernel
theorem dX1_lookBack_93 : decode cX1_lookBack 93 = .ok (.iaload, 1) := by decide +kernel
theorem dX1_lookBack_94 : decode cX1_lookBack 94 = .ok (.istore 6, 2) := by decide +kernel
theorem dX1_lookBack_96 : decode cX1_lookBack 96 = .ok (.aload_n 1, 1) := by decide +kernel
theorem dX1_lookBack_97 : decode cX1_lookBack 97 = .ok (.iload 5, 2) := by decide +kernel
theorem dX1_lookBack_99 : decode cX1_lookBack 99 = .ok (.invokevirtual 32, 3) := by decide +kernel
theorem dX1_lookBack_102 : decode cX1_lookBack 102 = .ok (.ifCond .eq 53, 3) := by decide +kernel
theorem dX1_lookBack_105 : decode cX1_lookBack 105 = .ok (.aload_n 1, 1) := by decide +kernel
theorem dX1_lookBack_106 : decode cX1_lookBack 106 = .ok (.iload 5, 2) := by decide +kernel
theorem dX1_lookBack_108 : decode cX1_lookBack 108 = .ok (.aload_n 0, 1) := by decide +kernel
theorem dX1_lookBack_109 : decode cX1_lookBack 109 = .ok (.getfield 16, 3) := by decide +kernel
theorem dX1_lookBack_112 : decode cX1_lookBack 112 = .ok (.iload 4, 2) := by decide +kernel
theorem dX1_lookBack_114 : decode cX1_lookBack 114 = .ok (.iconst 1, 1) := by decide +kernel
theorem dX1_lookBack_115 : decode cX1_lookBack 115 = .ok (.iadd, 1) := by decide +kernel
theorem dX1_lookBack_116 : decode cX1_lookBack 116 = .ok (.aaload, 1) := by decide +kernel
theorem dX1_lookBack_117 : decode cX1_lookBack 117 = .ok (.aload_n 1, 1) := by decide +kernel
theorem dX1_lookBack_118 : decode cX1_lookBack 118 = .ok (.getfield 29, 3) := by decide +kernel
theorem dX1_lookBack_121 : decode cX1_lookBack 121 = .ok (.iload 5, 2) := by decide +kernel
theorem dX1_lookBack_123 : decode cX1_lookBack 123 = .ok (.iaload, 1) := by decide +kernel
theorem dX1_lookBack_124 : decode cX1_lookBack 124 = .ok (.iaload, 1) := by decide +kernel
theorem dX1_lookBack_125 : decode cX1_lookBack 125 = .ok (.invokestatic 46, 3) := by decide +kernel
theorem dX1_lookBack_128 : decode cX1_lookBack 128 = .ok (.istore 7, 2) := by decide +kernel
theorem dX1_lookBack_130 : decode cX1_lookBack 130 = .ok (.aload_n 0, 1) := by decide +kernel
theorem dX1_lookBack_131 : decode cX1_lookBack 131 = .ok (.getfield 16, 3) := by decide +kernel
theorem dX1_lookBack_134 : decode cX1_lookBack 134 = .ok (.iload 4, 2) := by decide +kernel
theorem dX1_lookBack_136 : decode cX1_lookBack 136 = .ok (.aaload, 1) := by decide +kernel
theorem dX1_lookBack_137 : decode cX1_lookBack 137 = .ok (.iload 6, 2) := by decide +kernel
theorem dX1_lookBack_139 : decode cX1_lookBack 139 = .ok (.aload_n 0, 1) := by decide +kernel
theorem dX1_lookBack_140 : decode cX1_lookBack 140 = .ok (.getfield 16, 3) := by decide +kernel
theorem dX1_lookBack_143 : decode cX1_lookBack 143 = .ok (.iload 4, 2) := by decide +kernel
theorem dX1_lookBack_145 : decode cX1_lookBack 145 = .ok (.aaload, 1) := by decide +kernel
theorem dX1_lookBack_146 : decode cX1_lookBack 146 = .ok (.iload 6, 2) := by decide +kernel
theorem dX1_lookBack_148 : decode cX1_lookBack 148 = .ok (.iaload, 1) := by decide +kernel
theorem dX1_lookBack_149 : decode cX1_lookBack 149 = .ok (.iload 7, 2) := by decide +kernel
theorem dX1_lookBack_151 : decode cX1_lookBack 151 = .ok (.invokestatic 50, 3) := by decide +kernel
theorem dX1_lookBack_154 : decode cX1_lookBack 154 = .ok (.iastore, 1) := by decide +kernel
theorem dX1_lookBack_155 : decode cX1_lookBack 155 = .ok (.iinc 5 1, 3) := by decide +kernel
theorem dX1_lookBack_158 : decode cX1_lookBack 158 = .ok (.goto (-86), 3) := by decide +kernel
theorem dX1_lookBack_161 : decode cX1_lookBack 161 = .ok (.iinc 4 (-1), 3) := by decide +kernel
theorem dX1_lookBack_164 : decode cX1_lookBack 164 = .ok (.goto (-151), 3) := by decide +kernel
theorem dX1_lookBack_167 : decode cX1_lookBack 167 = .ok (.return_, 1) := by decide +kernel
theorem dX1_neededAhead_0 : decode cX1_neededAhead 0 = .ok (.aload_n 0, 1) := by decide +kernel
theorem dX1_neededAhead_1 : decode cX1_neededAhead 1 = .ok (.iload_n 1, 1) := by decide +kernel
theorem dX1_neededAhead_2 : decode cX1_neededAhead 2 = .ok (.invokevirtual 53, 3) := by decide +kernel
theorem dX1_neededAhead_5 : decode cX1_neededAhead 5 = .ok (.istore_n 3, 1) := by decide +kernel
theorem dX1_neededAhead_6 : decode cX1_neededAhead 6 = .ok (.iload_n 2, 1) := by decide +kernel
theorem dX1_neededAhead_7 : decode cX1_neededAhead 7 = .ok (.ldc 45, 2) := by decide +kernel
theorem dX1_neededAhead_9 : decode cX1_neededAhead 9 = .ok (.if_icmp .eq 8, 3) := by decide +kernel
theorem dX1_neededAhead_12 : decode cX1_neededAhead 12 = .ok (.iload_n 3, 1) := by decide +kernel
theorem dX1_neededAhead_13 : decode cX1_neededAhead 13 = .ok (.iconst 1, 1) := by decide +kernel
theorem dX1_neededAhead_14 : decode cX1_neededAhead 14 = .ok (.if_icmp .ge 6, 3) := by decide +kernel
theorem dX1_neededAhead_17 : decode cX1_neededAhead 17 = .ok (.ldc 45, 2) := by decide +kernel
theorem dX1_neededAhead_19 : decode cX1_neededAhead 19 = .ok (.ireturn, 1) := by decide +kernel
theorem dX1_neededAhead_20 : decode cX1_neededAhead 20 = .ok (.iload_n 2, 1) := by decide +kernel
theorem dX1_neededAhead_21 : decode cX1_neededAhead 21 = .ok (.iload_n 3, 1) := by decide +kernel
theorem dX1_neededAhead_22 : decode cX1_neededAhead 22 = .ok (.idiv, 1) := by decide +kernel
theorem dX1_neededAhead_23 : decode cX1_neededAhead 23 = .ok (.iload_n 2, 1) := by decide +kernel
theorem dX1_neededAhead_24 : decode cX1_neededAhead 24 = .ok (.iload_n 3, 1) := by decide +kernel
theorem dX1_neededAhead_25 : decode cX1_neededAhead 25 = .ok (.irem, 1) := by decide +kernel
theorem dX1_neededAhead_26 : decode cX1_neededAhead 26 = .ok (.ifCond .ne 7, 3) := by decide +kernel
theorem dX1_neededAhead_29 : decode cX1_neededAhead 29 = .ok (.iconst 0, 1) := by decide +kernel
theorem dX1_neededAhead_30 : decode cX1_neededAhead 30 = .ok (.goto 4, 3) := by decide +kernel
theorem dX1_neededAhead_33 : decode cX1_neededAhead 33 = .ok (.iconst 1, 1) := by decide +kernel
theorem dX1_neededAhead_34 : decode cX1_neededAhead 34 = .ok (.iadd, 1) := by decide +kernel
theorem dX1_neededAhead_35 : decode cX1_neededAhead 35 = .ok (.istore 4, 2) := by decide +kernel
theorem dX1_neededAhead_37 : decode cX1_neededAhead 37 = .ok (.iload 4, 2) := by decide +kernel
theorem dX1_neededAhead_39 : decode cX1_neededAhead 39 = .ok (.aload_n 0, 1) := by decide +kernel
theorem dX1_neededAhead_40 : decode cX1_neededAhead 40 = .ok (.iload_n 1, 1) := by decide +kernel
theorem dX1_neededAhead_41 : decode cX1_neededAhead 41 = .ok (.ldc 57, 2) := by decide +kernel
theorem dX1_neededAhead_43 : decode cX1_neededAhead 43 = .ok (.invokevirtual 58, 3) := by decide +kernel
theorem dX1_neededAhead_46 : decode cX1_neededAhead 46 = .ok (.if_icmp .le 8, 3) := by decide +kernel
theorem dX1_neededAhead_49 : decode cX1_neededAhead 49 = .ok (.ldc 45, 2) := by decide +kernel
theorem dX1_neededAhead_51 : decode cX1_neededAhead 51 = .ok (.goto 12, 3) := by decide +kernel
theorem dX1_neededAhead_54 : decode cX1_neededAhead 54 = .ok (.iload 4, 2) := by decide +kernel
theorem dX1_neededAhead_56 : decode cX1_neededAhead 56 = .ok (.aload_n 0, 1) := by decide +kernel
theorem dX1_neededAhead_57 : decode cX1_neededAhead 57 = .ok (.getfield 61, 3) := by decide +kernel
theorem dX1_neededAhead_60 : decode cX1_neededAhead 60 = .ok (.iload_n 1, 1) := by decide +kernel
theorem dX1_neededAhead_61 : decode cX1_neededAhead 61 = .ok (.iaload, 1) := by decide +kernel
theorem dX1_neededAhead_62 : decode cX1_neededAhead 62 = .ok (.imul, 1) := by decide +kernel
theorem dX1_neededAhead_63 : decode cX1_neededAhead 63 = .ok (.ireturn, 1) := by decide +kernel
theorem dX1_boardOnWay_0 : decode cX1_boardOnWay 0 = .ok (.iload_n 2, 1) := by decide +kernel
theorem dX1_boardOnWay_1 : decode cX1_boardOnWay 1 = .ok (.istore 5, 2) := by decide +kernel
theorem dX1_boardOnWay_3 : decode cX1_boardOnWay 3 = .ok (.iload_n 3, 1) := by decide +kernel
theorem dX1_boardOnWay_4 : decode cX1_boardOnWay 4 = .ok (.istore 6, 2) := by decide +kernel
theorem dX1_boardOnWay_6 : decode cX1_boardOnWay 6 = .ok (.bipush (-6), 2) := by decide +kernel
theorem dX1_boardOnWay_8 : decode cX1_boardOnWay 8 = .ok (.istore 7, 2) := by decide +kernel
theorem dX1_boardOnWay_10 : decode cX1_boardOnWay 10 = .ok (.iconst 0, 1) := by decide +kernel
theorem dX1_boardOnWay_11 : decode cX1_boardOnWay 11 = .ok (.istore 8, 2) := by decide +kernel
theorem dX1_boardOnWay_13 : decode cX1_boardOnWay 13 = .ok (.iload 8, 2) := by decide +kernel
theorem dX1_boardOnWay_15 : decode cX1_boardOnWay 15 = .ok (.iload 4, 2) := by decide +kernel
theorem dX1_boardOnWay_17 : decode cX1_boardOnWay 17 = .ok (.if_icmp .gt 55, 3) := by decide +kernel
theorem dX1_boardOnWay_20 : decode cX1_boardOnWay 20 = .ok (.iload 8, 2) := by decide +kernel
theorem dX1_boardOnWay_22 : decode cX1_boardOnWay 22 = .ok (.iconst 5, 1) := by decide +kernel
theorem dX1_boardOnWay_23 : decode cX1_boardOnWay 23 = .ok (.if_icmp .ge 49, 3) := by decide +kernel
theorem dX1_boardOnWay_26 : decode cX1_boardOnWay 26 = .ok (.aload_n 0, 1) := by decide +kernel
theorem dX1_boardOnWay_27 : decode cX1_boardOnWay 27 = .ok (.aload_n 1, 1) := by decide +kernel
theorem dX1_boardOnWay_28 : decode cX1_boardOnWay 28 = .ok (.iload 5, 2) := by decide +kernel
theorem dX1_boardOnWay_30 : decode cX1_boardOnWay 30 = .ok (.iload 6, 2) := by decide +kernel
theorem dX1_boardOnWay_32 : decode cX1_boardOnWay 32 = .ok (.iload 8, 2) := by decide +kernel
theorem dX1_boardOnWay_34 : decode cX1_boardOnWay 34 = .ok (.invokevirtual 64, 3) := by decide +kernel
theorem dX1_boardOnWay_37 : decode cX1_boardOnWay 37 = .ok (.istore 7, 2) := by decide +kernel
theorem dX1_boardOnWay_39 : decode cX1_boardOnWay 39 = .ok (.iload 7, 2) := by decide +kernel
theorem dX1_boardOnWay_41 : decode cX1_boardOnWay 41 = .ok (.ifCond .ge 6, 3) := by decide +kernel
theorem dX1_boardOnWay_44 : decode cX1_boardOnWay 44 = .ok (.bipush (-6), 2) := by decide +kernel
theorem dX1_boardOnWay_46 : decode cX1_boardOnWay 46 = .ok (.ireturn, 1) := by decide +kernel
theorem dX1_boardOnWay_47 : decode cX1_boardOnWay 47 = .ok (.aload_n 1, 1) := by decide +kernel
theorem dX1_boardOnWay_48 : decode cX1_boardOnWay 48 = .ok (.iload 7, 2) := by decide +kernel
theorem dX1_boardOnWay_50 : decode cX1_boardOnWay 50 = .ok (.iload 6, 2) := by decide +kernel
theorem dX1_boardOnWay_52 : decode cX1_boardOnWay 52 = .ok (.invokevirtual 36, 3) := by decide +kernel
theorem dX1_boardOnWay_55 : decode cX1_boardOnWay 55 = .ok (.istore 6, 2) := by decide +kernel
theorem dX1_boardOnWay_57 : decode cX1_boardOnWay 57 = .ok (.aload_n 1, 1) := by decide +kernel
theorem dX1_boardOnWay_58 : decode cX1_boardOnWay 58 = .ok (.getfield 29, 3) := by decide +kernel
theorem dX1_boardOnWay_61 : decode cX1_boardOnWay 61 = .ok (.iload 7, 2) := by decide +kernel
theorem dX1_boardOnWay_63 : decode cX1_boardOnWay 63 = .ok (.iaload, 1) := by decide +kernel
theorem dX1_boardOnWay_64 : decode cX1_boardOnWay 64 = .ok (.istore 5, 2) := by decide +kernel
theorem dX1_boardOnWay_66 : decode cX1_boardOnWay 66 = .ok (.iinc 8 1, 3) := by decide +kernel
theorem dX1_boardOnWay_69 : decode cX1_boardOnWay 69 = .ok (.goto (-56), 3) := by decide +kernel
theorem dX1_boardOnWay_72 : decode cX1_boardOnWay 72 = .ok (.iload 7, 2) := by decide +kernel
theorem dX1_boardOnWay_74 : decode cX1_boardOnWay 74 = .ok (.ireturn, 1) := by decide +kernel
theorem dX1_firstThatDoes_0 : decode cX1_firstThatDoes 0 = .ok (.iconst 0, 1) := by decide +kernel
theorem dX1_firstThatDoes_1 : decode cX1_firstThatDoes 1 = .ok (.istore 5, 2) := by decide +kernel
theorem dX1_firstThatDoes_3 : decode cX1_firstThatDoes 3 = .ok (.iload 5, 2) := by decide +kernel
theorem dX1_firstThatDoes_5 : decode cX1_firstThatDoes 5 = .ok (.aload_n 1, 1) := by decide +kernel
theorem dX1_firstThatDoes_6 : decode cX1_firstThatDoes 6 = .ok (.getfield 19, 3) := by decide +kernel
theorem dX1_firstThatDoes_9 : decode cX1_firstThatDoes 9 = .ok (.if_icmp .ge 59, 3) := by decide +kernel
theorem dX1_firstThatDoes_12 : decode cX1_firstThatDoes 12 = .ok (.aload_n 1, 1) := by decide +kernel
theorem dX1_firstThatDoes_13 : decode cX1_firstThatDoes 13 = .ok (.getfield 25, 3) := by decide +kernel
theorem dX1_firstThatDoes_16 : decode cX1_firstThatDoes 16 = .ok (.iload 5, 2) := by decide +kernel
theorem dX1_firstThatDoes_18 : decode cX1_firstThatDoes 18 = .ok (.iaload, 1) := by decide +kernel
theorem dX1_firstThatDoes_19 : decode cX1_firstThatDoes 19 = .ok (.iload_n 2, 1) := by decide +kernel
theorem dX1_firstThatDoes_20 : decode cX1_firstThatDoes 20 = .ok (.if_icmp .ne 42, 3) := by decide +kernel
theorem dX1_firstThatDoes_23 : decode cX1_firstThatDoes 23 = .ok (.aload_n 1, 1) := by decide +kernel
theorem dX1_firstThatDoes_24 : decode cX1_firstThatDoes 24 = .ok (.iload 5, 2) := by decide +kernel
theorem dX1_firstThatDoes_26 : decode cX1_firstThatDoes 26 = .ok (.invokevirtual 32, 3) := by decide +kernel
theorem dX1_firstThatDoes_29 : decode cX1_firstThatDoes 29 = .ok (.ifCond .eq 33, 3) := by decide +kernel
theorem dX1_firstThatDoes_32 : decode cX1_firstThatDoes 32 = .ok (.aload_n 1, 1) := by decide +kernel
theorem dX1_firstThatDoes_33 : decode cX1_firstThatDoes 33 = .ok (.iload 5, 2) := by decide +kernel
theorem dX1_firstThatDoes_35 : decode cX1_firstThatDoes 35 = .ok (.iload_n 3, 1) := by decide +kernel
theorem dX1_firstThatDoes_36 : decode cX1_firstThatDoes 36 = .ok (.invokevirtual 36, 3) := by decide +kernel
theorem dX1_firstThatDoes_39 : decode cX1_firstThatDoes 39 = .ok (.aload_n 0, 1) := by decide +kernel
theorem dX1_firstThatDoes_40 : decode cX1_firstThatDoes 40 = .ok (.getfield 16, 3) := by decide +kernel
theorem dX1_firstThatDoes_43 : decode cX1_firstThatDoes 43 = .ok (.iload 4, 2) := by decide +kernel
theorem dX1_firstThatDoes_45 : decode cX1_firstThatDoes 45 = .ok (.iconst 1, 1) := by decide +kernel
theorem dX1_firstThatDoes_46 : decode cX1_firstThatDoes 46 = .ok (.iadd, 1) := by decide +kernel
theorem dX1_firstThatDoes_47 : decode cX1_firstThatDoes 47 = .ok (.aaload, 1) := by decide +kernel
theorem dX1_firstThatDoes_48 : decode cX1_firstThatDoes 48 = .ok (.aload_n 1, 1) := by decide +kernel
theorem dX1_firstThatDoes_49 : decode cX1_firstThatDoes 49 = .ok (.getfield 29, 3) := by decide +kernel
theorem dX1_firstThatDoes_52 : decode cX1_firstThatDoes 52 = .ok (.iload 5, 2) := by decide +kernel
theorem dX1_firstThatDoes_54 : decode cX1_firstThatDoes 54 = .ok (.iaload, 1) := by decide +kernel
theorem dX1_firstThatDoes_55 : decode cX1_firstThatDoes 55 = .ok (.iaload, 1) := by decide +kernel
theorem dX1_firstThatDoes_56 : decode cX1_firstThatDoes 56 = .ok (.if_icmp .lt 6, 3) := by decide +kernel
theorem dX1_firstThatDoes_59 : decode cX1_firstThatDoes 59 = .ok (.iload 5, 2) := by decide +kernel
theorem dX1_firstThatDoes_61 : decode cX1_firstThatDoes 61 = .ok (.ireturn, 1) := by decide +kernel
theorem dX1_firstThatDoes_62 : decode cX1_firstThatDoes 62 = .ok (.iinc 5 1, 3) := by decide +kernel
theorem dX1_firstThatDoes_65 : decode cX1_firstThatDoes 65 = .ok (.goto (-62), 3) := by decide +kernel
theorem dX1_firstThatDoes_68 : decode cX1_firstThatDoes 68 = .ok (.bipush (-6), 2) := by decide +kernel
theorem dX1_firstThatDoes_70 : decode cX1_firstThatDoes 70 = .ok (.ireturn, 1) := by decide +kernel
theorem dX2_init_0 : decode cX2_init 0 = .ok (.aload_n 0, 1) := by decide +kernel
theorem dX2_init_1 : decode cX2_init 1 = .ok (.invokespecial 3, 3) := by decide +kernel
theorem dX2_init_4 : decode cX2_init 4 = .ok (.aload_n 0, 1) := by decide +kernel
theorem dX2_init_5 : decode cX2_init 5 = .ok (.sipush 150, 3) := by decide +kernel
theorem dX2_init_8 : decode cX2_init 8 = .ok (.newarray .long, 2) := by decide +kernel
theorem dX2_init_10 : decode cX2_init 10 = .ok (.putfield 9, 3) := by decide +kernel
theorem dX2_init_13 : decode cX2_init 13 = .ok (.aload_n 0, 1) := by decide +kernel
theorem dX2_init_14 : decode cX2_init 14 = .ok (.sipush 150, 3) := by decide +kernel
theorem dX2_init_17 : decode cX2_init 17 = .ok (.newarray .long, 2) := by decide +kernel
theorem dX2_init_19 : decode cX2_init 19 = .ok (.putfield 15, 3) := by decide +kernel
theorem dX2_init_22 : decode cX2_init 22 = .ok (.aload_n 0, 1) := by decide +kernel
theorem dX2_init_23 : decode cX2_init 23 = .ok (.sipush 150, 3) := by decide +kernel
theorem dX2_init_26 : decode cX2_init 26 = .ok (.newarray .int, 2) := by decide +kernel
theorem dX2_init_28 : decode cX2_init 28 = .ok (.putfield 18, 3) := by decide +kernel
theorem dX2_init_31 : decode cX2_init 31 = .ok (.aload_n 0, 1) := by decide +kernel
theorem dX2_init_32 : decode cX2_init 32 = .ok (.sipush 150, 3) := by decide +kernel
theorem dX2_init_35 : decode cX2_init 35 = .ok (.newarray .int, 2) := by decide +kernel
theorem dX2_init_37 : decode cX2_init 37 = .ok (.putfield 22, 3) := by decide +kernel
theorem dX2_init_40 : decode cX2_init 40 = .ok (.aload_n 0, 1) := by decide +kernel
theorem dX2_init_41 : decode cX2_init 41 = .ok (.bipush 12, 2) := by decide +kernel
theorem dX2_init_43 : decode cX2_init 43 = .ok (.newarray .int, 2) := by decide +kernel
theorem dX2_init_45 : decode cX2_init 45 = .ok (.putfield 25, 3) := by decide +kernel
theorem dX2_init_48 : decode cX2_init 48 = .ok (.aload_n 0, 1) := by decide +kernel
theorem dX2_init_49 : decode cX2_init 49 = .ok (.iconst 0, 1) := by decide +kernel
theorem dX2_init_50 : decode cX2_init 50 = .ok (.putfield 28, 3) := by decide +kernel
theorem dX2_init_53 : decode cX2_init 53 = .ok (.aload_n 0, 1) := by decide +kernel
theorem dX2_init_54 : decode cX2_init 54 = .ok (.iconst 0, 1) := by decide +kernel
theorem dX2_init_55 : decode cX2_init 55 = .ok (.putfield 32, 3) := by decide +kernel
theorem dX2_init_58 : decode cX2_init 58 = .ok (.aload_n 0, 1) := by decide +kernel
theorem dX2_init_59 : decode cX2_init 59 = .ok (.iconst 0, 1) := by decide +kernel
theorem dX2_init_60 : decode cX2_init 60 = .ok (.putfield 35, 3) := by decide +kernel
theorem dX2_init_63 : decode cX2_init 63 = .ok (.return_, 1) := by decide +kernel
theorem dX2_findAll_0 : decode cX2_findAll 0 = .ok (.aload_n 0, 1) := by decide +kernel
theorem dX2_findAll_1 : decode cX2_findAll 1 = .ok (.iconst 0, 1) := by decide +kernel
theorem dX2_findAll_2 : decode cX2_findAll 2 = .ok (.putfield 28, 3) := by decide +kernel
theorem dX2_findAll_5 : decode cX2_findAll 5 = .ok (.iconst 0, 1) := by decide +kernel
theorem dX2_findAll_6 : decode cX2_findAll 6 = .ok (.istore_n 2, 1) := by decide +kernel
theorem dX2_findAll_7 : decode cX2_findAll 7 = .ok (.iload_n 2, 1) := by decide +kernel
theorem dX2_findAll_8 : decode cX2_findAll 8 = .ok (.bipush 8, 2) := by decide +kernel
theorem dX2_findAll_10 : decode cX2_findAll 10 = .ok (.if_icmp .ge 21, 3) := by decide +kernel
theorem dX2_findAll_13 : decode cX2_findAll 13 = .ok (.aload_n 0, 1) := by decide +kernel
theorem dX2_findAll_14 : decode cX2_findAll 14 = .ok (.aload_n 1, 1) := by decide +kernel
theorem dX2_findAll_15 : decode cX2_findAll 15 = .ok (.iload_n 2, 1) := by decide +kernel
theorem dX2_findAll_16 : decode cX2_findAll 16 = .ok (.iload_n 2, 1) := by decide +kernel
theorem dX2_findAll_17 : decode cX2_findAll 17 = .ok (.iconst 1, 1) := by decide +kernel
theorem dX2_findAll_18 : decode cX2_findAll 18 = .ok (.iload_n 2, 1) := by decide +kernel
theorem dX2_findAll_19 : decode cX2_findAll 19 = .ok (.ishl, 1) := by decide +kernel
theorem dX2_findAll_20 : decode cX2_findAll 20 = .ok (.lconst 0, 1) := by decide +kernel
theorem dX2_findAll_21 : decode cX2_findAll 21 = .ok (.iconst 0, 1) := by decide +kernel
theorem dX2_findAll_22 : decode cX2_findAll 22 = .ok (.invokestatic 39, 3) := by decide +kernel
theorem dX2_findAll_25 : decode cX2_findAll 25 = .ok (.iinc 2 1, 3) := by decide +kernel
theorem dX2_findAll_28 : decode cX2_findAll 28 = .ok (.goto (-21), 3) := by decide +kernel
theorem dX2_findAll_31 : decode cX2_findAll 31 = .ok (.aload_n 0, 1) := by decide +kernel
theorem dX2_findAll_32 : decode cX2_findAll 32 = .ok (.iconst 0, 1) := by decide +kernel
theorem dX2_findAll_33 : decode cX2_findAll 33 = .ok (.putfield 32, 3) := by decide +kernel
theorem dX2_findAll_36 : decode cX2_findAll 36 = .ok (.iconst 0, 1) := by decide +kernel
theorem dX2_findAll_37 : decode cX2_findAll 37 = .ok (.istore_n 2, 1) := by decide +kernel
theorem dX2_findAll_38 : decode cX2_findAll 38 = .ok (.iload_n 2, 1) := by decide +kernel
theorem dX2_findAll_39 : decode cX2_findAll 39 = .ok (.aload_n 0, 1) := by decide +kernel
theorem dX2_findAll_40 : decode cX2_findAll 40 = .ok (.getfield 28, 3) := by decide +kernel
theorem dX2_findAll_43 : decode cX2_findAll 43 = .ok (.if_icmp .ge 47, 3) := by decide +kernel
theorem dX2_findAll_46 : decode cX2_findAll 46 = .ok (.aload_n 0, 1) := by decide +kernel
theorem dX2_findAll_47 : decode cX2_findAll 47 = .ok (.iload_n 2, 1) := by decide +kernel
theorem dX2_findAll_48 : decode cX2_findAll 48 = .ok (.aload_n 1, 1) := by decide +kernel
theorem dX2_findAll_49 : decode cX2_findAll 49 = .ok (.getfield 43, 3) := by decide +kernel
theorem dX2_findAll_52 : decode cX2_findAll 52 = .ok (.aload_n 1, 1) := by decide +kernel
theorem dX2_findAll_53 : decode cX2_findAll 53 = .ok (.getfield 48, 3) := by decide +kernel
theorem dX2_findAll_56 : decode cX2_findAll 56 = .ok (.iconst 0, 1) := by decide +kernel
theorem dX2_findAll_57 : decode cX2_findAll 57 = .ok (.iaload, 1) := by decide +kernel
theorem dX2_findAll_58 : decode cX2_findAll 58 = .ok (.invokevirtual 51, 3) := by decide +kernel
theorem dX2_findAll_61 : decode cX2_findAll 61 = .ok (.ifCond .eq 23, 3) := by decide +kernel
theorem dX2_findAll_64 : decode cX2_findAll 64 = .ok (.aload_n 0, 1) := by decide +kernel
theorem dX2_findAll_65 : decode cX2_findAll 65 = .ok (.getfield 22, 3) := by decide +kernel
theorem dX2_findAll_68 : decode cX2_findAll 68 = .ok (.aload_n 0, 1) := by decide +kernel
theorem dX2_findAll_69 : decode cX2_findAll 69 = .ok (.getfield 32, 3) := by decide +kernel
theorem dX2_findAll_72 : decode cX2_findAll 72 = .ok (.iload_n 2, 1) := by decide +kernel
theorem dX2_findAll_73 : decode cX2_findAll 73 = .ok (.iastore, 1) := by decide +kernel
theorem dX2_findAll_74 : decode cX2_findAll 74 = .ok (.aload_n 0, 1) := by decide +kernel
theorem dX2_findAll_75 : decode cX2_findAll 75 = .ok (.dup, 1) := by decide +kernel
theorem dX2_findAll_76 : decode cX2_findAll 76 = .ok (.getfield 32, 3) := by decide +kernel
theorem dX2_findAll_79 : decode cX2_findAll 79 = .ok (.iconst 1, 1) := by decide +kernel
theorem dX2_findAll_80 : decode cX2_findAll 80 = .ok (.iadd, 1) := by decide +kernel
theorem dX2_findAll_81 : decode cX2_findAll 81 = .ok (.putfield 32, 3) := by decide +kernel
theorem dX2_findAll_84 : decode cX2_findAll 84 = .ok (.iinc 2 1, 3) := by decide +kernel
theorem dX2_findAll_87 : decode cX2_findAll 87 = .ok (.goto (-49), 3) := by decide +kernel
theorem dX2_findAll_90 : decode cX2_findAll 90 = .ok (.aload_n 0, 1) := by decide +kernel
theorem dX2_findAll_91 : decode cX2_findAll 91 = .ok (.iconst 1, 1) := by decide +kernel
theorem dX2_findAll_92 : decode cX2_findAll 92 = .ok (.putfield 35, 3) := by decide +kernel
theorem dX2_findAll_95 : decode cX2_findAll 95 = .ok (.return_, 1) := by decide +kernel
theorem dX2_goOn_0 : decode cX2_goOn 0 = .ok (.iload 7, 2) := by decide +kernel
theorem dX2_goOn_2 : decode cX2_goOn 2 = .ok (.bipush 8, 2) := by decide +kernel
theorem dX2_goOn_4 : decode cX2_goOn 4 = .ok (.if_icmp .lt 4, 3) := by decide +kernel
theorem dX2_goOn_7 : decode cX2_goOn 7 = .ok (.return_, 1) := by decide +kernel
theorem dX2_goOn_8 : decode cX2_goOn 8 = .ok (.iconst 0, 1) := by decide +kernel
theorem dX2_goOn_9 : decode cX2_goOn 9 = .ok (.istore 8, 2) := by decide +kernel
theorem dX2_goOn_11 : decode cX2_goOn 11 = .ok (.iload 8, 2) := by decide +kernel
theorem dX2_goOn_13 : decode cX2_goOn 13 = .ok (.aload_n 1, 1) := by decide +kernel
theorem dX2_goOn_14 : decode cX2_goOn 14 = .ok (.getfield 55, 3) := by decide +kernel
theorem dX2_goOn_17 : decode cX2_goOn 17 = .ok (.if_icmp .ge 109, 3) := by decide +kernel
theorem dX2_goOn_20 : decode cX2_goOn 20 = .ok (.aload_n 1, 1) := by decide +kernel
theorem dX2_goOn_21 : decode cX2_goOn 21 = .ok (.getfield 56, 3) := by decide +kernel
theorem dX2_goOn_24 : decode cX2_goOn 24 = .ok (.iload 8, 2) := by decide +kernel
theorem dX2_goOn_26 : decode cX2_goOn 26 = .ok (.iaload, 1) := by decide +kernel
theorem dX2_goOn_27 : decode cX2_goOn 27 = .ok (.iload_n 3, 1) := by decide +kernel
theorem dX2_goOn_28 : decode cX2_goOn 28 = .ok (.if_icmp .ne 92, 3) := by decide +kernel
theorem dX2_goOn_31 : decode cX2_goOn 31 = .ok (.aload_n 1, 1) := by decide +kernel
theorem dX2_goOn_32 : decode cX2_goOn 32 = .ok (.iload 8, 2) := by decide +kernel
theorem dX2_goOn_34 : decode cX2_goOn 34 = .ok (.invokevirtual 59, 3) := by decide +kernel
theorem dX2_goOn_37 : decode cX2_goOn 37 = .ok (.ifCond .ne 6, 3) := by decide +kernel
theorem dX2_goOn_40 : decode cX2_goOn 40 = .ok (.goto 80, 3) := by decide +kernel
theorem dX2_goOn_43 : decode cX2_goOn 43 = .ok (.aload_n 1, 1) := by decide +kernel
theorem dX2_goOn_44 : decode cX2_goOn 44 = .ok (.getfield 63, 3) := by decide +kernel
theorem dX2_goOn_47 : decode cX2_goOn 47 = .ok (.iload 8, 2) := by decide +kernel
theorem dX2_goOn_49 : decode cX2_goOn 49 = .ok (.iaload, 1) := by decide +kernel
theorem dX2_goOn_50 : decode cX2_goOn 50 = .ok (.istore 9, 2) := by decide +kernel
theorem dX2_goOn_52 : decode cX2_goOn 52 = .ok (.lload 5, 2) := by decide +kernel
theorem dX2_goOn_54 : decode cX2_goOn 54 = .ok (.iload 8, 2) := by decide +kernel
theorem dX2_goOn_56 : decode cX2_goOn 56 = .ok (.i2l, 1) := by decide +kernel
theorem dX2_goOn_57 : decode cX2_goOn 57 = .ok (.lconst 1, 1) := by decide +kernel
theorem dX2_goOn_58 : decode cX2_goOn 58 = .ok (.ladd, 1) := by decide +kernel
theorem dX2_goOn_59 : decode cX2_goOn 59 = .ok (.iconst 4, 1) := by decide +kernel
theorem dX2_goOn_60 : decode cX2_goOn 60 = .ok (.iload 7, 2) := by decide +kernel
theorem dX2_goOn_62 : decode cX2_goOn 62 = .ok (.imul, 1) := by decide +kernel
theorem dX2_goOn_63 : decode cX2_goOn 63 = .ok (.lshl, 1) := by decide +kernel
theorem dX2_goOn_64 : decode cX2_goOn 64 = .ok (.lor, 1) := by decide +kernel
theorem dX2_goOn_65 : decode cX2_goOn 65 = .ok (.lstore 10, 2) := by decide +kernel
theorem dX2_goOn_67 : decode cX2_goOn 67 = .ok (.iload 9, 2) := by decide +kernel
theorem dX2_goOn_69 : decode cX2_goOn 69 = .ok (.iload_n 2, 1) := by decide +kernel
theorem dX2_goOn_70 : decode cX2_goOn 70 = .ok (.if_icmp .ne 13, 3) := by decide +kernel
theorem dX2_goOn_73 : decode cX2_goOn 73 = .ok (.aload_n 0, 1) := by decide +kernel
theorem dX2_goOn_74 : decode cX2_goOn 74 = .ok (.aload_n 1, 1) := by decide +kernel
theorem dX2_goOn_75 : decode cX2_goOn 75 = .ok (.lload 10, 2) := by decide +kernel
theorem dX2_goOn_77 : decode cX2_goOn 77 = .ok (.invokevirtual 66, 3) := by decide +kernel
theorem dX2_goOn_80 : decode cX2_goOn 80 = .ok (.goto 40, 3) := by decide +kernel
theorem dX2_goOn_83 : decode cX2_goOn 83 = .ok (.iload 9, 2) := by decide +kernel
theorem dX2_goOn_85 : decode cX2_goOn 85 = .ok (.iload_n 2, 1) := by decide +kernel
theorem dX2_goOn_86 : decode cX2_goOn 86 = .ok (.if_icmp .le 34, 3) := by decide +kernel
theorem dX2_goOn_89 : decode cX2_goOn 89 = .ok (.iload 4, 2) := by decide +kernel
theorem dX2_goOn_91 : decode cX2_goOn 91 = .ok (.iload 9, 2) := by decide +kernel
theorem dX2_goOn_93 : decode cX2_goOn 93 = .ok (.ishr, 1) := by decide +kernel
theorem dX2_goOn_94 : decode cX2_goOn 94 = .ok (.iconst 1, 1) := by decide +kernel
theorem dX2_goOn_95 : decode cX2_goOn 95 = .ok (.iand, 1) := by decide +kernel
theorem dX2_goOn_96 : decode cX2_goOn 96 = .ok (.ifCond .ne 24, 3) := by decide +kernel
theorem dX2_goOn_99 : decode cX2_goOn 99 = .ok (.aload_n 0, 1) := by decide +kernel
theorem dX2_goOn_100 : decode cX2_goOn 100 = .ok (.aload_n 1, 1) := by decide +kernel
theorem dX2_goOn_101 : decode cX2_goOn 101 = .ok (.iload_n 2, 1) := by decide +kernel
theorem dX2_goOn_102 : decode cX2_goOn 102 = .ok (.iload 9, 2) := by decide +kernel
theorem dX2_goOn_104 : decode cX2_goOn 104 = .ok (.iload 4, 2) := by decide +kernel
theorem dX2_goOn_106 : decode cX2_goOn 106 = .ok (.iconst 1, 1) := by decide +kernel
theorem dX2_goOn_107 : decode cX2_goOn 107 = .ok (.iload 9, 2) := by decide +kernel
theorem dX2_goOn_109 : decode cX2_goOn 109 = .ok (.ishl, 1) := by decide +kernel
theorem dX2_goOn_110 : decode cX2_goOn 110 = .ok (.ior, 1) := by decide +kernel
theorem dX2_goOn_111 : decode cX2_goOn 111 = .ok (.lload 10, 2) := by decide +kernel
theorem dX2_goOn_113 : decode cX2_goOn 113 = .ok (.iload 7, 2) := by decide +kernel
theorem dX2_goOn_115 : decode cX2_goOn 115 = .ok (.iconst 1, 1) := by decide +kernel
theorem dX2_goOn_116 : decode cX2_goOn 116 = .ok (.iadd, 1) := by decide +kernel
theorem dX2_goOn_117 : decode cX2_goOn 117 = .ok (.invokestatic 39, 3) := by decide +kernel
theorem dX2_goOn_120 : decode cX2_goOn 120 = .ok (.iinc 8 1, 3) := by decide +kernel
theorem dX2_goOn_123 : decode cX2_goOn 123 = .ok (.goto (-112), 3) := by decide +kernel
theorem dX2_goOn_126 : decode cX2_goOn 126 = .ok (.return_, 1) := by decide +kernel
theorem dX2_keep_0 : decode cX2_keep 0 = .ok (.aload_n 0, 1) := by decide +kernel
theorem dX2_keep_1 : decode cX2_keep 1 = .ok (.getfield 28, 3) := by decide +kernel
theorem dX2_keep_4 : decode cX2_keep 4 = .ok (.sipush 150, 3) := by decide +kernel
theorem dX2_keep_7 : decode cX2_keep 7 = .ok (.if_icmp .lt 4, 3) := by decide +kernel
theorem dX2_keep_10 : decode cX2_keep 10 = .ok (.return_, 1) := by decide +kernel
theorem dX2_keep_11 : decode cX2_keep 11 = .ok (.aload_n 0, 1) := by decide +kernel
theorem dX2_keep_12 : decode cX2_keep 12 = .ok (.getfield 9, 3) := by decide +kernel
theorem dX2_keep_15 : decode cX2_keep 15 = .ok (.aload_n 0, 1) := by decide +kernel
theorem dX2_keep_16 : decode cX2_keep 16 = .ok (.getfield 28, 3) := by decide +kernel
theorem dX2_keep_19 : decode cX2_keep 19 = .ok (.lload_n 2, 1) := by decide +kernel
theorem dX2_keep_20 : decode cX2_keep 20 = .ok (.lastore, 1) := by decide +kernel
theorem dX2_keep_21 : decode cX2_keep 21 = .ok (.aload_n 0, 1) := by decide +kernel
theorem dX2_keep_22 : decode cX2_keep 22 = .ok (.getfield 15, 3) := by decide +kernel
theorem dX2_keep_25 : decode cX2_keep 25 = .ok (.aload_n 0, 1) := by decide +kernel
theorem dX2_keep_26 : decode cX2_keep 26 = .ok (.getfield 28, 3) := by decide +kernel
theorem dX2_keep_29 : decode cX2_keep 29 = .ok (.lconst 1, 1) := by decide +kernel
theorem dX2_keep_30 : decode cX2_keep 30 = .ok (.lastore, 1) := by decide +kernel
theorem dX2_keep_31 : decode cX2_keep 31 = .ok (.aload_n 0, 1) := by decide +kernel
theorem dX2_keep_32 : decode cX2_keep 32 = .ok (.getfield 18, 3) := by decide +kernel
theorem dX2_keep_35 : decode cX2_keep 35 = .ok (.aload_n 0, 1) := by decide +kernel
theorem dX2_keep_36 : decode cX2_keep 36 = .ok (.getfield 28, 3) := by decide +kernel
theorem dX2_keep_39 : decode cX2_keep 39 = .ok (.iconst 0, 1) := by decide +kernel
theorem dX2_keep_40 : decode cX2_keep 40 = .ok (.iastore, 1) := by decide +kernel
theorem dX2_keep_41 : decode cX2_keep 41 = .ok (.iconst 0, 1) := by decide +kernel
theorem dX2_keep_42 : decode cX2_keep 42 = .ok (.istore 4, 2) := by decide +kernel
theorem dX2_keep_44 : decode cX2_keep 44 = .ok (.iload 4, 2) := by decide +kernel
theorem dX2_keep_46 : decode cX2_keep 46 = .ok (.bipush 8, 2) := by decide +kernel
theorem dX2_keep_48 : decode cX2_keep 48 = .ok (.if_icmp .ge 66, 3) := by decide +kernel
theorem dX2_keep_51 : decode cX2_keep 51 = .ok (.aload_n 0, 1) := by decide +kernel
theorem dX2_keep_52 : decode cX2_keep 52 = .ok (.aload_n 0, 1) := by decide +kernel
theorem dX2_keep_53 : decode cX2_keep 53 = .ok (.getfield 28, 3) := by decide +kernel
theorem dX2_keep_56 : decode cX2_keep 56 = .ok (.iload 4, 2) := by decide +kernel
theorem dX2_keep_58 : decode cX2_keep 58 = .ok (.invokevirtual 70, 3) := by decide +kernel
theorem dX2_keep_61 : decode cX2_keep 61 = .ok (.istore 5, 2) := by decide +kernel
theorem dX2_keep_63 : decode cX2_keep 63 = .ok (.aload_n 1, 1) := by decide +kernel
theorem dX2_keep_64 : decode cX2_keep 64 = .ok (.iload 5, 2) := by decide +kernel
theorem dX2_keep_66 : decode cX2_keep 66 = .ok (.invokevirtual 74, 3) := by decide +kernel
theorem dX2_keep_69 : decode cX2_keep 69 = .ok (.ifCond .eq 39, 3) := by decide +kernel
theorem dX2_keep_72 : decode cX2_keep 72 = .ok (.aload_n 0, 1) := by decide +kernel
theorem dX2_keep_73 : decode cX2_keep 73 = .ok (.getfield 15, 3) := by decide +kernel
theorem dX2_keep_76 : decode cX2_keep 76 = .ok (.aload_n 0, 1) := by decide +kernel
theorem dX2_keep_77 : decode cX2_keep 77 = .ok (.getfield 28, 3) := by decide +kernel
theorem dX2_keep_80 : decode cX2_keep 80 = .ok (.dup2, 1) := by decide +kernel
theorem dX2_keep_81 : decode cX2_keep 81 = .ok (.laload, 1) := by decide +kernel
theorem dX2_keep_82 : decode cX2_keep 82 = .ok (.aload_n 1, 1) := by decide +kernel
theorem dX2_keep_83 : decode cX2_keep 83 = .ok (.getfield 77, 3) := by decide +kernel
theorem dX2_keep_86 : decode cX2_keep 86 = .ok (.iload 5, 2) := by decide +kernel
theorem dX2_keep_88 : decode cX2_keep 88 = .ok (.iaload, 1) := by decide +kernel
theorem dX2_keep_89 : decode cX2_keep 89 = .ok (.i2l, 1) := by decide +kernel
theorem dX2_keep_90 : decode cX2_keep 90 = .ok (.lmul, 1) := by decide +kernel
theorem dX2_keep_91 : decode cX2_keep 91 = .ok (.lastore, 1) := by decide +kernel
theorem dX2_keep_92 : decode cX2_keep 92 = .ok (.aload_n 0, 1) := by decide +kernel
theorem dX2_keep_93 : decode cX2_keep 93 = .ok (.getfield 18, 3) := by decide +kernel
theorem dX2_keep_96 : decode cX2_keep 96 = .ok (.aload_n 0, 1) := by decide +kernel
theorem dX2_keep_97 : decode cX2_keep 97 = .ok (.getfield 28, 3) := by decide +kernel
theorem dX2_keep_100 : decode cX2_keep 100 = .ok (.dup2, 1) := by decide +kernel
theorem dX2_keep_101 : decode cX2_keep 101 = .ok (.iaload, 1) := by decide +kernel
theorem dX2_keep_102 : decode cX2_keep 102 = .ok (.iconst 1, 1) := by decide +kernel
theorem dX2_keep_103 : decode cX2_keep 103 = .ok (.iload 5, 2) := by decide +kernel
theorem dX2_keep_105 : decode cX2_keep 105 = .ok (.ishl, 1) := by decide +kernel
theorem dX2_keep_106 : decode cX2_keep 106 = .ok (.ior, 1) := by decide +kernel
theorem dX2_keep_107 : decode cX2_keep 107 = .ok (.iastore, 1) := by decide +kernel
theorem dX2_keep_108 : decode cX2_keep 108 = .ok (.iinc 4 1, 3) := by decide +kernel
theorem dX2_keep_111 : decode cX2_keep 111 = .ok (.goto (-67), 3) := by decide +kernel
theorem dX2_keep_114 : decode cX2_keep 114 = .ok (.aload_n 0, 1) := by decide +kernel
theorem dX2_keep_115 : decode cX2_keep 115 = .ok (.dup, 1) := by decide +kernel
theorem dX2_keep_116 : decode cX2_keep 116 = .ok (.getfield 28, 3) := by decide +kernel
theorem dX2_keep_119 : decode cX2_keep 119 = .ok (.iconst 1, 1) := by decide +kernel
theorem dX2_keep_120 : decode cX2_keep 120 = .ok (.iadd, 1) := by decide +kernel
theorem dX2_keep_121 : decode cX2_keep 121 = .ok (.putfield 28, 3) := by decide +kernel
theorem dX2_keep_124 : decode cX2_keep 124 = .ok (.return_, 1) := by decide +kernel
theorem dX2_boardAt_0 : decode cX2_boardAt 0 = .ok (.aload_n 0, 1) := by decide +kernel
theorem dX2_boardAt_1 : decode cX2_boardAt 1 = .ok (.getfield 9, 3) := by decide +kernel
theorem dX2_boardAt_4 : decode cX2_boardAt 4 = .ok (.iload_n 1, 1) := by decide +kernel
theorem dX2_boardAt_5 : decode cX2_boardAt 5 = .ok (.laload, 1) := by decide +kernel
theorem dX2_boardAt_6 : decode cX2_boardAt 6 = .ok (.iconst 4, 1) := by decide +kernel
theorem dX2_boardAt_7 : decode cX2_boardAt 7 = .ok (.iload_n 2, 1) := by decide +kernel
theorem dX2_boardAt_8 : decode cX2_boardAt 8 = .ok (.imul, 1) := by decide +kernel
theorem dX2_boardAt_9 : decode cX2_boardAt 9 = .ok (.lshr, 1) := by decide +kernel
theorem dX2_boardAt_10 : decode cX2_boardAt 10 = .ok (.ldc2_w 80, 3) := by decide +kernel
theorem dX2_boardAt_13 : decode cX2_boardAt 13 = .ok (.land, 1) := by decide +kernel
theorem dX2_boardAt_14 : decode cX2_boardAt 14 = .ok (.l2i, 1) := by decide +kernel
theorem dX2_boardAt_15 : decode cX2_boardAt 15 = .ok (.iconst 1, 1) := by decide +kernel
theorem dX2_boardAt_16 : decode cX2_boardAt 16 = .ok (.isub, 1) := by decide +kernel
theorem dX2_boardAt_17 : decode cX2_boardAt 17 = .ok (.ireturn, 1) := by decide +kernel
theorem dX2_length_0 : decode cX2_length 0 = .ok (.aload_n 0, 1) := by decide +kernel
theorem dX2_length_1 : decode cX2_length 1 = .ok (.getfield 18, 3) := by decide +kernel
theorem dX2_length_4 : decode cX2_length 4 = .ok (.iload_n 1, 1) := by decide +kernel
theorem dX2_length_5 : decode cX2_length 5 = .ok (.iaload, 1) := by decide +kernel
theorem dX2_length_6 : decode cX2_length 6 = .ok (.invokestatic 82, 3) := by decide +kernel
theorem dX2_length_9 : decode cX2_length 9 = .ok (.ireturn, 1) := by decide +kernel
theorem dX2_upper_0 : decode cX2_upper 0 = .ok (.lconst 1, 1) := by decide +kernel
theorem dX2_upper_1 : decode cX2_upper 1 = .ok (.lstore 4, 2) := by decide +kernel
theorem dX2_upper_3 : decode cX2_upper 3 = .ok (.iconst 0, 1) := by decide +kernel
theorem dX2_upper_4 : decode cX2_upper 4 = .ok (.istore 6, 2) := by decide +kernel
theorem dX2_upper_6 : decode cX2_upper 6 = .ok (.iload 6, 2) := by decide +kernel
theorem dX2_upper_8 : decode cX2_upper 8 = .ok (.bipush 8, 2) := by decide +kernel
theorem dX2_upper_10 : decode cX2_upper 10 = .ok (.if_icmp .ge 47, 3) := by decide +kernel
theorem dX2_upper_13 : decode cX2_upper 13 = .ok (.aload_n 0, 1) := by decide +kernel
theorem dX2_upper_14 : decode cX2_upper 14 = .ok (.iload_n 1, 1) := by decide +kernel
theorem dX2_upper_15 : decode cX2_upper 15 = .ok (.iload 6, 2) := by decide +kernel
theorem dX2_upper_17 : decode cX2_upper 17 = .ok (.invokevirtual 70, 3) := by decide +kernel
theorem dX2_upper_20 : decode cX2_upper 20 = .ok (.istore 7, 2) := by decide +kernel
theorem dX2_upper_22 : decode cX2_upper 22 = .ok (.iload 7, 2) := by decide +kernel
theorem dX2_upper_24 : decode cX2_upper 24 = .ok (.ifCond .lt 33, 3) := by decide +kernel
theorem dX2_upper_27 : decode cX2_upper 27 = .ok (.iload 7, 2) := by decide +kernel
theorem dX2_upper_29 : decode cX2_upper 29 = .ok (.aload_n 2, 1) := by decide +kernel
theorem dX2_upper_30 : decode cX2_upper 30 = .ok (.arraylength, 1) := by decide +kernel
theorem dX2_upper_31 : decode cX2_upper 31 = .ok (.if_icmp .lt 6, 3) := by decide +kernel
theorem dX2_upper_34 : decode cX2_upper 34 = .ok (.goto 23, 3) := by decide +kernel
theorem dX2_upper_37 : decode cX2_upper 37 = .ok (.lload 4, 2) := by decide +kernel
theorem dX2_upper_39 : decode cX2_upper 39 = .ok (.aload_n 2, 1) := by decide +kernel
theorem dX2_upper_40 : decode cX2_upper 40 = .ok (.iload 7, 2) := by decide +kernel
theorem dX2_upper_42 : decode cX2_upper 42 = .ok (.iaload, 1) := by decide +kernel
theorem dX2_upper_43 : decode cX2_upper 43 = .ok (.iload_n 3, 1) := by decide +kernel
theorem dX2_upper_44 : decode cX2_upper 44 = .ok (.invokestatic 88, 3) := by decide +kernel
theorem dX2_upper_47 : decode cX2_upper 47 = .ok (.i2l, 1) := by decide +kernel
theorem dX2_upper_48 : decode cX2_upper 48 = .ok (.lmul, 1) := by decide +kernel
theorem dX2_upper_49 : decode cX2_upper 49 = .ok (.lstore 4, 2) := by decide +kernel
theorem dX2_upper_51 : decode cX2_upper 51 = .ok (.iinc 6 1, 3) := by decide +kernel
theorem dX2_upper_54 : decode cX2_upper 54 = .ok (.goto (-48), 3) := by decide +kernel
theorem dX2_upper_57 : decode cX2_upper 57 = .ok (.lload 4, 2) := by decide +kernel
theorem dX2_upper_59 : decode cX2_upper 59 = .ok (.lreturn, 1) := by decide +kernel
theorem dX2_gains_0 : decode cX2_gains 0 = .ok (.aload_n 0, 1) := by decide +kernel
theorem dX2_gains_1 : decode cX2_gains 1 = .ok (.iload_n 1, 1) := by decide +kernel
theorem dX2_gains_2 : decode cX2_gains 2 = .ok (.aload_n 2, 1) := by decide +kernel
theorem dX2_gains_3 : decode cX2_gains 3 = .ok (.iload_n 3, 1) := by decide +kernel
theorem dX2_gains_4 : decode cX2_gains 4 = .ok (.invokevirtual 91, 3) := by decide +kernel
theorem dX2_gains_7 : decode cX2_gains 7 = .ok (.aload_n 0, 1) := by decide +kernel
theorem dX2_gains_8 : decode cX2_gains 8 = .ok (.getfield 15, 3) := by decide +kernel
theorem dX2_gains_11 : decode cX2_gains 11 = .ok (.iload_n 1, 1) := by decide +kernel
theorem dX2_gains_12 : decode cX2_gains 12 = .ok (.laload, 1) := by decide +kernel
theorem dX2_gains_13 : decode cX2_gains 13 = .ok (.lcmp, 1) := by decide +kernel
theorem dX2_gains_14 : decode cX2_gains 14 = .ok (.ifCond .le 7, 3) := by decide +kernel
theorem dX2_gains_17 : decode cX2_gains 17 = .ok (.iconst 1, 1) := by decide +kernel
theorem dX2_gains_18 : decode cX2_gains 18 = .ok (.goto 4, 3) := by decide +kernel
theorem dX2_gains_21 : decode cX2_gains 21 = .ok (.iconst 0, 1) := by decide +kernel
theorem dX2_gains_22 : decode cX2_gains 22 = .ok (.ireturn, 1) := by decide +kernel
theorem dX2_anyGains_0 : decode cX2_anyGains 0 = .ok (.iconst 0, 1) := by decide +kernel
theorem dX2_anyGains_1 : decode cX2_anyGains 1 = .ok (.istore_n 3, 1) := by decide +kernel
theorem dX2_anyGains_2 : decode cX2_anyGains 2 = .ok (.iload_n 3, 1) := by decide +kernel
theorem dX2_anyGains_3 : decode cX2_anyGains 3 = .ok (.aload_n 0, 1) := by decide +kernel
theorem dX2_anyGains_4 : decode cX2_anyGains 4 = .ok (.getfield 28, 3) := by decide +kernel
theorem dX2_anyGains_7 : decode cX2_anyGains 7 = .ok (.if_icmp .ge 21, 3) := by decide +kernel
theorem dX2_anyGains_10 : decode cX2_anyGains 10 = .ok (.aload_n 0, 1) := by decide +kernel
theorem dX2_anyGains_11 : decode cX2_anyGains 11 = .ok (.iload_n 3, 1) := by decide +kernel
theorem dX2_anyGains_12 : decode cX2_anyGains 12 = .ok (.aload_n 1, 1) := by decide +kernel
theorem dX2_anyGains_13 : decode cX2_anyGains 13 = .ok (.iload_n 2, 1) := by decide +kernel
theorem dX2_anyGains_14 : decode cX2_anyGains 14 = .ok (.invokevirtual 51, 3) := by decide +kernel
theorem dX2_anyGains_17 : decode cX2_anyGains 17 = .ok (.ifCond .eq 5, 3) := by decide +kernel
theorem dX2_anyGains_20 : decode cX2_anyGains 20 = .ok (.iconst 1, 1) := by decide +kernel
theorem dX2_anyGains_21 : decode cX2_anyGains 21 = .ok (.ireturn, 1) := by decide +kernel
theorem dX2_anyGains_22 : decode cX2_anyGains 22 = .ok (.iinc 3 1, 3) := by decide +kernel
theorem dX2_anyGains_25 : decode cX2_anyGains 25 = .ok (.goto (-23), 3) := by decide +kernel
theorem dX2_anyGains_28 : decode cX2_anyGains 28 = .ok (.iconst 0, 1) := by decide +kernel
theorem dX2_anyGains_29 : decode cX2_anyGains 29 = .ok (.ireturn, 1) := by decide +kernel
theorem dX2_hasGainer_0 : decode cX2_hasGainer 0 = .ok (.iload_n 1, 1) := by decide +kernel
theorem dX2_hasGainer_1 : decode cX2_hasGainer 1 = .ok (.ifCond .lt 15, 3) := by decide +kernel
theorem dX2_hasGainer_4 : decode cX2_hasGainer 4 = .ok (.iload_n 1, 1) := by decide +kernel
theorem dX2_hasGainer_5 : decode cX2_hasGainer 5 = .ok (.aload_n 0, 1) := by decide +kernel
theorem dX2_hasGainer_6 : decode cX2_hasGainer 6 = .ok (.getfield 32, 3) := by decide +kernel
theorem dX2_hasGainer_9 : decode cX2_hasGainer 9 = .ok (.if_icmp .ge 7, 3) := by decide +kernel
theorem dX2_hasGainer_12 : decode cX2_hasGainer 12 = .ok (.iconst 1, 1) := by decide +kernel
theorem dX2_hasGainer_13 : decode cX2_hasGainer 13 = .ok (.goto 4, 3) := by decide +kernel
theorem dX2_hasGainer_16 : decode cX2_hasGainer 16 = .ok (.iconst 0, 1) := by decide +kernel
theorem dX2_hasGainer_17 : decode cX2_hasGainer 17 = .ok (.ireturn, 1) := by decide +kernel
theorem dX2_numberOfGainer_0 : decode cX2_numberOfGainer 0 = .ok (.iconst 0, 1) := by decide +kernel
theorem dX2_numberOfGainer_1 : decode cX2_numberOfGainer 1 = .ok (.istore_n 2, 1) := by decide +kernel
theorem dX2_numberOfGainer_2 : decode cX2_numberOfGainer 2 = .ok (.iload_n 2, 1) := by decide +kernel
theorem dX2_numberOfGainer_3 : decode cX2_numberOfGainer 3 = .ok (.aload_n 0, 1) := by decide +kernel
theorem dX2_numberOfGainer_4 : decode cX2_numberOfGainer 4 = .ok (.getfield 32, 3) := by decide +kernel
theorem dX2_numberOfGainer_7 : decode cX2_numberOfGainer 7 = .ok (.if_icmp .ge 21, 3) := by decide +kernel
theorem dX2_numberOfGainer_10 : decode cX2_numberOfGainer 10 = .ok (.aload_n 0, 1) := by decide +kernel
theorem dX2_numberOfGainer_11 : decode cX2_numberOfGainer 11 = .ok (.getfield 22, 3) := by decide +kernel
theorem dX2_numberOfGainer_14 : decode cX2_numberOfGainer 14 = .ok (.iload_n 2, 1) := by decide +kernel
theorem dX2_numberOfGainer_15 : decode cX2_numberOfGainer 15 = .ok (.iaload, 1) := by decide +kernel
theorem dX2_numberOfGainer_16 : decode cX2_numberOfGainer 16 = .ok (.iload_n 1, 1) := by decide +kernel
theorem dX2_numberOfGainer_17 : decode cX2_numberOfGainer 17 = .ok (.if_icmp .ne 5, 3) := by decide +kernel
theorem dX2_numberOfGainer_20 : decode cX2_numberOfGainer 20 = .ok (.iload_n 2, 1) := by decide +kernel
theorem dX2_numberOfGainer_21 : decode cX2_numberOfGainer 21 = .ok (.ireturn, 1) := by decide +kernel
theorem dX2_numberOfGainer_22 : decode cX2_numberOfGainer 22 = .ok (.iinc 2 1, 3) := by decide +kernel
theorem dX2_numberOfGainer_25 : decode cX2_numberOfGainer 25 = .ok (.goto (-23), 3) := by decide +kernel
theorem dX2_numberOfGainer_28 : decode cX2_numberOfGainer 28 = .ok (.bipush (-6), 2) := by decide +kernel
theorem dX2_numberOfGainer_30 : decode cX2_numberOfGainer 30 = .ok (.ireturn, 1) := by decide +kernel
theorem dX2_greatest_0 : decode cX2_greatest 0 = .ok (.iconst (-1), 1) := by decide +kernel
theorem dX2_greatest_1 : decode cX2_greatest 1 = .ok (.istore_n 3, 1) := by decide +kernel
theorem dX2_greatest_2 : decode cX2_greatest 2 = .ok (.lconst 1, 1) := by decide +kernel
theorem dX2_greatest_3 : decode cX2_greatest 3 = .ok (.lstore 4, 2) := by decide +kernel
theorem dX2_greatest_5 : decode cX2_greatest 5 = .ok (.lconst 1, 1) := by decide +kernel
theorem dX2_greatest_6 : decode cX2_greatest 6 = .ok (.lstore 6, 2) := by decide +kernel
theorem dX2_greatest_8 : decode cX2_greatest 8 = .ok (.iconst 0, 1) := by decide +kernel
theorem dX2_greatest_9 : decode cX2_greatest 9 = .ok (.istore 8, 2) := by decide +kernel
theorem dX2_greatest_11 : decode cX2_greatest 11 = .ok (.iload 8, 2) := by decide +kernel
theorem dX2_greatest_13 : decode cX2_greatest 13 = .ok (.aload_n 0, 1) := by decide +kernel
theorem dX2_greatest_14 : decode cX2_greatest 14 = .ok (.getfield 28, 3) := by decide +kernel
theorem dX2_greatest_17 : decode cX2_greatest 17 = .ok (.if_icmp .ge 67, 3) := by decide +kernel
theorem dX2_greatest_20 : decode cX2_greatest 20 = .ok (.aload_n 0, 1) := by decide +kernel
theorem dX2_greatest_21 : decode cX2_greatest 21 = .ok (.iload 8, 2) := by decide +kernel
theorem dX2_greatest_23 : decode cX2_greatest 23 = .ok (.aload_n 1, 1) := by decide +kernel
theorem dX2_greatest_24 : decode cX2_greatest 24 = .ok (.iload_n 2, 1) := by decide +kernel
theorem dX2_greatest_25 : decode cX2_greatest 25 = .ok (.invokevirtual 91, 3) := by decide +kernel
theorem dX2_greatest_28 : decode cX2_greatest 28 = .ok (.lstore 9, 2) := by decide +kernel
theorem dX2_greatest_30 : decode cX2_greatest 30 = .ok (.lload 9, 2) := by decide +kernel
theorem dX2_greatest_32 : decode cX2_greatest 32 = .ok (.aload_n 0, 1) := by decide +kernel
theorem dX2_greatest_33 : decode cX2_greatest 33 = .ok (.getfield 15, 3) := by decide +kernel
theorem dX2_greatest_36 : decode cX2_greatest 36 = .ok (.iload 8, 2) := by decide +kernel
theorem dX2_greatest_38 : decode cX2_greatest 38 = .ok (.laload, 1) := by decide +kernel
theorem dX2_greatest_39 : decode cX2_greatest 39 = .ok (.lcmp, 1) := by decide +kernel
theorem dX2_greatest_40 : decode cX2_greatest 40 = .ok (.ifCond .le 38, 3) := by decide +kernel
theorem dX2_greatest_43 : decode cX2_greatest 43 = .ok (.lload 9, 2) := by decide +kernel
theorem dX2_greatest_45 : decode cX2_greatest 45 = .ok (.aload_n 0, 1) := by decide +kernel
theorem dX2_greatest_46 : decode cX2_greatest 46 = .ok (.getfield 15, 3) := by decide +kernel
theorem dX2_greatest_49 : decode cX2_greatest 49 = .ok (.iload 8, 2) := by decide +kernel
theorem dX2_greatest_51 : decode cX2_greatest 51 = .ok (.laload, 1) := by decide +kernel
theorem dX2_greatest_52 : decode cX2_greatest 52 = .ok (.lload 4, 2) := by decide +kernel
theorem dX2_greatest_54 : decode cX2_greatest 54 = .ok (.lload 6, 2) := by decide +kernel
theorem dX2_greatest_56 : decode cX2_greatest 56 = .ok (.invokestatic 95, 3) := by decide +kernel
theorem dX2_greatest_59 : decode cX2_greatest 59 = .ok (.ifCond .eq 19, 3) := by decide +kernel
theorem dX2_greatest_62 : decode cX2_greatest 62 = .ok (.iload 8, 2) := by decide +kernel
theorem dX2_greatest_64 : decode cX2_greatest 64 = .ok (.istore_n 3, 1) := by decide +kernel
theorem dX2_greatest_65 : decode cX2_greatest 65 = .ok (.lload 9, 2) := by decide +kernel
theorem dX2_greatest_67 : decode cX2_greatest 67 = .ok (.lstore 4, 2) := by decide +kernel
theorem dX2_greatest_69 : decode cX2_greatest 69 = .ok (.aload_n 0, 1) := by decide +kernel
theorem dX2_greatest_70 : decode cX2_greatest 70 = .ok (.getfield 15, 3) := by decide +kernel
theorem dX2_greatest_73 : decode cX2_greatest 73 = .ok (.iload 8, 2) := by decide +kernel
theorem dX2_greatest_75 : decode cX2_greatest 75 = .ok (.laload, 1) := by decide +kernel
theorem dX2_greatest_76 : decode cX2_greatest 76 = .ok (.lstore 6, 2) := by decide +kernel
theorem dX2_greatest_78 : decode cX2_greatest 78 = .ok (.iinc 8 1, 3) := by decide +kernel
theorem dX2_greatest_81 : decode cX2_greatest 81 = .ok (.goto (-70), 3) := by decide +kernel
theorem dX2_greatest_84 : decode cX2_greatest 84 = .ok (.iload_n 3, 1) := by decide +kernel
theorem dX2_greatest_85 : decode cX2_greatest 85 = .ok (.ireturn, 1) := by decide +kernel
theorem dX2_shortest_0 : decode cX2_shortest 0 = .ok (.iconst (-1), 1) := by decide +kernel
theorem dX2_shortest_1 : decode cX2_shortest 1 = .ok (.istore_n 1, 1) := by decide +kernel
theorem dX2_shortest_2 : decode cX2_shortest 2 = .ok (.bipush 9, 2) := by decide +kernel
theorem dX2_shortest_4 : decode cX2_shortest 4 = .ok (.istore_n 2, 1) := by decide +kernel
theorem dX2_shortest_5 : decode cX2_shortest 5 = .ok (.iconst 0, 1) := by decide +kernel
theorem dX2_shortest_6 : decode cX2_shortest 6 = .ok (.istore_n 3, 1) := by decide +kernel
theorem dX2_shortest_7 : decode cX2_shortest 7 = .ok (.iload_n 3, 1) := by decide +kernel
theorem dX2_shortest_8 : decode cX2_shortest 8 = .ok (.aload_n 0, 1) := by decide +kernel
theorem dX2_shortest_9 : decode cX2_shortest 9 = .ok (.getfield 32, 3) := by decide +kernel
theorem dX2_shortest_12 : decode cX2_shortest 12 = .ok (.if_icmp .ge 36, 3) := by decide +kernel
theorem dX2_shortest_15 : decode cX2_shortest 15 = .ok (.aload_n 0, 1) := by decide +kernel
theorem dX2_shortest_16 : decode cX2_shortest 16 = .ok (.aload_n 0, 1) := by decide +kernel
theorem dX2_shortest_17 : decode cX2_shortest 17 = .ok (.getfield 22, 3) := by decide +kernel
theorem dX2_shortest_20 : decode cX2_shortest 20 = .ok (.iload_n 3, 1) := by decide +kernel
theorem dX2_shortest_21 : decode cX2_shortest 21 = .ok (.iaload, 1) := by decide +kernel
theorem dX2_shortest_22 : decode cX2_shortest 22 = .ok (.invokevirtual 99, 3) := by decide +kernel
theorem dX2_shortest_25 : decode cX2_shortest 25 = .ok (.iload_n 2, 1) := by decide +kernel
theorem dX2_shortest_26 : decode cX2_shortest 26 = .ok (.if_icmp .ge 16, 3) := by decide +kernel
theorem dX2_shortest_29 : decode cX2_shortest 29 = .ok (.aload_n 0, 1) := by decide +kernel
theorem dX2_shortest_30 : decode cX2_shortest 30 = .ok (.getfield 22, 3) := by decide +kernel
theorem dX2_shortest_33 : decode cX2_shortest 33 = .ok (.iload_n 3, 1) := by decide +kernel
theorem dX2_shortest_34 : decode cX2_shortest 34 = .ok (.iaload, 1) := by decide +kernel
theorem dX2_shortest_35 : decode cX2_shortest 35 = .ok (.istore_n 1, 1) := by decide +kernel
theorem dX2_shortest_36 : decode cX2_shortest 36 = .ok (.aload_n 0, 1) := by decide +kernel
theorem dX2_shortest_37 : decode cX2_shortest 37 = .ok (.iload_n 1, 1) := by decide +kernel
theorem dX2_shortest_38 : decode cX2_shortest 38 = .ok (.invokevirtual 99, 3) := by decide +kernel
theorem dX2_shortest_41 : decode cX2_shortest 41 = .ok (.istore_n 2, 1) := by decide +kernel
theorem dX2_shortest_42 : decode cX2_shortest 42 = .ok (.iinc 3 1, 3) := by decide +kernel
theorem dX2_shortest_45 : decode cX2_shortest 45 = .ok (.goto (-38), 3) := by decide +kernel
theorem dX2_shortest_48 : decode cX2_shortest 48 = .ok (.iload_n 1, 1) := by decide +kernel
theorem dX2_shortest_49 : decode cX2_shortest 49 = .ok (.ireturn, 1) := by decide +kernel
theorem dX2_countThrough_0 : decode cX2_countThrough 0 = .ok (.iconst 0, 1) := by decide +kernel
theorem dX2_countThrough_1 : decode cX2_countThrough 1 = .ok (.istore_n 2, 1) := by decide +kernel
theorem dX2_countThrough_2 : decode cX2_countThrough 2 = .ok (.iconst 0, 1) := by decide +kernel
theorem dX2_countThrough_3 : decode cX2_countThrough 3 = .ok (.istore_n 3, 1) := by decide +kernel
theorem dX2_countThrough_4 : decode cX2_countThrough 4 = .ok (.iload_n 3, 1) := by decide +kernel
theorem dX2_countThrough_5 : decode cX2_countThrough 5 = .ok (.aload_n 0, 1) := by decide +kernel
theorem dX2_countThrough_6 : decode cX2_countThrough 6 = .ok (.getfield 32, 3) := by decide +kernel
theorem dX2_countThrough_9 : decode cX2_countThrough 9 = .ok (.if_icmp .ge 27, 3) := by decide +kernel
theorem dX2_countThrough_12 : decode cX2_countThrough 12 = .ok (.iload_n 2, 1) := by decide +kernel
theorem dX2_countThrough_13 : decode cX2_countThrough 13 = .ok (.aload_n 0, 1) := by decide +kernel
theorem dX2_countThrough_14 : decode cX2_countThrough 14 = .ok (.getfield 18, 3) := by decide +kernel
theorem dX2_countThrough_17 : decode cX2_countThrough 17 = .ok (.aload_n 0, 1) := by decide +kernel
theorem dX2_countThrough_18 : decode cX2_countThrough 18 = .ok (.getfield 22, 3) := by decide +kernel
theorem dX2_countThrough_21 : decode cX2_countThrough 21 = .ok (.iload_n 3, 1) := by decide +kernel
theorem dX2_countThrough_22 : decode cX2_countThrough 22 = .ok (.iaload, 1) := by decide +kernel
theorem dX2_countThrough_23 : decode cX2_countThrough 23 = .ok (.iaload, 1) := by decide +kernel
theorem dX2_countThrough_24 : decode cX2_countThrough 24 = .ok (.iload_n 1, 1) := by decide +kernel
theorem dX2_countThrough_25 : decode cX2_countThrough 25 = .ok (.ishr, 1) := by decide +kernel
theorem dX2_countThrough_26 : decode cX2_countThrough 26 = .ok (.iconst 1, 1) := by decide +kernel
theorem dX2_countThrough_27 : decode cX2_countThrough 27 = .ok (.iand, 1) := by decide +kernel
theorem dX2_countThrough_28 : decode cX2_countThrough 28 = .ok (.iadd, 1) := by decide +kernel
theorem dX2_countThrough_29 : decode cX2_countThrough 29 = .ok (.istore_n 2, 1) := by decide +kernel
theorem dX2_countThrough_30 : decode cX2_countThrough 30 = .ok (.iinc 3 1, 3) := by decide +kernel
theorem dX2_countThrough_33 : decode cX2_countThrough 33 = .ok (.goto (-29), 3) := by decide +kernel
theorem dX2_countThrough_36 : decode cX2_countThrough 36 = .ok (.iload_n 2, 1) := by decide +kernel
theorem dX2_countThrough_37 : decode cX2_countThrough 37 = .ok (.ireturn, 1) := by decide +kernel
theorem dX2_commonBits_0 : decode cX2_commonBits 0 = .ok (.aload_n 0, 1) := by decide +kernel
theorem dX2_commonBits_1 : decode cX2_commonBits 1 = .ok (.getfield 32, 3) := by decide +kernel
theorem dX2_commonBits_4 : decode cX2_commonBits 4 = .ok (.ifCond .ne 7, 3) := by decide +kernel
theorem dX2_commonBits_7 : decode cX2_commonBits 7 = .ok (.iconst 0, 1) := by decide +kernel
theorem dX2_commonBits_8 : decode cX2_commonBits 8 = .ok (.goto 4, 3) := by decide +kernel
theorem dX2_commonBits_11 : decode cX2_commonBits 11 = .ok (.iconst (-1), 1) := by decide +kernel
theorem dX2_commonBits_12 : decode cX2_commonBits 12 = .ok (.istore_n 1, 1) := by decide +kernel
theorem dX2_commonBits_13 : decode cX2_commonBits 13 = .ok (.iconst 0, 1) := by decide +kernel
theorem dX2_commonBits_14 : decode cX2_commonBits 14 = .ok (.istore_n 2, 1) := by decide +kernel
theorem dX2_commonBits_15 : decode cX2_commonBits 15 = .ok (.iload_n 2, 1) := by decide +kernel
theorem dX2_commonBits_16 : decode cX2_commonBits 16 = .ok (.aload_n 0, 1) := by decide +kernel
theorem dX2_commonBits_17 : decode cX2_commonBits 17 = .ok (.getfield 32, 3) := by decide +kernel
theorem dX2_commonBits_20 : decode cX2_commonBits 20 = .ok (.if_icmp .ge 23, 3) := by decide +kernel
theorem dX2_commonBits_23 : decode cX2_commonBits 23 = .ok (.iload_n 1, 1) := by decide +kernel
theorem dX2_commonBits_24 : decode cX2_commonBits 24 = .ok (.aload_n 0, 1) := by decide +kernel
theorem dX2_commonBits_25 : decode cX2_commonBits 25 = .ok (.getfield 18, 3) := by decide +kernel
theorem dX2_commonBits_28 : decode cX2_commonBits 28 = .ok (.aload_n 0, 1) := by decide +kernel
theorem dX2_commonBits_29 : decode cX2_commonBits 29 = .ok (.getfield 22, 3) := by decide +kernel
theorem dX2_commonBits_32 : decode cX2_commonBits 32 = .ok (.iload_n 2, 1) := by decide +kernel
theorem dX2_commonBits_33 : decode cX2_commonBits 33 = .ok (.iaload, 1) := by decide +kernel
theorem dX2_commonBits_34 : decode cX2_commonBits 34 = .ok (.iaload, 1) := by decide +kernel
theorem dX2_commonBits_35 : decode cX2_commonBits 35 = .ok (.iand, 1) := by decide +kernel
theorem dX2_commonBits_36 : decode cX2_commonBits 36 = .ok (.istore_n 1, 1) := by decide +kernel
theorem dX2_commonBits_37 : decode cX2_commonBits 37 = .ok (.iinc 2 1, 3) := by decide +kernel
theorem dX2_commonBits_40 : decode cX2_commonBits 40 = .ok (.goto (-25), 3) := by decide +kernel
theorem dX2_commonBits_43 : decode cX2_commonBits 43 = .ok (.iload_n 1, 1) := by decide +kernel
theorem dX2_commonBits_44 : decode cX2_commonBits 44 = .ok (.ireturn, 1) := by decide +kernel
theorem dX2_fewestThatHit_0 : decode cX2_fewestThatHit 0 = .ok (.iload_n 1, 1) := by decide +kernel
theorem dX2_fewestThatHit_1 : decode cX2_fewestThatHit 1 = .ok (.istore_n 2, 1) := by decide +kernel
theorem dX2_fewestThatHit_2 : decode cX2_fewestThatHit 2 = .ok (.iconst 0, 1) := by decide +kernel
theorem dX2_fewestThatHit_3 : decode cX2_fewestThatHit 3 = .ok (.istore_n 3, 1) := by decide +kernel
theorem dX2_fewestThatHit_4 : decode cX2_fewestThatHit 4 = .ok (.iload_n 3, 1) := by decide +kernel
theorem dX2_fewestThatHit_5 : decode cX2_fewestThatHit 5 = .ok (.iload_n 1, 1) := by decide +kernel
theorem dX2_fewestThatHit_6 : decode cX2_fewestThatHit 6 = .ok (.if_icmp .ge 30, 3) := by decide +kernel
theorem dX2_fewestThatHit_9 : decode cX2_fewestThatHit 9 = .ok (.iload_n 3, 1) := by decide +kernel
theorem dX2_fewestThatHit_10 : decode cX2_fewestThatHit 10 = .ok (.invokestatic 82, 3) := by decide +kernel
theorem dX2_fewestThatHit_13 : decode cX2_fewestThatHit 13 = .ok (.iload_n 2, 1) := by decide +kernel
theorem dX2_fewestThatHit_14 : decode cX2_fewestThatHit 14 = .ok (.invokestatic 82, 3) := by decide +kernel
theorem dX2_fewestThatHit_17 : decode cX2_fewestThatHit 17 = .ok (.if_icmp .ge 13, 3) := by decide +kernel
theorem dX2_fewestThatHit_20 : decode cX2_fewestThatHit 20 = .ok (.aload_n 0, 1) := by decide +kernel
theorem dX2_fewestThatHit_21 : decode cX2_fewestThatHit 21 = .ok (.iload_n 3, 1) := by decide +kernel
theorem dX2_fewestThatHit_22 : decode cX2_fewestThatHit 22 = .ok (.invokevirtual 102, 3) := by decide +kernel
theorem dX2_fewestThatHit_25 : decode cX2_fewestThatHit 25 = .ok (.ifCond .eq 5, 3) := by decide +kernel
theorem dX2_fewestThatHit_28 : decode cX2_fewestThatHit 28 = .ok (.iload_n 3, 1) := by decide +kernel
theorem dX2_fewestThatHit_29 : decode cX2_fewestThatHit 29 = .ok (.istore_n 2, 1) := by decide +kernel
theorem dX2_fewestThatHit_30 : decode cX2_fewestThatHit 30 = .ok (.iinc 3 1, 3) := by decide +kernel
theorem dX2_fewestThatHit_33 : decode cX2_fewestThatHit 33 = .ok (.goto (-29), 3) := by decide +kernel
theorem dX2_fewestThatHit_36 : decode cX2_fewestThatHit 36 = .ok (.iload_n 2, 1) := by decide +kernel
theorem dX2_fewestThatHit_37 : decode cX2_fewestThatHit 37 = .ok (.ireturn, 1) := by decide +kernel
theorem dX2_hitsAll_0 : decode cX2_hitsAll 0 = .ok (.iconst 0, 1) := by decide +kernel
theorem dX2_hitsAll_1 : decode cX2_hitsAll 1 = .ok (.istore_n 2, 1) := by decide +kernel
theorem dX2_hitsAll_2 : decode cX2_hitsAll 2 = .ok (.iload_n 2, 1) := by decide +kernel
theorem dX2_hitsAll_3 : decode cX2_hitsAll 3 = .ok (.aload_n 0, 1) := by decide +kernel
theorem dX2_hitsAll_4 : decode cX2_hitsAll 4 = .ok (.getfield 32, 3) := by decide +kernel
theorem dX2_hitsAll_7 : decode cX2_hitsAll 7 = .ok (.if_icmp .ge 27, 3) := by decide +kernel
theorem dX2_hitsAll_10 : decode cX2_hitsAll 10 = .ok (.aload_n 0, 1) := by decide +kernel
theorem dX2_hitsAll_11 : decode cX2_hitsAll 11 = .ok (.getfield 18, 3) := by decide +kernel
theorem dX2_hitsAll_14 : decode cX2_hitsAll 14 = .ok (.aload_n 0, 1) := by decide +kernel
theorem dX2_hitsAll_15 : decode cX2_hitsAll 15 = .ok (.getfield 22, 3) := by decide +kernel
theorem dX2_hitsAll_18 : decode cX2_hitsAll 18 = .ok (.iload_n 2, 1) := by decide +kernel
theorem dX2_hitsAll_19 : decode cX2_hitsAll 19 = .ok (.iaload, 1) := by decide +kernel
theorem dX2_hitsAll_20 : decode cX2_hitsAll 20 = .ok (.iaload, 1) := by decide +kernel
theorem dX2_hitsAll_21 : decode cX2_hitsAll 21 = .ok (.iload_n 1, 1) := by decide +kernel
theorem dX2_hitsAll_22 : decode cX2_hitsAll 22 = .ok (.iand, 1) := by decide +kernel
theorem dX2_hitsAll_23 : decode cX2_hitsAll 23 = .ok (.ifCond .ne 5, 3) := by decide +kernel
theorem dX2_hitsAll_26 : decode cX2_hitsAll 26 = .ok (.iconst 0, 1) := by decide +kernel
theorem dX2_hitsAll_27 : decode cX2_hitsAll 27 = .ok (.ireturn, 1) := by decide +kernel
theorem dX2_hitsAll_28 : decode cX2_hitsAll 28 = .ok (.iinc 2 1, 3) := by decide +kernel
theorem dX2_hitsAll_31 : decode cX2_hitsAll 31 = .ok (.goto (-29), 3) := by decide +kernel
theorem dX2_hitsAll_34 : decode cX2_hitsAll 34 = .ok (.iconst 1, 1) := by decide +kernel
theorem dX2_hitsAll_35 : decode cX2_hitsAll 35 = .ok (.ireturn, 1) := by decide +kernel
theorem dX2_leastMove_0 : decode cX2_leastMove 0 = .ok (.aload_n 1, 1) := by decide +kernel
theorem dX2_leastMove_1 : decode cX2_leastMove 1 = .ok (.iload_n 2, 1) := by decide +kernel
theorem dX2_leastMove_2 : decode cX2_leastMove 2 = .ok (.invokevirtual 74, 3) := by decide +kernel
theorem dX2_leastMove_5 : decode cX2_leastMove 5 = .ok (.ifCond .ne 6, 3) := by decide +kernel
theorem dX2_leastMove_8 : decode cX2_leastMove 8 = .ok (.bipush (-6), 2) := by decide +kernel
theorem dX2_leastMove_10 : decode cX2_leastMove 10 = .ok (.ireturn, 1) := by decide +kernel
theorem dX2_leastMove_11 : decode cX2_leastMove 11 = .ok (.aload_n 1, 1) := by decide +kernel
theorem dX2_leastMove_12 : decode cX2_leastMove 12 = .ok (.getfield 43, 3) := by decide +kernel
theorem dX2_leastMove_15 : decode cX2_leastMove 15 = .ok (.iconst 0, 1) := by decide +kernel
theorem dX2_leastMove_16 : decode cX2_leastMove 16 = .ok (.aload_n 0, 1) := by decide +kernel
theorem dX2_leastMove_17 : decode cX2_leastMove 17 = .ok (.getfield 25, 3) := by decide +kernel
theorem dX2_leastMove_20 : decode cX2_leastMove 20 = .ok (.iconst 0, 1) := by decide +kernel
theorem dX2_leastMove_21 : decode cX2_leastMove 21 = .ok (.bipush 12, 2) := by decide +kernel
theorem dX2_leastMove_23 : decode cX2_leastMove 23 = .ok (.invokestatic 105, 3) := by decide +kernel
theorem dX2_leastMove_26 : decode cX2_leastMove 26 = .ok (.iconst 0, 1) := by decide +kernel
theorem dX2_leastMove_27 : decode cX2_leastMove 27 = .ok (.istore_n 3, 1) := by decide +kernel
theorem dX2_leastMove_28 : decode cX2_leastMove 28 = .ok (.iload_n 3, 1) := by decide +kernel
theorem dX2_leastMove_29 : decode cX2_leastMove 29 = .ok (.aload_n 1, 1) := by decide +kernel
theorem dX2_leastMove_30 : decode cX2_leastMove 30 = .ok (.getfield 43, 3) := by decide +kernel
theorem dX2_leastMove_33 : decode cX2_leastMove 33 = .ok (.iload_n 2, 1) := by decide +kernel
theorem dX2_leastMove_34 : decode cX2_leastMove 34 = .ok (.iaload, 1) := by decide +kernel
theorem dX2_leastMove_35 : decode cX2_leastMove 35 = .ok (.if_icmp .ge 42, 3) := by decide +kernel
theorem dX2_leastMove_38 : decode cX2_leastMove 38 = .ok (.aload_n 0, 1) := by decide +kernel
theorem dX2_leastMove_39 : decode cX2_leastMove 39 = .ok (.getfield 25, 3) := by decide +kernel
theorem dX2_leastMove_42 : decode cX2_leastMove 42 = .ok (.iload_n 2, 1) := by decide +kernel
theorem dX2_leastMove_43 : decode cX2_leastMove 43 = .ok (.aload_n 1, 1) := by decide +kernel
theorem dX2_leastMove_44 : decode cX2_leastMove 44 = .ok (.getfield 43, 3) := by decide +kernel
theorem dX2_leastMove_47 : decode cX2_leastMove 47 = .ok (.iload_n 2, 1) := by decide +kernel
theorem dX2_leastMove_48 : decode cX2_leastMove 48 = .ok (.iaload, 1) := by decide +kernel
theorem dX2_leastMove_49 : decode cX2_leastMove 49 = .ok (.iload_n 3, 1) := by decide +kernel
theorem dX2_leastMove_50 : decode cX2_leastMove 50 = .ok (.isub, 1) := by decide +kernel
theorem dX2_leastMove_51 : decode cX2_leastMove 51 = .ok (.iastore, 1) := by decide +kernel
theorem dX2_leastMove_52 : decode cX2_leastMove 52 = .ok (.aload_n 0, 1) := by decide +kernel
theorem dX2_leastMove_53 : decode cX2_leastMove 53 = .ok (.aload_n 0, 1) := by decide +kernel
theorem dX2_leastMove_54 : decode cX2_leastMove 54 = .ok (.getfield 25, 3) := by decide +kernel
theorem dX2_leastMove_57 : decode cX2_leastMove 57 = .ok (.aload_n 1, 1) := by decide +kernel
theorem dX2_leastMove_58 : decode cX2_leastMove 58 = .ok (.getfield 48, 3) := by decide +kernel
theorem dX2_leastMove_61 : decode cX2_leastMove 61 = .ok (.iconst 0, 1) := by decide +kernel
theorem dX2_leastMove_62 : decode cX2_leastMove 62 = .ok (.iaload, 1) := by decide +kernel
theorem dX2_leastMove_63 : decode cX2_leastMove 63 = .ok (.invokevirtual 111, 3) := by decide +kernel
theorem dX2_leastMove_66 : decode cX2_leastMove 66 = .ok (.ifCond .ne 5, 3) := by decide +kernel
theorem dX2_leastMove_69 : decode cX2_leastMove 69 = .ok (.iload_n 3, 1) := by decide +kernel
theorem dX2_leastMove_70 : decode cX2_leastMove 70 = .ok (.ireturn, 1) := by decide +kernel
theorem dX2_leastMove_71 : decode cX2_leastMove 71 = .ok (.iinc 3 1, 3) := by decide +kernel
theorem dX2_leastMove_74 : decode cX2_leastMove 74 = .ok (.goto (-46), 3) := by decide +kernel
theorem dX2_leastMove_77 : decode cX2_leastMove 77 = .ok (.bipush (-6), 2) := by decide +kernel
theorem dX2_leastMove_79 : decode cX2_leastMove 79 = .ok (.ireturn, 1) := by decide +kernel
theorem dX3_init_0 : decode cX3_init 0 = .ok (.aload_n 0, 1) := by decide +kernel
theorem dX3_init_1 : decode cX3_init 1 = .ok (.invokespecial 3, 3) := by decide +kernel
theorem dX3_init_4 : decode cX3_init 4 = .ok (.aload_n 0, 1) := by decide +kernel
theorem dX3_init_5 : decode cX3_init 5 = .ok (.bipush 80, 2) := by decide +kernel
theorem dX3_init_7 : decode cX3_init 7 = .ok (.newarray .char, 2) := by decide +kernel
theorem dX3_init_9 : decode cX3_init 9 = .ok (.putfield 9, 3) := by decide +kernel
theorem dX3_init_12 : decode cX3_init 12 = .ok (.aload_n 0, 1) := by decide +kernel
theorem dX3_init_13 : decode cX3_init 13 = .ok (.iconst 0, 1) := by decide +kernel
theorem dX3_init_14 : decode cX3_init 14 = .ok (.putfield 15, 3) := by decide +kernel
theorem dX3_init_17 : decode cX3_init 17 = .ok (.aload_n 0, 1) := by decide +kernel
theorem dX3_init_18 : decode cX3_init 18 = .ok (.iconst 0, 1) := by decide +kernel
theorem dX3_init_19 : decode cX3_init 19 = .ok (.putfield 19, 3) := by decide +kernel
theorem dX3_init_22 : decode cX3_init 22 = .ok (.aload_n 0, 1) := by decide +kernel
theorem dX3_init_23 : decode cX3_init 23 = .ok (.iconst 0, 1) := by decide +kernel
theorem dX3_init_24 : decode cX3_init 24 = .ok (.putfield 22, 3) := by decide +kernel
theorem dX3_init_27 : decode cX3_init 27 = .ok (.aload_n 0, 1) := by decide +kernel
theorem dX3_init_28 : decode cX3_init 28 = .ok (.iconst 0, 1) := by decide +kernel
theorem dX3_init_29 : decode cX3_init 29 = .ok (.putfield 25, 3) := by decide +kernel
theorem dX3_init_32 : decode cX3_init 32 = .ok (.aload_n 0, 1) := by decide +kernel
theorem dX3_init_33 : decode cX3_init 33 = .ok (.iconst 0, 1) := by decide +kernel
theorem dX3_init_34 : decode cX3_init 34 = .ok (.putfield 28, 3) := by decide +kernel
theorem dX3_init_37 : decode cX3_init 37 = .ok (.aload_n 0, 1) := by decide +kernel
theorem dX3_init_38 : decode cX3_init 38 = .ok (.iconst 0, 1) := by decide +kernel
theorem dX3_init_39 : decode cX3_init 39 = .ok (.putfield 31, 3) := by decide +kernel
theorem dX3_init_42 : decode cX3_init 42 = .ok (.return_, 1) := by decide +kernel
theorem dX3_add_0 : decode cX3_add 0 = .ok (.aload_n 0, 1) := by decide +kernel
theorem dX3_add_1 : decode cX3_add 1 = .ok (.getfield 15, 3) := by decide +kernel
theorem dX3_add_4 : decode cX3_add 4 = .ok (.bipush 80, 2) := by decide +kernel
theorem dX3_add_6 : decode cX3_add 6 = .ok (.if_icmp .ge 24, 3) := by decide +kernel
theorem dX3_add_9 : decode cX3_add 9 = .ok (.aload_n 0, 1) := by decide +kernel
theorem dX3_add_10 : decode cX3_add 10 = .ok (.getfield 9, 3) := by decide +kernel
theorem dX3_add_13 : decode cX3_add 13 = .ok (.aload_n 0, 1) := by decide +kernel
theorem dX3_add_14 : decode cX3_add 14 = .ok (.getfield 15, 3) := by decide +kernel
theorem dX3_add_17 : decode cX3_add 17 = .ok (.iload_n 1, 1) := by decide +kernel
theorem dX3_add_18 : decode cX3_add 18 = .ok (.i2c, 1) := by decide +kernel
theorem dX3_add_19 : decode cX3_add 19 = .ok (.castore, 1) := by decide +kernel
theorem dX3_add_20 : decode cX3_add 20 = .ok (.aload_n 0, 1) := by decide +kernel
theorem dX3_add_21 : decode cX3_add 21 = .ok (.dup, 1) := by decide +kernel
theorem dX3_add_22 : decode cX3_add 22 = .ok (.getfield 15, 3) := by decide +kernel
theorem dX3_add_25 : decode cX3_add 25 = .ok (.iconst 1, 1) := by decide +kernel
theorem dX3_add_26 : decode cX3_add 26 = .ok (.iadd, 1) := by decide +kernel
theorem dX3_add_27 : decode cX3_add 27 = .ok (.putfield 15, 3) := by decide +kernel
theorem dX3_add_30 : decode cX3_add 30 = .ok (.return_, 1) := by decide +kernel
theorem dX3_faultPlace_0 : decode cX3_faultPlace 0 = .ok (.aload_n 0, 1) := by decide +kernel
theorem dX3_faultPlace_1 : decode cX3_faultPlace 1 = .ok (.iconst 0, 1) := by decide +kernel
theorem dX3_faultPlace_2 : decode cX3_faultPlace 2 = .ok (.putfield 19, 3) := by decide +kernel
theorem dX3_faultPlace_5 : decode cX3_faultPlace 5 = .ok (.iconst 0, 1) := by decide +kernel
theorem dX3_faultPlace_6 : decode cX3_faultPlace 6 = .ok (.istore_n 1, 1) := by decide +kernel
theorem dX3_faultPlace_7 : decode cX3_faultPlace 7 = .ok (.iload_n 1, 1) := by decide +kernel
theorem dX3_faultPlace_8 : decode cX3_faultPlace 8 = .ok (.bipush 80, 2) := by decide +kernel
theorem dX3_faultPlace_10 : decode cX3_faultPlace 10 = .ok (.if_icmp .gt 51, 3) := by decide +kernel
theorem dX3_faultPlace_13 : decode cX3_faultPlace 13 = .ok (.aload_n 0, 1) := by decide +kernel
theorem dX3_faultPlace_14 : decode cX3_faultPlace 14 = .ok (.invokevirtual 34, 3) := by decide +kernel
theorem dX3_faultPlace_17 : decode cX3_faultPlace 17 = .ok (.ifCond .ne 8, 3) := by decide +kernel
theorem dX3_faultPlace_20 : decode cX3_faultPlace 20 = .ok (.aload_n 0, 1) := by decide +kernel
theorem dX3_faultPlace_21 : decode cX3_faultPlace 21 = .ok (.getfield 19, 3) := by decide +kernel
theorem dX3_faultPlace_24 : decode cX3_faultPlace 24 = .ok (.ireturn, 1) := by decide +kernel
theorem dX3_faultPlace_25 : decode cX3_faultPlace 25 = .ok (.aload_n 0, 1) := by decide +kernel
theorem dX3_faultPlace_26 : decode cX3_faultPlace 26 = .ok (.getfield 19, 3) := by decide +kernel
theorem dX3_faultPlace_29 : decode cX3_faultPlace 29 = .ok (.aload_n 0, 1) := by decide +kernel
theorem dX3_faultPlace_30 : decode cX3_faultPlace 30 = .ok (.getfield 15, 3) := by decide +kernel
theorem dX3_faultPlace_33 : decode cX3_faultPlace 33 = .ok (.if_icmp .ne 6, 3) := by decide +kernel
theorem dX3_faultPlace_36 : decode cX3_faultPlace 36 = .ok (.bipush (-6), 2) := by decide +kernel
theorem dX3_faultPlace_38 : decode cX3_faultPlace 38 = .ok (.ireturn, 1) := by decide +kernel
theorem dX3_faultPlace_39 : decode cX3_faultPlace 39 = .ok (.aload_n 0, 1) := by decide +kernel
theorem dX3_faultPlace_40 : decode cX3_faultPlace 40 = .ok (.bipush 59, 2) := by decide +kernel
theorem dX3_faultPlace_42 : decode cX3_faultPlace 42 = .ok (.bipush 59, 2) := by decide +kernel
theorem dX3_faultPlace_44 : decode cX3_faultPlace 44 = .ok (.invokevirtual 38, 3) := by decide +kernel
theorem dX3_faultPlace_47 : decode cX3_faultPlace 47 = .ok (.ifCond .ne 8, 3) := by decide +kernel
theorem dX3_faultPlace_50 : decode cX3_faultPlace 50 = .ok (.aload_n 0, 1) := by decide +kernel
theorem dX3_faultPlace_51 : decode cX3_faultPlace 51 = .ok (.getfield 19, 3) := by decide +kernel
theorem dX3_faultPlace_54 : decode cX3_faultPlace 54 = .ok (.ireturn, 1) := by decide +kernel
theorem dX3_faultPlace_55 : decode cX3_faultPlace 55 = .ok (.iinc 1 1, 3) := by decide +kernel
theorem dX3_faultPlace_58 : decode cX3_faultPlace 58 = .ok (.goto (-51), 3) := by decide +kernel
theorem dX3_faultPlace_61 : decode cX3_faultPlace 61 = .ok (.aload_n 0, 1) := by decide +kernel
theorem dX3_faultPlace_62 : decode cX3_faultPlace 62 = .ok (.getfield 19, 3) := by decide +kernel
theorem dX3_faultPlace_65 : decode cX3_faultPlace 65 = .ok (.ireturn, 1) := by decide +kernel
theorem dX3_countBoards_0 : decode cX3_countBoards 0 = .ok (.iconst 1, 1) := by decide +kernel
theorem dX3_countBoards_1 : decode cX3_countBoards 1 = .ok (.istore_n 1, 1) := by decide +kernel
theorem dX3_countBoards_2 : decode cX3_countBoards 2 = .ok (.iconst 0, 1) := by decide +kernel
theorem dX3_countBoards_3 : decode cX3_countBoards 3 = .ok (.istore_n 2, 1) := by decide +kernel
theorem dX3_countBoards_4 : decode cX3_countBoards 4 = .ok (.iload_n 2, 1) := by decide +kernel
theorem dX3_countBoards_5 : decode cX3_countBoards 5 = .ok (.aload_n 0, 1) := by decide +kernel
theorem dX3_countBoards_6 : decode cX3_countBoards 6 = .ok (.getfield 15, 3) := by decide +kernel
theorem dX3_countBoards_9 : decode cX3_countBoards 9 = .ok (.if_icmp .ge 23, 3) := by decide +kernel
theorem dX3_countBoards_12 : decode cX3_countBoards 12 = .ok (.aload_n 0, 1) := by decide +kernel
theorem dX3_countBoards_13 : decode cX3_countBoards 13 = .ok (.getfield 9, 3) := by decide +kernel
theorem dX3_countBoards_16 : decode cX3_countBoards 16 = .ok (.iload_n 2, 1) := by decide +kernel
theorem dX3_countBoards_17 : decode cX3_countBoards 17 = .ok (.caload, 1) := by decide +kernel
theorem dX3_countBoards_18 : decode cX3_countBoards 18 = .ok (.bipush 59, 2) := by decide +kernel
theorem dX3_countBoards_20 : decode cX3_countBoards 20 = .ok (.if_icmp .ne 6, 3) := by decide +kernel
theorem dX3_countBoards_23 : decode cX3_countBoards 23 = .ok (.iinc 1 1, 3) := by decide +kernel
theorem dX3_countBoards_26 : decode cX3_countBoards 26 = .ok (.iinc 2 1, 3) := by decide +kernel
theorem dX3_countBoards_29 : decode cX3_countBoards 29 = .ok (.goto (-25), 3) := by decide +kernel
theorem dX3_countBoards_32 : decode cX3_countBoards 32 = .ok (.iload_n 1, 1) := by decide +kernel

theorem dX3_countBoards_33 : decode cX3_countBoards 33 = .ok (.ireturn, 1) := by decide +kernel
theorem dX3_hangUp_0 : decode cX3_hangUp 0 = .ok (.aload_n 0, 1) := by decide +kernel
theorem dX3_hangUp_1 : decode cX3_hangUp 1 = .ok (.iconst 0, 1) := by decide +kernel
theorem dX3_hangUp_2 : decode cX3_hangUp 2 = .ok (.putfield 19, 3) := by decide +kernel
theorem dX3_hangUp_5 : decode cX3_hangUp 5 = .ok (.iconst 0, 1) := by decide +kernel
theorem dX3_hangUp_6 : decode cX3_hangUp 6 = .ok (.istore_n 3, 1) := by decide +kernel
theorem dX3_hangUp_7 : decode cX3_hangUp 7 = .ok (.iload_n 3, 1) := by decide +kernel
theorem dX3_hangUp_8 : decode cX3_hangUp 8 = .ok (.iload_n 2, 1) := by decide +kernel
theorem dX3_hangUp_9 : decode cX3_hangUp 9 = .ok (.if_icmp .ge 45, 3) := by decide +kernel
theorem dX3_hangUp_12 : decode cX3_hangUp 12 = .ok (.aload_n 0, 1) := by decide +kernel
theorem dX3_hangUp_13 : decode cX3_hangUp 13 = .ok (.invokevirtual 34, 3) := by decide +kernel
theorem dX3_hangUp_16 : decode cX3_hangUp 16 = .ok (.ifCond .eq 38, 3) := by decide +kernel
theorem dX3_hangUp_19 : decode cX3_hangUp 19 = .ok (.aload_n 1, 1) := by decide +kernel
theorem dX3_hangUp_20 : decode cX3_hangUp 20 = .ok (.aload_n 0, 1) := by decide +kernel
theorem dX3_hangUp_21 : decode cX3_hangUp 21 = .ok (.getfield 31, 3) := by decide +kernel
theorem dX3_hangUp_24 : decode cX3_hangUp 24 = .ok (.aload_n 0, 1) := by decide +kernel
theorem dX3_hangUp_25 : decode cX3_hangUp 25 = .ok (.getfield 28, 3) := by decide +kernel
theorem dX3_hangUp_28 : decode cX3_hangUp 28 = .ok (.aload_n 0, 1) := by decide +kernel
theorem dX3_hangUp_29 : decode cX3_hangUp 29 = .ok (.getfield 25, 3) := by decide +kernel
theorem dX3_hangUp_32 : decode cX3_hangUp 32 = .ok (.aload_n 0, 1) := by decide +kernel
theorem dX3_hangUp_33 : decode cX3_hangUp 33 = .ok (.getfield 22, 3) := by decide +kernel
theorem dX3_hangUp_36 : decode cX3_hangUp 36 = .ok (.invokevirtual 42, 3) := by decide +kernel
theorem dX3_hangUp_39 : decode cX3_hangUp 39 = .ok (.aload_n 0, 1) := by decide +kernel
theorem dX3_hangUp_40 : decode cX3_hangUp 40 = .ok (.bipush 59, 2) := by decide +kernel
theorem dX3_hangUp_42 : decode cX3_hangUp 42 = .ok (.bipush 59, 2) := by decide +kernel
theorem dX3_hangUp_44 : decode cX3_hangUp 44 = .ok (.invokevirtual 38, 3) := by decide +kernel
theorem dX3_hangUp_47 : decode cX3_hangUp 47 = .ok (.pop, 1) := by decide +kernel
theorem dX3_hangUp_48 : decode cX3_hangUp 48 = .ok (.iinc 3 1, 3) := by decide +kernel
theorem dX3_hangUp_51 : decode cX3_hangUp 51 = .ok (.goto (-44), 3) := by decide +kernel
theorem dX3_hangUp_54 : decode cX3_hangUp 54 = .ok (.return_, 1) := by decide +kernel
theorem dX3_passBoard_0 : decode cX3_passBoard 0 = .ok (.aload_n 0, 1) := by decide +kernel
theorem dX3_passBoard_1 : decode cX3_passBoard 1 = .ok (.iconst (-1), 1) := by decide +kernel
theorem dX3_passBoard_2 : decode cX3_passBoard 2 = .ok (.invokevirtual 48, 3) := by decide +kernel
theorem dX3_passBoard_5 : decode cX3_passBoard 5 = .ok (.ifCond .ne 5, 3) := by decide +kernel
theorem dX3_passBoard_8 : decode cX3_passBoard 8 = .ok (.iconst 0, 1) := by decide +kernel
theorem dX3_passBoard_9 : decode cX3_passBoard 9 = .ok (.ireturn, 1) := by decide +kernel
theorem dX3_passBoard_10 : decode cX3_passBoard 10 = .ok (.aload_n 0, 1) := by decide +kernel
theorem dX3_passBoard_11 : decode cX3_passBoard 11 = .ok (.aload_n 0, 1) := by decide +kernel
theorem dX3_passBoard_12 : decode cX3_passBoard 12 = .ok (.getfield 22, 3) := by decide +kernel
theorem dX3_passBoard_15 : decode cX3_passBoard 15 = .ok (.putfield 28, 3) := by decide +kernel
theorem dX3_passBoard_18 : decode cX3_passBoard 18 = .ok (.aload_n 0, 1) := by decide +kernel
theorem dX3_passBoard_19 : decode cX3_passBoard 19 = .ok (.aload_n 0, 1) := by decide +kernel
theorem dX3_passBoard_20 : decode cX3_passBoard 20 = .ok (.getfield 25, 3) := by decide +kernel
theorem dX3_passBoard_23 : decode cX3_passBoard 23 = .ok (.putfield 31, 3) := by decide +kernel
theorem dX3_passBoard_26 : decode cX3_passBoard 26 = .ok (.aload_n 0, 1) := by decide +kernel
theorem dX3_passBoard_27 : decode cX3_passBoard 27 = .ok (.bipush 62, 2) := by decide +kernel
theorem dX3_passBoard_29 : decode cX3_passBoard 29 = .ok (.bipush 62, 2) := by decide +kernel
theorem dX3_passBoard_31 : decode cX3_passBoard 31 = .ok (.invokevirtual 38, 3) := by decide +kernel
theorem dX3_passBoard_34 : decode cX3_passBoard 34 = .ok (.ifCond .eq 18, 3) := by decide +kernel
theorem dX3_passBoard_37 : decode cX3_passBoard 37 = .ok (.aload_n 0, 1) := by decide +kernel
theorem dX3_passBoard_38 : decode cX3_passBoard 38 = .ok (.aload_n 0, 1) := by decide +kernel
theorem dX3_passBoard_39 : decode cX3_passBoard 39 = .ok (.getfield 31, 3) := by decide +kernel
theorem dX3_passBoard_42 : decode cX3_passBoard 42 = .ok (.invokevirtual 48, 3) := by decide +kernel
theorem dX3_passBoard_45 : decode cX3_passBoard 45 = .ok (.ifCond .eq 7, 3) := by decide +kernel
theorem dX3_passBoard_48 : decode cX3_passBoard 48 = .ok (.iconst 1, 1) := by decide +kernel
theorem dX3_passBoard_49 : decode cX3_passBoard 49 = .ok (.goto 4, 3) := by decide +kernel
theorem dX3_passBoard_52 : decode cX3_passBoard 52 = .ok (.iconst 0, 1) := by decide +kernel
theorem dX3_passBoard_53 : decode cX3_passBoard 53 = .ok (.ireturn, 1) := by decide +kernel
theorem dX3_passCoins_0 : decode cX3_passCoins 0 = .ok (.aload_n 0, 1) := by decide +kernel
theorem dX3_passCoins_1 : decode cX3_passCoins 1 = .ok (.bipush 49, 2) := by decide +kernel
theorem dX3_passCoins_3 : decode cX3_passCoins 3 = .ok (.bipush 57, 2) := by decide +kernel
theorem dX3_passCoins_5 : decode cX3_passCoins 5 = .ok (.invokevirtual 38, 3) := by decide +kernel
theorem dX3_passCoins_8 : decode cX3_passCoins 8 = .ok (.ifCond .ne 5, 3) := by decide +kernel
theorem dX3_passCoins_11 : decode cX3_passCoins 11 = .ok (.iconst 0, 1) := by decide +kernel
theorem dX3_passCoins_12 : decode cX3_passCoins 12 = .ok (.ireturn, 1) := by decide +kernel
theorem dX3_passCoins_13 : decode cX3_passCoins 13 = .ok (.aload_n 0, 1) := by decide +kernel
theorem dX3_passCoins_14 : decode cX3_passCoins 14 = .ok (.aload_n 0, 1) := by decide +kernel
theorem dX3_passCoins_15 : decode cX3_passCoins 15 = .ok (.getfield 9, 3) := by decide +kernel
theorem dX3_passCoins_18 : decode cX3_passCoins 18 = .ok (.aload_n 0, 1) := by decide +kernel
theorem dX3_passCoins_19 : decode cX3_passCoins 19 = .ok (.getfield 19, 3) := by decide +kernel
theorem dX3_passCoins_22 : decode cX3_passCoins 22 = .ok (.iconst 1, 1) := by decide +kernel
theorem dX3_passCoins_23 : decode cX3_passCoins 23 = .ok (.isub, 1) := by decide +kernel
theorem dX3_passCoins_24 : decode cX3_passCoins 24 = .ok (.caload, 1) := by decide +kernel
theorem dX3_passCoins_25 : decode cX3_passCoins 25 = .ok (.bipush 48, 2) := by decide +kernel
theorem dX3_passCoins_27 : decode cX3_passCoins 27 = .ok (.isub, 1) := by decide +kernel
theorem dX3_passCoins_28 : decode cX3_passCoins 28 = .ok (.putfield 22, 3) := by decide +kernel
theorem dX3_passCoins_31 : decode cX3_passCoins 31 = .ok (.aload_n 0, 1) := by decide +kernel
theorem dX3_passCoins_32 : decode cX3_passCoins 32 = .ok (.bipush 48, 2) := by decide +kernel
theorem dX3_passCoins_34 : decode cX3_passCoins 34 = .ok (.bipush 57, 2) := by decide +kernel
theorem dX3_passCoins_36 : decode cX3_passCoins 36 = .ok (.invokevirtual 38, 3) := by decide +kernel
theorem dX3_passCoins_39 : decode cX3_passCoins 39 = .ok (.ifCond .eq 29, 3) := by decide +kernel
theorem dX3_passCoins_42 : decode cX3_passCoins 42 = .ok (.aload_n 0, 1) := by decide +kernel
theorem dX3_passCoins_43 : decode cX3_passCoins 43 = .ok (.bipush 10, 2) := by decide +kernel
theorem dX3_passCoins_45 : decode cX3_passCoins 45 = .ok (.aload_n 0, 1) := by decide +kernel
theorem dX3_passCoins_46 : decode cX3_passCoins 46 = .ok (.getfield 22, 3) := by decide +kernel
theorem dX3_passCoins_49 : decode cX3_passCoins 49 = .ok (.imul, 1) := by decide +kernel
theorem dX3_passCoins_50 : decode cX3_passCoins 50 = .ok (.aload_n 0, 1) := by decide +kernel
theorem dX3_passCoins_51 : decode cX3_passCoins 51 = .ok (.getfield 9, 3) := by decide +kernel
theorem dX3_passCoins_54 : decode cX3_passCoins 54 = .ok (.aload_n 0, 1) := by decide +kernel
theorem dX3_passCoins_55 : decode cX3_passCoins 55 = .ok (.getfield 19, 3) := by decide +kernel
theorem dX3_passCoins_58 : decode cX3_passCoins 58 = .ok (.iconst 1, 1) := by decide +kernel
theorem dX3_passCoins_59 : decode cX3_passCoins 59 = .ok (.isub, 1) := by decide +kernel
theorem dX3_passCoins_60 : decode cX3_passCoins 60 = .ok (.caload, 1) := by decide +kernel
theorem dX3_passCoins_61 : decode cX3_passCoins 61 = .ok (.iadd, 1) := by decide +kernel
theorem dX3_passCoins_62 : decode cX3_passCoins 62 = .ok (.bipush 48, 2) := by decide +kernel
theorem dX3_passCoins_64 : decode cX3_passCoins 64 = .ok (.isub, 1) := by decide +kernel
theorem dX3_passCoins_65 : decode cX3_passCoins 65 = .ok (.putfield 22, 3) := by decide +kernel
theorem dX3_passCoins_68 : decode cX3_passCoins 68 = .ok (.aload_n 0, 1) := by decide +kernel
theorem dX3_passCoins_69 : decode cX3_passCoins 69 = .ok (.getfield 19, 3) := by decide +kernel
theorem dX3_passCoins_72 : decode cX3_passCoins 72 = .ok (.aload_n 0, 1) := by decide +kernel
theorem dX3_passCoins_73 : decode cX3_passCoins 73 = .ok (.getfield 15, 3) := by decide +kernel
theorem dX3_passCoins_76 : decode cX3_passCoins 76 = .ok (.if_icmp .ge 21, 3) := by decide +kernel
theorem dX3_passCoins_79 : decode cX3_passCoins 79 = .ok (.aload_n 0, 1) := by decide +kernel
theorem dX3_passCoins_80 : decode cX3_passCoins 80 = .ok (.getfield 9, 3) := by decide +kernel
theorem dX3_passCoins_83 : decode cX3_passCoins 83 = .ok (.aload_n 0, 1) := by decide +kernel
theorem dX3_passCoins_84 : decode cX3_passCoins 84 = .ok (.getfield 19, 3) := by decide +kernel
theorem dX3_passCoins_87 : decode cX3_passCoins 87 = .ok (.caload, 1) := by decide +kernel
theorem dX3_passCoins_88 : decode cX3_passCoins 88 = .ok (.bipush 97, 2) := by decide +kernel
theorem dX3_passCoins_90 : decode cX3_passCoins 90 = .ok (.isub, 1) := by decide +kernel
theorem dX3_passCoins_91 : decode cX3_passCoins 91 = .ok (.iload_n 1, 1) := by decide +kernel
theorem dX3_passCoins_92 : decode cX3_passCoins 92 = .ok (.if_icmp .ne 5, 3) := by decide +kernel
theorem dX3_passCoins_95 : decode cX3_passCoins 95 = .ok (.iconst 0, 1) := by decide +kernel
theorem dX3_passCoins_96 : decode cX3_passCoins 96 = .ok (.ireturn, 1) := by decide +kernel
theorem dX3_passCoins_97 : decode cX3_passCoins 97 = .ok (.aload_n 0, 1) := by decide +kernel
theorem dX3_passCoins_98 : decode cX3_passCoins 98 = .ok (.bipush 97, 2) := by decide +kernel
theorem dX3_passCoins_100 : decode cX3_passCoins 100 = .ok (.bipush 104, 2) := by decide +kernel
theorem dX3_passCoins_102 : decode cX3_passCoins 102 = .ok (.invokevirtual 38, 3) := by decide +kernel
theorem dX3_passCoins_105 : decode cX3_passCoins 105 = .ok (.ifCond .ne 5, 3) := by decide +kernel
theorem dX3_passCoins_108 : decode cX3_passCoins 108 = .ok (.iconst 0, 1) := by decide +kernel
theorem dX3_passCoins_109 : decode cX3_passCoins 109 = .ok (.ireturn, 1) := by decide +kernel
theorem dX3_passCoins_110 : decode cX3_passCoins 110 = .ok (.aload_n 0, 1) := by decide +kernel
theorem dX3_passCoins_111 : decode cX3_passCoins 111 = .ok (.aload_n 0, 1) := by decide +kernel
theorem dX3_passCoins_112 : decode cX3_passCoins 112 = .ok (.getfield 9, 3) := by decide +kernel
theorem dX3_passCoins_115 : decode cX3_passCoins 115 = .ok (.aload_n 0, 1) := by decide +kernel
theorem dX3_passCoins_116 : decode cX3_passCoins 116 = .ok (.getfield 19, 3) := by decide +kernel
theorem dX3_passCoins_119 : decode cX3_passCoins 119 = .ok (.iconst 1, 1) := by decide +kernel
theorem dX3_passCoins_120 : decode cX3_passCoins 120 = .ok (.isub, 1) := by decide +kernel
theorem dX3_passCoins_121 : decode cX3_passCoins 121 = .ok (.caload, 1) := by decide +kernel
theorem dX3_passCoins_122 : decode cX3_passCoins 122 = .ok (.bipush 97, 2) := by decide +kernel
theorem dX3_passCoins_124 : decode cX3_passCoins 124 = .ok (.isub, 1) := by decide +kernel
theorem dX3_passCoins_125 : decode cX3_passCoins 125 = .ok (.putfield 25, 3) := by decide +kernel
theorem dX3_passCoins_128 : decode cX3_passCoins 128 = .ok (.iconst 1, 1) := by decide +kernel
theorem dX3_passCoins_129 : decode cX3_passCoins 129 = .ok (.ireturn, 1) := by decide +kernel
theorem dX3_passOneOf_0 : decode cX3_passOneOf 0 = .ok (.aload_n 0, 1) := by decide +kernel
theorem dX3_passOneOf_1 : decode cX3_passOneOf 1 = .ok (.getfield 19, 3) := by decide +kernel
theorem dX3_passOneOf_4 : decode cX3_passOneOf 4 = .ok (.ifCond .lt 40, 3) := by decide +kernel
theorem dX3_passOneOf_7 : decode cX3_passOneOf 7 = .ok (.aload_n 0, 1) := by decide +kernel
theorem dX3_passOneOf_8 : decode cX3_passOneOf 8 = .ok (.getfield 19, 3) := by decide +kernel
theorem dX3_passOneOf_11 : decode cX3_passOneOf 11 = .ok (.aload_n 0, 1) := by decide +kernel
theorem dX3_passOneOf_12 : decode cX3_passOneOf 12 = .ok (.getfield 15, 3) := by decide +kernel
theorem dX3_passOneOf_15 : decode cX3_passOneOf 15 = .ok (.if_icmp .ge 29, 3) := by decide +kernel
theorem dX3_passOneOf_18 : decode cX3_passOneOf 18 = .ok (.aload_n 0, 1) := by decide +kernel
theorem dX3_passOneOf_19 : decode cX3_passOneOf 19 = .ok (.getfield 9, 3) := by decide +kernel
theorem dX3_passOneOf_22 : decode cX3_passOneOf 22 = .ok (.aload_n 0, 1) := by decide +kernel
theorem dX3_passOneOf_23 : decode cX3_passOneOf 23 = .ok (.getfield 19, 3) := by decide +kernel
theorem dX3_passOneOf_26 : decode cX3_passOneOf 26 = .ok (.caload, 1) := by decide +kernel
theorem dX3_passOneOf_27 : decode cX3_passOneOf 27 = .ok (.iload_n 1, 1) := by decide +kernel
theorem dX3_passOneOf_28 : decode cX3_passOneOf 28 = .ok (.if_icmp .lt 16, 3) := by decide +kernel
theorem dX3_passOneOf_31 : decode cX3_passOneOf 31 = .ok (.aload_n 0, 1) := by decide +kernel
theorem dX3_passOneOf_32 : decode cX3_passOneOf 32 = .ok (.getfield 9, 3) := by decide +kernel
theorem dX3_passOneOf_35 : decode cX3_passOneOf 35 = .ok (.aload_n 0, 1) := by decide +kernel
theorem dX3_passOneOf_36 : decode cX3_passOneOf 36 = .ok (.getfield 19, 3) := by decide +kernel
theorem dX3_passOneOf_39 : decode cX3_passOneOf 39 = .ok (.caload, 1) := by decide +kernel
theorem dX3_passOneOf_40 : decode cX3_passOneOf 40 = .ok (.iload_n 2, 1) := by decide +kernel
theorem dX3_passOneOf_41 : decode cX3_passOneOf 41 = .ok (.if_icmp .le 5, 3) := by decide +kernel
theorem dX3_passOneOf_44 : decode cX3_passOneOf 44 = .ok (.iconst 0, 1) := by decide +kernel
theorem dX3_passOneOf_45 : decode cX3_passOneOf 45 = .ok (.ireturn, 1) := by decide +kernel
theorem dX3_passOneOf_46 : decode cX3_passOneOf 46 = .ok (.aload_n 0, 1) := by decide +kernel
theorem dX3_passOneOf_47 : decode cX3_passOneOf 47 = .ok (.dup, 1) := by decide +kernel
theorem dX3_passOneOf_48 : decode cX3_passOneOf 48 = .ok (.getfield 19, 3) := by decide +kernel
theorem dX3_passOneOf_51 : decode cX3_passOneOf 51 = .ok (.iconst 1, 1) := by decide +kernel
theorem dX3_passOneOf_52 : decode cX3_passOneOf 52 = .ok (.iadd, 1) := by decide +kernel
theorem dX3_passOneOf_53 : decode cX3_passOneOf 53 = .ok (.putfield 19, 3) := by decide +kernel
theorem dX3_passOneOf_56 : decode cX3_passOneOf 56 = .ok (.iconst 1, 1) := by decide +kernel
theorem dX3_passOneOf_57 : decode cX3_passOneOf 57 = .ok (.ireturn, 1) := by decide +kernel
theorem dX4_init_0 : decode cX4_init 0 = .ok (.aload_n 0, 1) := by decide +kernel
theorem dX4_init_1 : decode cX4_init 1 = .ok (.invokespecial 3, 3) := by decide +kernel
theorem dX4_init_4 : decode cX4_init 4 = .ok (.aload_n 0, 1) := by decide +kernel
theorem dX4_init_5 : decode cX4_init 5 = .ok (.bipush 12, 2) := by decide +kernel
theorem dX4_init_7 : decode cX4_init 7 = .ok (.newarray .int, 2) := by decide +kernel
theorem dX4_init_9 : decode cX4_init 9 = .ok (.putfield 9, 3) := by decide +kernel
theorem dX4_init_12 : decode cX4_init 12 = .ok (.aload_n 0, 1) := by decide +kernel
theorem dX4_init_13 : decode cX4_init 13 = .ok (.iconst 0, 1) := by decide +kernel
theorem dX4_init_14 : decode cX4_init 14 = .ok (.putfield 15, 3) := by decide +kernel
theorem dX4_init_17 : decode cX4_init 17 = .ok (.aload_n 0, 1) := by decide +kernel
theorem dX4_init_18 : decode cX4_init 18 = .ok (.iconst 0, 1) := by decide +kernel
theorem dX4_init_19 : decode cX4_init 19 = .ok (.putfield 19, 3) := by decide +kernel
theorem dX4_init_22 : decode cX4_init 22 = .ok (.return_, 1) := by decide +kernel
theorem dX4_send_0 : decode cX4_send 0 = .ok (.aload_n 1, 1) := by decide +kernel
theorem dX4_send_1 : decode cX4_send 1 = .ok (.getfield 23, 3) := by decide +kernel
theorem dX4_send_4 : decode cX4_send 4 = .ok (.iconst 0, 1) := by decide +kernel
theorem dX4_send_5 : decode cX4_send 5 = .ok (.aload_n 0, 1) := by decide +kernel
theorem dX4_send_6 : decode cX4_send 6 = .ok (.getfield 9, 3) := by decide +kernel
theorem dX4_send_9 : decode cX4_send 9 = .ok (.iconst 0, 1) := by decide +kernel
theorem dX4_send_10 : decode cX4_send 10 = .ok (.bipush 12, 2) := by decide +kernel
theorem dX4_send_12 : decode cX4_send 12 = .ok (.invokestatic 26, 3) := by decide +kernel
theorem dX4_send_15 : decode cX4_send 15 = .ok (.aload_n 0, 1) := by decide +kernel
theorem dX4_send_16 : decode cX4_send 16 = .ok (.iconst 0, 1) := by decide +kernel
theorem dX4_send_17 : decode cX4_send 17 = .ok (.putfield 15, 3) := by decide +kernel
theorem dX4_send_20 : decode cX4_send 20 = .ok (.iconst 0, 1) := by decide +kernel
theorem dX4_send_21 : decode cX4_send 21 = .ok (.istore_n 3, 1) := by decide +kernel
theorem dX4_send_22 : decode cX4_send 22 = .ok (.iload_n 3, 1) := by decide +kernel
theorem dX4_send_23 : decode cX4_send 23 = .ok (.sipush 1176, 3) := by decide +kernel
theorem dX4_send_26 : decode cX4_send 26 = .ok (.if_icmp .ge 60, 3) := by decide +kernel
theorem dX4_send_29 : decode cX4_send 29 = .ok (.aload_n 2, 1) := by decide +kernel
theorem dX4_send_30 : decode cX4_send 30 = .ok (.aload_n 0, 1) := by decide +kernel
theorem dX4_send_31 : decode cX4_send 31 = .ok (.getfield 9, 3) := by decide +kernel
theorem dX4_send_34 : decode cX4_send 34 = .ok (.aload_n 1, 1) := by decide +kernel
theorem dX4_send_35 : decode cX4_send 35 = .ok (.getfield 32, 3) := by decide +kernel
theorem dX4_send_38 : decode cX4_send 38 = .ok (.iconst 0, 1) := by decide +kernel
theorem dX4_send_39 : decode cX4_send 39 = .ok (.iaload, 1) := by decide +kernel
theorem dX4_send_40 : decode cX4_send 40 = .ok (.invokevirtual 35, 3) := by decide +kernel
theorem dX4_send_43 : decode cX4_send 43 = .ok (.istore 4, 2) := by decide +kernel
theorem dX4_send_45 : decode cX4_send 45 = .ok (.iload 4, 2) := by decide +kernel
theorem dX4_send_47 : decode cX4_send 47 = .ok (.ifCond .ge 6, 3) := by decide +kernel
theorem dX4_send_50 : decode cX4_send 50 = .ok (.goto 36, 3) := by decide +kernel
theorem dX4_send_53 : decode cX4_send 53 = .ok (.aload_n 0, 1) := by decide +kernel
theorem dX4_send_54 : decode cX4_send 54 = .ok (.aload_n 2, 1) := by decide +kernel
theorem dX4_send_55 : decode cX4_send 55 = .ok (.getfield 41, 3) := by decide +kernel
theorem dX4_send_58 : decode cX4_send 58 = .ok (.iload 4, 2) := by decide +kernel
theorem dX4_send_60 : decode cX4_send 60 = .ok (.iaload, 1) := by decide +kernel
theorem dX4_send_61 : decode cX4_send 61 = .ok (.aload_n 1, 1) := by decide +kernel
theorem dX4_send_62 : decode cX4_send 62 = .ok (.getfield 32, 3) := by decide +kernel
theorem dX4_send_65 : decode cX4_send 65 = .ok (.iconst 2, 1) := by decide +kernel
theorem dX4_send_66 : decode cX4_send 66 = .ok (.iaload, 1) := by decide +kernel
theorem dX4_send_67 : decode cX4_send 67 = .ok (.invokevirtual 44, 3) := by decide +kernel
theorem dX4_send_70 : decode cX4_send 70 = .ok (.aload_n 0, 1) := by decide +kernel
theorem dX4_send_71 : decode cX4_send 71 = .ok (.dup, 1) := by decide +kernel
theorem dX4_send_72 : decode cX4_send 72 = .ok (.getfield 15, 3) := by decide +kernel
theorem dX4_send_75 : decode cX4_send 75 = .ok (.iconst 1, 1) := by decide +kernel
theorem dX4_send_76 : decode cX4_send 76 = .ok (.iadd, 1) := by decide +kernel
theorem dX4_send_77 : decode cX4_send 77 = .ok (.putfield 15, 3) := by decide +kernel
theorem dX4_send_80 : decode cX4_send 80 = .ok (.iinc 3 1, 3) := by decide +kernel
theorem dX4_send_83 : decode cX4_send 83 = .ok (.goto (-61), 3) := by decide +kernel
theorem dX4_send_86 : decode cX4_send 86 = .ok (.aload_n 0, 1) := by decide +kernel
theorem dX4_send_87 : decode cX4_send 87 = .ok (.iconst 1, 1) := by decide +kernel
theorem dX4_send_88 : decode cX4_send 88 = .ok (.putfield 19, 3) := by decide +kernel
theorem dX4_send_91 : decode cX4_send 91 = .ok (.return_, 1) := by decide +kernel
theorem dX4_wearOut_0 : decode cX4_wearOut 0 = .ok (.iconst 0, 1) := by decide +kernel
theorem dX4_wearOut_1 : decode cX4_wearOut 1 = .ok (.istore_n 3, 1) := by decide +kernel
theorem dX4_wearOut_2 : decode cX4_wearOut 2 = .ok (.iload_n 3, 1) := by decide +kernel
theorem dX4_wearOut_3 : decode cX4_wearOut 3 = .ok (.bipush 12, 2) := by decide +kernel
theorem dX4_wearOut_5 : decode cX4_wearOut 5 = .ok (.if_icmp .ge 36, 3) := by decide +kernel
theorem dX4_wearOut_8 : decode cX4_wearOut 8 = .ok (.iload_n 1, 1) := by decide +kernel
theorem dX4_wearOut_9 : decode cX4_wearOut 9 = .ok (.iload_n 3, 1) := by decide +kernel
theorem dX4_wearOut_10 : decode cX4_wearOut 10 = .ok (.ishr, 1) := by decide +kernel
theorem dX4_wearOut_11 : decode cX4_wearOut 11 = .ok (.iconst 1, 1) := by decide +kernel
theorem dX4_wearOut_12 : decode cX4_wearOut 12 = .ok (.iand, 1) := by decide +kernel
theorem dX4_wearOut_13 : decode cX4_wearOut 13 = .ok (.iconst 1, 1) := by decide +kernel
theorem dX4_wearOut_14 : decode cX4_wearOut 14 = .ok (.if_icmp .ne 21, 3) := by decide +kernel
theorem dX4_wearOut_17 : decode cX4_wearOut 17 = .ok (.aload_n 0, 1) := by decide +kernel
theorem dX4_wearOut_18 : decode cX4_wearOut 18 = .ok (.getfield 9, 3) := by decide +kernel
theorem dX4_wearOut_21 : decode cX4_wearOut 21 = .ok (.iload_n 3, 1) := by decide +kernel
theorem dX4_wearOut_22 : decode cX4_wearOut 22 = .ok (.iconst 1, 1) := by decide +kernel
theorem dX4_wearOut_23 : decode cX4_wearOut 23 = .ok (.aload_n 0, 1) := by decide +kernel
theorem dX4_wearOut_24 : decode cX4_wearOut 24 = .ok (.getfield 9, 3) := by decide +kernel
theorem dX4_wearOut_27 : decode cX4_wearOut 27 = .ok (.iload_n 3, 1) := by decide +kernel
theorem dX4_wearOut_28 : decode cX4_wearOut 28 = .ok (.iaload, 1) := by decide +kernel
theorem dX4_wearOut_29 : decode cX4_wearOut 29 = .ok (.iload_n 2, 1) := by decide +kernel
theorem dX4_wearOut_30 : decode cX4_wearOut 30 = .ok (.isub, 1) := by decide +kernel
theorem dX4_wearOut_31 : decode cX4_wearOut 31 = .ok (.invokestatic 48, 3) := by decide +kernel
theorem dX4_wearOut_34 : decode cX4_wearOut 34 = .ok (.iastore, 1) := by decide +kernel
theorem dX4_wearOut_35 : decode cX4_wearOut 35 = .ok (.iinc 3 1, 3) := by decide +kernel
theorem dX4_wearOut_38 : decode cX4_wearOut 38 = .ok (.goto (-36), 3) := by decide +kernel
theorem dX4_wearOut_41 : decode cX4_wearOut 41 = .ok (.return_, 1) := by decide +kernel
theorem dX5_init_0 : decode cX5_init 0 = .ok (.aload_n 0, 1) := by decide +kernel
theorem dX5_init_1 : decode cX5_init 1 = .ok (.invokespecial 3, 3) := by decide +kernel
theorem dX5_init_4 : decode cX5_init 4 = .ok (.aload_n 0, 1) := by decide +kernel
theorem dX5_init_5 : decode cX5_init 5 = .ok (.bipush 8, 2) := by decide +kernel
theorem dX5_init_7 : decode cX5_init 7 = .ok (.newarray .long, 2) := by decide +kernel
theorem dX5_init_9 : decode cX5_init 9 = .ok (.putfield 9, 3) := by decide +kernel
theorem dX5_init_12 : decode cX5_init 12 = .ok (.aload_n 0, 1) := by decide +kernel
theorem dX5_init_13 : decode cX5_init 13 = .ok (.bipush 8, 2) := by decide +kernel
theorem dX5_init_15 : decode cX5_init 15 = .ok (.newarray .long, 2) := by decide +kernel
theorem dX5_init_17 : decode cX5_init 17 = .ok (.putfield 15, 3) := by decide +kernel
theorem dX5_init_20 : decode cX5_init 20 = .ok (.aload_n 0, 1) := by decide +kernel
theorem dX5_init_21 : decode cX5_init 21 = .ok (.bipush 8, 2) := by decide +kernel
theorem dX5_init_23 : decode cX5_init 23 = .ok (.newarray .int, 2) := by decide +kernel
theorem dX5_init_25 : decode cX5_init 25 = .ok (.putfield 18, 3) := by decide +kernel
theorem dX5_init_28 : decode cX5_init 28 = .ok (.return_, 1) := by decide +kernel
theorem dX5_spread_0 : decode cX5_spread 0 = .ok (.iconst 0, 1) := by decide +kernel
theorem dX5_spread_1 : decode cX5_spread 1 = .ok (.istore_n 3, 1) := by decide +kernel
theorem dX5_spread_2 : decode cX5_spread 2 = .ok (.iload_n 3, 1) := by decide +kernel
theorem dX5_spread_3 : decode cX5_spread 3 = .ok (.bipush 8, 2) := by decide +kernel
theorem dX5_spread_5 : decode cX5_spread 5 = .ok (.if_icmp .ge 32, 3) := by decide +kernel
theorem dX5_spread_8 : decode cX5_spread 8 = .ok (.aload_n 0, 1) := by decide +kernel
theorem dX5_spread_9 : decode cX5_spread 9 = .ok (.getfield 9, 3) := by decide +kernel
theorem dX5_spread_12 : decode cX5_spread 12 = .ok (.iload_n 3, 1) := by decide +kernel
theorem dX5_spread_13 : decode cX5_spread 13 = .ok (.iload_n 3, 1) := by decide +kernel
theorem dX5_spread_14 : decode cX5_spread 14 = .ok (.iload_n 2, 1) := by decide +kernel
theorem dX5_spread_15 : decode cX5_spread 15 = .ok (.if_icmp .ne 7, 3) := by decide +kernel
theorem dX5_spread_18 : decode cX5_spread 18 = .ok (.lconst 1, 1) := by decide +kernel
theorem dX5_spread_19 : decode cX5_spread 19 = .ok (.goto 4, 3) := by decide +kernel
theorem dX5_spread_22 : decode cX5_spread 22 = .ok (.lconst 0, 1) := by decide +kernel
theorem dX5_spread_23 : decode cX5_spread 23 = .ok (.lastore, 1) := by decide +kernel
theorem dX5_spread_24 : decode cX5_spread 24 = .ok (.aload_n 0, 1) := by decide +kernel
theorem dX5_spread_25 : decode cX5_spread 25 = .ok (.getfield 15, 3) := by decide +kernel
theorem dX5_spread_28 : decode cX5_spread 28 = .ok (.iload_n 3, 1) := by decide +kernel
theorem dX5_spread_29 : decode cX5_spread 29 = .ok (.lconst 1, 1) := by decide +kernel
theorem dX5_spread_30 : decode cX5_spread 30 = .ok (.lastore, 1) := by decide +kernel
theorem dX5_spread_31 : decode cX5_spread 31 = .ok (.iinc 3 1, 3) := by decide +kernel
theorem dX5_spread_34 : decode cX5_spread 34 = .ok (.goto (-32), 3) := by decide +kernel
theorem dX5_spread_37 : decode cX5_spread 37 = .ok (.iconst 1, 1) := by decide +kernel
theorem dX5_spread_38 : decode cX5_spread 38 = .ok (.istore_n 3, 1) := by decide +kernel
theorem dX5_spread_39 : decode cX5_spread 39 = .ok (.iload_n 3, 1) := by decide +kernel
theorem dX5_spread_40 : decode cX5_spread 40 = .ok (.bipush 8, 2) := by decide +kernel
theorem dX5_spread_42 : decode cX5_spread 42 = .ok (.if_icmp .ge 43, 3) := by decide +kernel
theorem dX5_spread_45 : decode cX5_spread 45 = .ok (.iconst 0, 1) := by decide +kernel
theorem dX5_spread_46 : decode cX5_spread 46 = .ok (.istore 4, 2) := by decide +kernel
theorem dX5_spread_48 : decode cX5_spread 48 = .ok (.iload 4, 2) := by decide +kernel
theorem dX5_spread_50 : decode cX5_spread 50 = .ok (.aload_n 1, 1) := by decide +kernel
theorem dX5_spread_51 : decode cX5_spread 51 = .ok (.getfield 22, 3) := by decide +kernel
theorem dX5_spread_54 : decode cX5_spread 54 = .ok (.if_icmp .ge 25, 3) := by decide +kernel
theorem dX5_spread_57 : decode cX5_spread 57 = .ok (.aload_n 1, 1) := by decide +kernel
theorem dX5_spread_58 : decode cX5_spread 58 = .ok (.iload 4, 2) := by decide +kernel
theorem dX5_spread_60 : decode cX5_spread 60 = .ok (.invokevirtual 28, 3) := by decide +kernel
theorem dX5_spread_63 : decode cX5_spread 63 = .ok (.ifCond .eq 10, 3) := by decide +kernel
theorem dX5_spread_66 : decode cX5_spread 66 = .ok (.aload_n 0, 1) := by decide +kernel
theorem dX5_spread_67 : decode cX5_spread 67 = .ok (.aload_n 1, 1) := by decide +kernel
theorem dX5_spread_68 : decode cX5_spread 68 = .ok (.iload 4, 2) := by decide +kernel
theorem dX5_spread_70 : decode cX5_spread 70 = .ok (.invokevirtual 32, 3) := by decide +kernel
theorem dX5_spread_73 : decode cX5_spread 73 = .ok (.iinc 4 1, 3) := by decide +kernel
theorem dX5_spread_76 : decode cX5_spread 76 = .ok (.goto (-28), 3) := by decide +kernel
theorem dX5_spread_79 : decode cX5_spread 79 = .ok (.iinc 3 1, 3) := by decide +kernel
theorem dX5_spread_82 : decode cX5_spread 82 = .ok (.goto (-43), 3) := by decide +kernel
theorem dX5_spread_85 : decode cX5_spread 85 = .ok (.return_, 1) := by decide +kernel
theorem dX5_goOver_0 : decode cX5_goOver 0 = .ok (.aload_n 1, 1) := by decide +kernel
theorem dX5_goOver_1 : decode cX5_goOver 1 = .ok (.getfield 36, 3) := by decide +kernel
theorem dX5_goOver_4 : decode cX5_goOver 4 = .ok (.iload_n 2, 1) := by decide +kernel
theorem dX5_goOver_5 : decode cX5_goOver 5 = .ok (.iaload, 1) := by decide +kernel
theorem dX5_goOver_6 : decode cX5_goOver 6 = .ok (.istore_n 3, 1) := by decide +kernel
theorem dX5_goOver_7 : decode cX5_goOver 7 = .ok (.aload_n 1, 1) := by decide +kernel
theorem dX5_goOver_8 : decode cX5_goOver 8 = .ok (.getfield 39, 3) := by decide +kernel
theorem dX5_goOver_11 : decode cX5_goOver 11 = .ok (.iload_n 2, 1) := by decide +kernel
theorem dX5_goOver_12 : decode cX5_goOver 12 = .ok (.iaload, 1) := by decide +kernel
theorem dX5_goOver_13 : decode cX5_goOver 13 = .ok (.istore 4, 2) := by decide +kernel
theorem dX5_goOver_15 : decode cX5_goOver 15 = .ok (.aload_n 0, 1) := by decide +kernel
theorem dX5_goOver_16 : decode cX5_goOver 16 = .ok (.getfield 9, 3) := by decide +kernel
theorem dX5_goOver_19 : decode cX5_goOver 19 = .ok (.iload_n 3, 1) := by decide +kernel
theorem dX5_goOver_20 : decode cX5_goOver 20 = .ok (.laload, 1) := by decide +kernel
theorem dX5_goOver_21 : decode cX5_goOver 21 = .ok (.aload_n 1, 1) := by decide +kernel
theorem dX5_goOver_22 : decode cX5_goOver 22 = .ok (.iload_n 2, 1) := by decide +kernel
theorem dX5_goOver_23 : decode cX5_goOver 23 = .ok (.invokevirtual 42, 3) := by decide +kernel
theorem dX5_goOver_26 : decode cX5_goOver 26 = .ok (.i2l, 1) := by decide +kernel
theorem dX5_goOver_27 : decode cX5_goOver 27 = .ok (.lmul, 1) := by decide +kernel
theorem dX5_goOver_28 : decode cX5_goOver 28 = .ok (.lstore 5, 2) := by decide +kernel
theorem dX5_goOver_30 : decode cX5_goOver 30 = .ok (.aload_n 0, 1) := by decide +kernel
theorem dX5_goOver_31 : decode cX5_goOver 31 = .ok (.getfield 15, 3) := by decide +kernel
theorem dX5_goOver_34 : decode cX5_goOver 34 = .ok (.iload_n 3, 1) := by decide +kernel
theorem dX5_goOver_35 : decode cX5_goOver 35 = .ok (.laload, 1) := by decide +kernel
theorem dX5_goOver_36 : decode cX5_goOver 36 = .ok (.aload_n 1, 1) := by decide +kernel
theorem dX5_goOver_37 : decode cX5_goOver 37 = .ok (.getfield 45, 3) := by decide +kernel
theorem dX5_goOver_40 : decode cX5_goOver 40 = .ok (.iload_n 2, 1) := by decide +kernel
theorem dX5_goOver_41 : decode cX5_goOver 41 = .ok (.iaload, 1) := by decide +kernel
theorem dX5_goOver_42 : decode cX5_goOver 42 = .ok (.i2l, 1) := by decide +kernel
theorem dX5_goOver_43 : decode cX5_goOver 43 = .ok (.lmul, 1) := by decide +kernel
theorem dX5_goOver_44 : decode cX5_goOver 44 = .ok (.lstore 7, 2) := by decide +kernel
theorem dX5_goOver_46 : decode cX5_goOver 46 = .ok (.lload 5, 2) := by decide +kernel
theorem dX5_goOver_48 : decode cX5_goOver 48 = .ok (.lload 7, 2) := by decide +kernel
theorem dX5_goOver_50 : decode cX5_goOver 50 = .ok (.aload_n 0, 1) := by decide +kernel
theorem dX5_goOver_51 : decode cX5_goOver 51 = .ok (.getfield 9, 3) := by decide +kernel
theorem dX5_goOver_54 : decode cX5_goOver 54 = .ok (.iload 4, 2) := by decide +kernel
theorem dX5_goOver_56 : decode cX5_goOver 56 = .ok (.laload, 1) := by decide +kernel
theorem dX5_goOver_57 : decode cX5_goOver 57 = .ok (.aload_n 0, 1) := by decide +kernel
theorem dX5_goOver_58 : decode cX5_goOver 58 = .ok (.getfield 15, 3) := by decide +kernel
theorem dX5_goOver_61 : decode cX5_goOver 61 = .ok (.iload 4, 2) := by decide +kernel
theorem dX5_goOver_63 : decode cX5_goOver 63 = .ok (.laload, 1) := by decide +kernel
theorem dX5_goOver_64 : decode cX5_goOver 64 = .ok (.invokestatic 48, 3) := by decide +kernel
theorem dX5_goOver_67 : decode cX5_goOver 67 = .ok (.ifCond .eq 40, 3) := by decide +kernel
theorem dX5_goOver_70 : decode cX5_goOver 70 = .ok (.lload 5, 2) := by decide +kernel
theorem dX5_goOver_72 : decode cX5_goOver 72 = .ok (.lload 7, 2) := by decide +kernel
theorem dX5_goOver_74 : decode cX5_goOver 74 = .ok (.invokestatic 52, 3) := by decide +kernel
theorem dX5_goOver_77 : decode cX5_goOver 77 = .ok (.lstore 9, 2) := by decide +kernel
theorem dX5_goOver_79 : decode cX5_goOver 79 = .ok (.aload_n 0, 1) := by decide +kernel
theorem dX5_goOver_80 : decode cX5_goOver 80 = .ok (.getfield 9, 3) := by decide +kernel
theorem dX5_goOver_83 : decode cX5_goOver 83 = .ok (.iload 4, 2) := by decide +kernel
theorem dX5_goOver_85 : decode cX5_goOver 85 = .ok (.lload 5, 2) := by decide +kernel
theorem dX5_goOver_87 : decode cX5_goOver 87 = .ok (.lload 9, 2) := by decide +kernel
theorem dX5_goOver_89 : decode cX5_goOver 89 = .ok (.invokestatic 56, 3) := by decide +kernel
theorem dX5_goOver_92 : decode cX5_goOver 92 = .ok (.lastore, 1) := by decide +kernel
theorem dX5_goOver_93 : decode cX5_goOver 93 = .ok (.aload_n 0, 1) := by decide +kernel
theorem dX5_goOver_94 : decode cX5_goOver 94 = .ok (.getfield 15, 3) := by decide +kernel
theorem dX5_goOver_97 : decode cX5_goOver 97 = .ok (.iload 4, 2) := by decide +kernel
theorem dX5_goOver_99 : decode cX5_goOver 99 = .ok (.lload 7, 2) := by decide +kernel
theorem dX5_goOver_101 : decode cX5_goOver 101 = .ok (.lload 9, 2) := by decide +kernel
theorem dX5_goOver_103 : decode cX5_goOver 103 = .ok (.invokestatic 56, 3) := by decide +kernel
theorem dX5_goOver_106 : decode cX5_goOver 106 = .ok (.lastore, 1) := by decide +kernel
theorem dX5_goOver_107 : decode cX5_goOver 107 = .ok (.return_, 1) := by decide +kernel
theorem dX5_reachOut_0 : decode cX5_reachOut 0 = .ok (.iconst 0, 1) := by decide +kernel
theorem dX5_reachOut_1 : decode cX5_reachOut 1 = .ok (.istore_n 2, 1) := by decide +kernel
theorem dX5_reachOut_2 : decode cX5_reachOut 2 = .ok (.iload_n 2, 1) := by decide +kernel
theorem dX5_reachOut_3 : decode cX5_reachOut 3 = .ok (.bipush 8, 2) := by decide +kernel
theorem dX5_reachOut_5 : decode cX5_reachOut 5 = .ok (.if_icmp .ge 18, 3) := by decide +kernel
theorem dX5_reachOut_8 : decode cX5_reachOut 8 = .ok (.aload_n 0, 1) := by decide +kernel
theorem dX5_reachOut_9 : decode cX5_reachOut 9 = .ok (.getfield 18, 3) := by decide +kernel
theorem dX5_reachOut_12 : decode cX5_reachOut 12 = .ok (.iload_n 2, 1) := by decide +kernel
theorem dX5_reachOut_13 : decode cX5_reachOut 13 = .ok (.iconst 1, 1) := by decide +kernel
theorem dX5_reachOut_14 : decode cX5_reachOut 14 = .ok (.iload_n 2, 1) := by decide +kernel
theorem dX5_reachOut_15 : decode cX5_reachOut 15 = .ok (.ishl, 1) := by decide +kernel
theorem dX5_reachOut_16 : decode cX5_reachOut 16 = .ok (.iastore, 1) := by decide +kernel
theorem dX5_reachOut_17 : decode cX5_reachOut 17 = .ok (.iinc 2 1, 3) := by decide +kernel
theorem dX5_reachOut_20 : decode cX5_reachOut 20 = .ok (.goto (-18), 3) := by decide +kernel
theorem dX5_reachOut_23 : decode cX5_reachOut 23 = .ok (.iconst 1, 1) := by decide +kernel
theorem dX5_reachOut_24 : decode cX5_reachOut 24 = .ok (.istore_n 2, 1) := by decide +kernel
theorem dX5_reachOut_25 : decode cX5_reachOut 25 = .ok (.iload_n 2, 1) := by decide +kernel
theorem dX5_reachOut_26 : decode cX5_reachOut 26 = .ok (.bipush 8, 2) := by decide +kernel
theorem dX5_reachOut_28 : decode cX5_reachOut 28 = .ok (.if_icmp .ge 58, 3) := by decide +kernel
theorem dX5_reachOut_31 : decode cX5_reachOut 31 = .ok (.iconst 0, 1) := by decide +kernel
theorem dX5_reachOut_32 : decode cX5_reachOut 32 = .ok (.istore_n 3, 1) := by decide +kernel
theorem dX5_reachOut_33 : decode cX5_reachOut 33 = .ok (.iload_n 3, 1) := by decide +kernel
theorem dX5_reachOut_34 : decode cX5_reachOut 34 = .ok (.aload_n 1, 1) := by decide +kernel
theorem dX5_reachOut_35 : decode cX5_reachOut 35 = .ok (.getfield 22, 3) := by decide +kernel
theorem dX5_reachOut_38 : decode cX5_reachOut 38 = .ok (.if_icmp .ge 42, 3) := by decide +kernel
theorem dX5_reachOut_41 : decode cX5_reachOut 41 = .ok (.aload_n 1, 1) := by decide +kernel
theorem dX5_reachOut_42 : decode cX5_reachOut 42 = .ok (.iload_n 3, 1) := by decide +kernel
theorem dX5_reachOut_43 : decode cX5_reachOut 43 = .ok (.invokevirtual 28, 3) := by decide +kernel
theorem dX5_reachOut_46 : decode cX5_reachOut 46 = .ok (.ifCond .eq 28, 3) := by decide +kernel
theorem dX5_reachOut_49 : decode cX5_reachOut 49 = .ok (.aload_n 0, 1) := by decide +kernel
theorem dX5_reachOut_50 : decode cX5_reachOut 50 = .ok (.getfield 18, 3) := by decide +kernel
theorem dX5_reachOut_53 : decode cX5_reachOut 53 = .ok (.aload_n 1, 1) := by decide +kernel
theorem dX5_reachOut_54 : decode cX5_reachOut 54 = .ok (.getfield 36, 3) := by decide +kernel
theorem dX5_reachOut_57 : decode cX5_reachOut 57 = .ok (.iload_n 3, 1) := by decide +kernel
theorem dX5_reachOut_58 : decode cX5_reachOut 58 = .ok (.iaload, 1) := by decide +kernel
theorem dX5_reachOut_59 : decode cX5_reachOut 59 = .ok (.dup2, 1) := by decide +kernel
theorem dX5_reachOut_60 : decode cX5_reachOut 60 = .ok (.iaload, 1) := by decide +kernel
theorem dX5_reachOut_61 : decode cX5_reachOut 61 = .ok (.aload_n 0, 1) := by decide +kernel
theorem dX5_reachOut_62 : decode cX5_reachOut 62 = .ok (.getfield 18, 3) := by decide +kernel
theorem dX5_reachOut_65 : decode cX5_reachOut 65 = .ok (.aload_n 1, 1) := by decide +kernel
theorem dX5_reachOut_66 : decode cX5_reachOut 66 = .ok (.getfield 39, 3) := by decide +kernel
theorem dX5_reachOut_69 : decode cX5_reachOut 69 = .ok (.iload_n 3, 1) := by decide +kernel
theorem dX5_reachOut_70 : decode cX5_reachOut 70 = .ok (.iaload, 1) := by decide +kernel
theorem dX5_reachOut_71 : decode cX5_reachOut 71 = .ok (.iaload, 1) := by decide +kernel
theorem dX5_reachOut_72 : decode cX5_reachOut 72 = .ok (.ior, 1) := by decide +kernel
theorem dX5_reachOut_73 : decode cX5_reachOut 73 = .ok (.iastore, 1) := by decide +kernel
theorem dX5_reachOut_74 : decode cX5_reachOut 74 = .ok (.iinc 3 1, 3) := by decide +kernel
theorem dX5_reachOut_77 : decode cX5_reachOut 77 = .ok (.goto (-44), 3) := by decide +kernel
theorem dX5_reachOut_80 : decode cX5_reachOut 80 = .ok (.iinc 2 1, 3) := by decide +kernel
theorem dX5_reachOut_83 : decode cX5_reachOut 83 = .ok (.goto (-58), 3) := by decide +kernel
theorem dX5_reachOut_86 : decode cX5_reachOut 86 = .ok (.return_, 1) := by decide +kernel
theorem dX5_joinedBits_0 : decode cX5_joinedBits 0 = .ok (.iconst 0, 1) := by decide +kernel
theorem dX5_joinedBits_1 : decode cX5_joinedBits 1 = .ok (.istore_n 2, 1) := by decide +kernel
theorem dX5_joinedBits_2 : decode cX5_joinedBits 2 = .ok (.iconst 0, 1) := by decide +kernel
theorem dX5_joinedBits_3 : decode cX5_joinedBits 3 = .ok (.istore_n 3, 1) := by decide +kernel
theorem dX5_joinedBits_4 : decode cX5_joinedBits 4 = .ok (.iload_n 3, 1) := by decide +kernel
theorem dX5_joinedBits_5 : decode cX5_joinedBits 5 = .ok (.bipush 8, 2) := by decide +kernel
theorem dX5_joinedBits_7 : decode cX5_joinedBits 7 = .ok (.if_icmp .ge 43, 3) := by decide +kernel
theorem dX5_joinedBits_10 : decode cX5_joinedBits 10 = .ok (.aload_n 0, 1) := by decide +kernel
theorem dX5_joinedBits_11 : decode cX5_joinedBits 11 = .ok (.getfield 18, 3) := by decide +kernel
theorem dX5_joinedBits_14 : decode cX5_joinedBits 14 = .ok (.iload_n 1, 1) := by decide +kernel
theorem dX5_joinedBits_15 : decode cX5_joinedBits 15 = .ok (.iaload, 1) := by decide +kernel
theorem dX5_joinedBits_16 : decode cX5_joinedBits 16 = .ok (.iload_n 3, 1) := by decide +kernel
theorem dX5_joinedBits_17 : decode cX5_joinedBits 17 = .ok (.ishr, 1) := by decide +kernel
theorem dX5_joinedBits_18 : decode cX5_joinedBits 18 = .ok (.iconst 1, 1) := by decide +kernel
theorem dX5_joinedBits_19 : decode cX5_joinedBits 19 = .ok (.iand, 1) := by decide +kernel
theorem dX5_joinedBits_20 : decode cX5_joinedBits 20 = .ok (.iconst 1, 1) := by decide +kernel
theorem dX5_joinedBits_21 : decode cX5_joinedBits 21 = .ok (.if_icmp .ne 23, 3) := by decide +kernel
theorem dX5_joinedBits_24 : decode cX5_joinedBits 24 = .ok (.aload_n 0, 1) := by decide +kernel
theorem dX5_joinedBits_25 : decode cX5_joinedBits 25 = .ok (.getfield 18, 3) := by decide +kernel
theorem dX5_joinedBits_28 : decode cX5_joinedBits 28 = .ok (.iload_n 3, 1) := by decide +kernel
theorem dX5_joinedBits_29 : decode cX5_joinedBits 29 = .ok (.iaload, 1) := by decide +kernel
theorem dX5_joinedBits_30 : decode cX5_joinedBits 30 = .ok (.iload_n 1, 1) := by decide +kernel
theorem dX5_joinedBits_31 : decode cX5_joinedBits 31 = .ok (.ishr, 1) := by decide +kernel
theorem dX5_joinedBits_32 : decode cX5_joinedBits 32 = .ok (.iconst 1, 1) := by decide +kernel
theorem dX5_joinedBits_33 : decode cX5_joinedBits 33 = .ok (.iand, 1) := by decide +kernel
theorem dX5_joinedBits_34 : decode cX5_joinedBits 34 = .ok (.iconst 1, 1) := by decide +kernel
theorem dX5_joinedBits_35 : decode cX5_joinedBits 35 = .ok (.if_icmp .ne 9, 3) := by decide +kernel
theorem dX5_joinedBits_38 : decode cX5_joinedBits 38 = .ok (.iload_n 2, 1) := by decide +kernel
theorem dX5_joinedBits_39 : decode cX5_joinedBits 39 = .ok (.iconst 1, 1) := by decide +kernel
theorem dX5_joinedBits_40 : decode cX5_joinedBits 40 = .ok (.iload_n 3, 1) := by decide +kernel
theorem dX5_joinedBits_41 : decode cX5_joinedBits 41 = .ok (.ishl, 1) := by decide +kernel
theorem dX5_joinedBits_42 : decode cX5_joinedBits 42 = .ok (.ior, 1) := by decide +kernel
theorem dX5_joinedBits_43 : decode cX5_joinedBits 43 = .ok (.istore_n 2, 1) := by decide +kernel
theorem dX5_joinedBits_44 : decode cX5_joinedBits 44 = .ok (.iinc 3 1, 3) := by decide +kernel
theorem dX5_joinedBits_47 : decode cX5_joinedBits 47 = .ok (.goto (-43), 3) := by decide +kernel
theorem dX5_joinedBits_50 : decode cX5_joinedBits 50 = .ok (.iload_n 2, 1) := by decide +kernel
theorem dX5_joinedBits_51 : decode cX5_joinedBits 51 = .ok (.ireturn, 1) := by decide +kernel
theorem dX5_countSets_0 : decode cX5_countSets 0 = .ok (.iconst 0, 1) := by decide +kernel
theorem dX5_countSets_1 : decode cX5_countSets 1 = .ok (.istore_n 1, 1) := by decide +kernel
theorem dX5_countSets_2 : decode cX5_countSets 2 = .ok (.iconst 0, 1) := by decide +kernel
theorem dX5_countSets_3 : decode cX5_countSets 3 = .ok (.istore_n 2, 1) := by decide +kernel
theorem dX5_countSets_4 : decode cX5_countSets 4 = .ok (.iload_n 2, 1) := by decide +kernel
theorem dX5_countSets_5 : decode cX5_countSets 5 = .ok (.bipush 8, 2) := by decide +kernel
theorem dX5_countSets_7 : decode cX5_countSets 7 = .ok (.if_icmp .ge 26, 3) := by decide +kernel
theorem dX5_countSets_10 : decode cX5_countSets 10 = .ok (.aload_n 0, 1) := by decide +kernel
theorem dX5_countSets_11 : decode cX5_countSets 11 = .ok (.iload_n 2, 1) := by decide +kernel
theorem dX5_countSets_12 : decode cX5_countSets 12 = .ok (.invokevirtual 59, 3) := by decide +kernel
theorem dX5_countSets_15 : decode cX5_countSets 15 = .ok (.invokestatic 62, 3) := by decide +kernel
theorem dX5_countSets_18 : decode cX5_countSets 18 = .ok (.iconst 1, 1) := by decide +kernel
theorem dX5_countSets_19 : decode cX5_countSets 19 = .ok (.iload_n 2, 1) := by decide +kernel
theorem dX5_countSets_20 : decode cX5_countSets 20 = .ok (.ishl, 1) := by decide +kernel
theorem dX5_countSets_21 : decode cX5_countSets 21 = .ok (.if_icmp .ne 6, 3) := by decide +kernel
theorem dX5_countSets_24 : decode cX5_countSets 24 = .ok (.iinc 1 1, 3) := by decide +kernel
theorem dX5_countSets_27 : decode cX5_countSets 27 = .ok (.iinc 2 1, 3) := by decide +kernel
theorem dX5_countSets_30 : decode cX5_countSets 30 = .ok (.goto (-26), 3) := by decide +kernel
theorem dX5_countSets_33 : decode cX5_countSets 33 = .ok (.iload_n 1, 1) := by decide +kernel
theorem dX5_countSets_34 : decode cX5_countSets 34 = .ok (.ireturn, 1) := by decide +kernel
theorem dX6_init_0 : decode cX6_init 0 = .ok (.aload_n 0, 1) := by decide +kernel
theorem dX6_init_1 : decode cX6_init 1 = .ok (.invokespecial 3, 3) := by decide +kernel
theorem dX6_init_4 : decode cX6_init 4 = .ok (.aload_n 0, 1) := by decide +kernel
theorem dX6_init_5 : decode cX6_init 5 = .ok (.new 9, 3) := by decide +kernel
theorem dX6_init_8 : decode cX6_init 8 = .ok (.dup, 1) := by decide +kernel
theorem dX6_init_9 : decode cX6_init 9 = .ok (.invokespecial 11, 3) := by decide +kernel
theorem dX6_init_12 : decode cX6_init 12 = .ok (.putfield 12, 3) := by decide +kernel
theorem dX6_init_15 : decode cX6_init 15 = .ok (.aload_n 0, 1) := by decide +kernel
theorem dX6_init_16 : decode cX6_init 16 = .ok (.new 16, 3) := by decide +kernel
theorem dX6_init_19 : decode cX6_init 19 = .ok (.dup, 1) := by decide +kernel
theorem dX6_init_20 : decode cX6_init 20 = .ok (.invokespecial 18, 3) := by decide +kernel
theorem dX6_init_23 : decode cX6_init 23 = .ok (.putfield 19, 3) := by decide +kernel
theorem dX6_init_26 : decode cX6_init 26 = .ok (.aload_n 0, 1) := by decide +kernel
theorem dX6_init_27 : decode cX6_init 27 = .ok (.new 23, 3) := by decide +kernel
theorem dX6_init_30 : decode cX6_init 30 = .ok (.dup, 1) := by decide +kernel
theorem dX6_init_31 : decode cX6_init 31 = .ok (.invokespecial 25, 3) := by decide +kernel
theorem dX6_init_34 : decode cX6_init 34 = .ok (.putfield 26, 3) := by decide +kernel
theorem dX6_init_37 : decode cX6_init 37 = .ok (.aload_n 0, 1) := by decide +kernel
theorem dX6_init_38 : decode cX6_init 38 = .ok (.new 30, 3) := by decide +kernel
theorem dX6_init_41 : decode cX6_init 41 = .ok (.dup, 1) := by decide +kernel
theorem dX6_init_42 : decode cX6_init 42 = .ok (.invokespecial 32, 3) := by decide +kernel
theorem dX6_init_45 : decode cX6_init 45 = .ok (.putfield 33, 3) := by decide +kernel
theorem dX6_init_48 : decode cX6_init 48 = .ok (.aload_n 0, 1) := by decide +kernel
theorem dX6_init_49 : decode cX6_init 49 = .ok (.new 37, 3) := by decide +kernel
theorem dX6_init_52 : decode cX6_init 52 = .ok (.dup, 1) := by decide +kernel
theorem dX6_init_53 : decode cX6_init 53 = .ok (.invokespecial 39, 3) := by decide +kernel
theorem dX6_init_56 : decode cX6_init 56 = .ok (.putfield 40, 3) := by decide +kernel
theorem dX6_init_59 : decode cX6_init 59 = .ok (.aload_n 0, 1) := by decide +kernel
theorem dX6_init_60 : decode cX6_init 60 = .ok (.new 44, 3) := by decide +kernel
theorem dX6_init_63 : decode cX6_init 63 = .ok (.dup, 1) := by decide +kernel
theorem dX6_init_64 : decode cX6_init 64 = .ok (.invokespecial 46, 3) := by decide +kernel
theorem dX6_init_67 : decode cX6_init 67 = .ok (.putfield 47, 3) := by decide +kernel
theorem dX6_init_70 : decode cX6_init 70 = .ok (.aload_n 0, 1) := by decide +kernel
theorem dX6_init_71 : decode cX6_init 71 = .ok (.bipush 8, 2) := by decide +kernel
theorem dX6_init_73 : decode cX6_init 73 = .ok (.newarray .int, 2) := by decide +kernel
theorem dX6_init_75 : decode cX6_init 75 = .ok (.putfield 51, 3) := by decide +kernel
theorem dX6_init_78 : decode cX6_init 78 = .ok (.iconst 0, 1) := by decide +kernel
theorem dX6_init_79 : decode cX6_init 79 = .ok (.istore_n 1, 1) := by decide +kernel
theorem dX6_init_80 : decode cX6_init 80 = .ok (.iload_n 1, 1) := by decide +kernel
theorem dX6_init_81 : decode cX6_init 81 = .ok (.bipush 8, 2) := by decide +kernel
theorem dX6_init_83 : decode cX6_init 83 = .ok (.if_icmp .ge 16, 3) := by decide +kernel
theorem dX6_init_86 : decode cX6_init 86 = .ok (.aload_n 0, 1) := by decide +kernel
theorem dX6_init_87 : decode cX6_init 87 = .ok (.getfield 51, 3) := by decide +kernel
theorem dX6_init_90 : decode cX6_init 90 = .ok (.iload_n 1, 1) := by decide +kernel
theorem dX6_init_91 : decode cX6_init 91 = .ok (.iconst 1, 1) := by decide +kernel
theorem dX6_init_92 : decode cX6_init 92 = .ok (.iastore, 1) := by decide +kernel
theorem dX6_init_93 : decode cX6_init 93 = .ok (.iinc 1 1, 3) := by decide +kernel
theorem dX6_init_96 : decode cX6_init 96 = .ok (.goto (-16), 3) := by decide +kernel
theorem dX6_init_99 : decode cX6_init 99 = .ok (.return_, 1) := by decide +kernel
theorem dX6_board_0 : decode cX6_board 0 = .ok (.iload_n 1, 1) := by decide +kernel
theorem dX6_board_1 : decode cX6_board 1 = .ok (.invokestatic 55, 3) := by decide +kernel
theorem dX6_board_4 : decode cX6_board 4 = .ok (.ifCond .eq 15, 3) := by decide +kernel
theorem dX6_board_7 : decode cX6_board 7 = .ok (.iload_n 3, 1) := by decide +kernel
theorem dX6_board_8 : decode cX6_board 8 = .ok (.invokestatic 55, 3) := by decide +kernel
theorem dX6_board_11 : decode cX6_board 11 = .ok (.ifCond .eq 8, 3) := by decide +kernel
theorem dX6_board_14 : decode cX6_board 14 = .ok (.iload_n 1, 1) := by decide +kernel
theorem dX6_board_15 : decode cX6_board 15 = .ok (.iload_n 3, 1) := by decide +kernel
theorem dX6_board_16 : decode cX6_board 16 = .ok (.if_icmp .ne 5, 3) := by decide +kernel
theorem dX6_board_19 : decode cX6_board 19 = .ok (.iconst (-1), 1) := by decide +kernel
theorem dX6_board_20 : decode cX6_board 20 = .ok (.ireturn, 1) := by decide +kernel
theorem dX6_board_21 : decode cX6_board 21 = .ok (.iload_n 2, 1) := by decide +kernel
theorem dX6_board_22 : decode cX6_board 22 = .ok (.iconst 1, 1) := by decide +kernel
theorem dX6_board_23 : decode cX6_board 23 = .ok (.bipush 99, 2) := by decide +kernel
theorem dX6_board_25 : decode cX6_board 25 = .ok (.invokestatic 59, 3) := by decide +kernel
theorem dX6_board_28 : decode cX6_board 28 = .ok (.ifCond .eq 14, 3) := by decide +kernel
theorem dX6_board_31 : decode cX6_board 31 = .ok (.iload 4, 2) := by decide +kernel
theorem dX6_board_33 : decode cX6_board 33 = .ok (.iconst 1, 1) := by decide +kernel
theorem dX6_board_34 : decode cX6_board 34 = .ok (.bipush 99, 2) := by decide +kernel
theorem dX6_board_36 : decode cX6_board 36 = .ok (.invokestatic 59, 3) := by decide +kernel
theorem dX6_board_39 : decode cX6_board 39 = .ok (.ifCond .ne 6, 3) := by decide +kernel
theorem dX6_board_42 : decode cX6_board 42 = .ok (.bipush (-2), 2) := by decide +kernel
theorem dX6_board_44 : decode cX6_board 44 = .ok (.ireturn, 1) := by decide +kernel
theorem dX6_board_45 : decode cX6_board 45 = .ok (.aload_n 0, 1) := by decide +kernel
theorem dX6_board_46 : decode cX6_board 46 = .ok (.getfield 12, 3) := by decide +kernel
theorem dX6_board_49 : decode cX6_board 49 = .ok (.getfield 63, 3) := by decide +kernel
theorem dX6_board_52 : decode cX6_board 52 = .ok (.bipush 12, 2) := by decide +kernel
theorem dX6_board_54 : decode cX6_board 54 = .ok (.if_icmp .lt 6, 3) := by decide +kernel
theorem dX6_board_57 : decode cX6_board 57 = .ok (.bipush (-4), 2) := by decide +kernel
theorem dX6_board_59 : decode cX6_board 59 = .ok (.ireturn, 1) := by decide +kernel
theorem dX6_board_60 : decode cX6_board 60 = .ok (.aload_n 0, 1) := by decide +kernel
theorem dX6_board_61 : decode cX6_board 61 = .ok (.invokevirtual 67, 3) := by decide +kernel
theorem dX6_board_64 : decode cX6_board 64 = .ok (.aload_n 0, 1) := by decide +kernel
theorem dX6_board_65 : decode cX6_board 65 = .ok (.getfield 12, 3) := by decide +kernel
theorem dX6_board_68 : decode cX6_board 68 = .ok (.iload_n 1, 1) := by decide +kernel
theorem dX6_board_69 : decode cX6_board 69 = .ok (.iload_n 2, 1) := by decide +kernel
theorem dX6_board_70 : decode cX6_board 70 = .ok (.iload_n 3, 1) := by decide +kernel
theorem dX6_board_71 : decode cX6_board 71 = .ok (.iload 4, 2) := by decide +kernel
theorem dX6_board_73 : decode cX6_board 73 = .ok (.invokevirtual 70, 3) := by decide +kernel
theorem dX6_board_76 : decode cX6_board 76 = .ok (.aload_n 0, 1) := by decide +kernel
theorem dX6_board_77 : decode cX6_board 77 = .ok (.getfield 12, 3) := by decide +kernel
theorem dX6_board_80 : decode cX6_board 80 = .ok (.getfield 63, 3) := by decide +kernel
theorem dX6_board_83 : decode cX6_board 83 = .ok (.iconst 1, 1) := by decide +kernel
theorem dX6_board_84 : decode cX6_board 84 = .ok (.isub, 1) := by decide +kernel
theorem dX6_board_85 : decode cX6_board 85 = .ok (.ireturn, 1) := by decide +kernel
theorem dX6_of_0 : decode cX6_of 0 = .ok (.aload_n 0, 1) := by decide +kernel
theorem dX6_of_1 : decode cX6_of 1 = .ok (.getfield 12, 3) := by decide +kernel
theorem dX6_of_4 : decode cX6_of 4 = .ok (.iload_n 1, 1) := by decide +kernel
theorem dX6_of_5 : decode cX6_of 5 = .ok (.invokevirtual 74, 3) := by decide +kernel
theorem dX6_of_8 : decode cX6_of 8 = .ok (.ifCond .ne 5, 3) := by decide +kernel
theorem dX6_of_11 : decode cX6_of 11 = .ok (.iconst (-1), 1) := by decide +kernel
theorem dX6_of_12 : decode cX6_of 12 = .ok (.ireturn, 1) := by decide +kernel
theorem dX6_of_13 : decode cX6_of 13 = .ok (.iload_n 2, 1) := by decide +kernel
theorem dX6_of_14 : decode cX6_of 14 = .ok (.tableswitch 146 0 8 #[50, 60, 70, 80, 90, 100, 110, 120, 137], 50) := by decide +kernel
theorem dX6_of_64 : decode cX6_of 64 = .ok (.aload_n 0, 1) := by decide +kernel
theorem dX6_of_65 : decode cX6_of 65 = .ok (.getfield 12, 3) := by decide +kernel
theorem dX6_of_68 : decode cX6_of 68 = .ok (.getfield 77, 3) := by decide +kernel
theorem dX6_of_71 : decode cX6_of 71 = .ok (.iload_n 1, 1) := by decide +kernel
theorem dX6_of_72 : decode cX6_of 72 = .ok (.iaload, 1) := by decide +kernel
theorem dX6_of_73 : decode cX6_of 73 = .ok (.ireturn, 1) := by decide +kernel
theorem dX6_of_74 : decode cX6_of 74 = .ok (.aload_n 0, 1) := by decide +kernel
theorem dX6_of_75 : decode cX6_of 75 = .ok (.getfield 12, 3) := by decide +kernel
theorem dX6_of_78 : decode cX6_of 78 = .ok (.getfield 80, 3) := by decide +kernel
theorem dX6_of_81 : decode cX6_of 81 = .ok (.iload_n 1, 1) := by decide +kernel
theorem dX6_of_82 : decode cX6_of 82 = .ok (.iaload, 1) := by decide +kernel
theorem dX6_of_83 : decode cX6_of 83 = .ok (.ireturn, 1) := by decide +kernel
theorem dX6_of_84 : decode cX6_of 84 = .ok (.aload_n 0, 1) := by decide +kernel
theorem dX6_of_85 : decode cX6_of 85 = .ok (.getfield 12, 3) := by decide +kernel
theorem dX6_of_88 : decode cX6_of 88 = .ok (.getfield 83, 3) := by decide +kernel
theorem dX6_of_91 : decode cX6_of 91 = .ok (.iload_n 1, 1) := by decide +kernel
theorem dX6_of_92 : decode cX6_of 92 = .ok (.iaload, 1) := by decide +kernel
theorem dX6_of_93 : decode cX6_of 93 = .ok (.ireturn, 1) := by decide +kernel
theorem dX6_of_94 : decode cX6_of 94 = .ok (.aload_n 0, 1) := by decide +kernel
theorem dX6_of_95 : decode cX6_of 95 = .ok (.getfield 12, 3) := by decide +kernel
theorem dX6_of_98 : decode cX6_of 98 = .ok (.getfield 86, 3) := by decide +kernel
theorem dX6_of_101 : decode cX6_of 101 = .ok (.iload_n 1, 1) := by decide +kernel
theorem dX6_of_102 : decode cX6_of 102 = .ok (.iaload, 1) := by decide +kernel
theorem dX6_of_103 : decode cX6_of 103 = .ok (.ireturn, 1) := by decide +kernel
theorem dX6_of_104 : decode cX6_of 104 = .ok (.aload_n 0, 1) := by decide +kernel
theorem dX6_of_105 : decode cX6_of 105 = .ok (.getfield 12, 3) := by decide +kernel
theorem dX6_of_108 : decode cX6_of 108 = .ok (.getfield 89, 3) := by decide +kernel
theorem dX6_of_111 : decode cX6_of 111 = .ok (.iload_n 1, 1) := by decide +kernel
theorem dX6_of_112 : decode cX6_of 112 = .ok (.iaload, 1) := by decide +kernel
theorem dX6_of_113 : decode cX6_of 113 = .ok (.ireturn, 1) := by decide +kernel
theorem dX6_of_114 : decode cX6_of 114 = .ok (.aload_n 0, 1) := by decide +kernel
theorem dX6_of_115 : decode cX6_of 115 = .ok (.getfield 12, 3) := by decide +kernel
theorem dX6_of_118 : decode cX6_of 118 = .ok (.getfield 92, 3) := by decide +kernel
theorem dX6_of_121 : decode cX6_of 121 = .ok (.iload_n 1, 1) := by decide +kernel
theorem dX6_of_122 : decode cX6_of 122 = .ok (.iaload, 1) := by decide +kernel
theorem dX6_of_123 : decode cX6_of 123 = .ok (.ireturn, 1) := by decide +kernel
theorem dX6_of_124 : decode cX6_of 124 = .ok (.aload_n 0, 1) := by decide +kernel
theorem dX6_of_125 : decode cX6_of 125 = .ok (.getfield 12, 3) := by decide +kernel
theorem dX6_of_128 : decode cX6_of 128 = .ok (.getfield 95, 3) := by decide +kernel
theorem dX6_of_131 : decode cX6_of 131 = .ok (.iload_n 1, 1) := by decide +kernel
theorem dX6_of_132 : decode cX6_of 132 = .ok (.iaload, 1) := by decide +kernel
theorem dX6_of_133 : decode cX6_of 133 = .ok (.ireturn, 1) := by decide +kernel
theorem dX6_of_134 : decode cX6_of 134 = .ok (.aload_n 0, 1) := by decide +kernel
theorem dX6_of_135 : decode cX6_of 135 = .ok (.getfield 12, 3) := by decide +kernel
theorem dX6_of_138 : decode cX6_of 138 = .ok (.iload_n 1, 1) := by decide +kernel
theorem dX6_of_139 : decode cX6_of 139 = .ok (.invokevirtual 98, 3) := by decide +kernel
theorem dX6_of_142 : decode cX6_of 142 = .ok (.ifCond .eq 7, 3) := by decide +kernel
theorem dX6_of_145 : decode cX6_of 145 = .ok (.iconst 1, 1) := by decide +kernel
theorem dX6_of_146 : decode cX6_of 146 = .ok (.goto 4, 3) := by decide +kernel
theorem dX6_of_149 : decode cX6_of 149 = .ok (.iconst 0, 1) := by decide +kernel
theorem dX6_of_150 : decode cX6_of 150 = .ok (.ireturn, 1) := by decide +kernel
theorem dX6_of_151 : decode cX6_of 151 = .ok (.aload_n 0, 1) := by decide +kernel
theorem dX6_of_152 : decode cX6_of 152 = .ok (.getfield 12, 3) := by decide +kernel
theorem dX6_of_155 : decode cX6_of 155 = .ok (.iload_n 1, 1) := by decide +kernel
theorem dX6_of_156 : decode cX6_of 156 = .ok (.invokevirtual 101, 3) := by decide +kernel
theorem dX6_of_159 : decode cX6_of 159 = .ok (.ireturn, 1) := by decide +kernel
theorem dX6_of_160 : decode cX6_of 160 = .ok (.bipush (-2), 2) := by decide +kernel
theorem dX6_of_162 : decode cX6_of 162 = .ok (.ireturn, 1) := by decide +kernel
theorem dX6_change_0 : decode cX6_change 0 = .ok (.aload_n 0, 1) := by decide +kernel
theorem dX6_change_1 : decode cX6_change 1 = .ok (.getfield 12, 3) := by decide +kernel
theorem dX6_change_4 : decode cX6_change 4 = .ok (.iload_n 1, 1) := by decide +kernel
theorem dX6_change_5 : decode cX6_change 5 = .ok (.invokevirtual 74, 3) := by decide +kernel
theorem dX6_change_8 : decode cX6_change 8 = .ok (.ifCond .ne 5, 3) := by decide +kernel
theorem dX6_change_11 : decode cX6_change 11 = .ok (.iconst (-1), 1) := by decide +kernel
theorem dX6_change_12 : decode cX6_change 12 = .ok (.ireturn, 1) := by decide +kernel
theorem dX6_change_13 : decode cX6_change 13 = .ok (.iload_n 2, 1) := by decide +kernel
theorem dX6_change_14 : decode cX6_change 14 = .ok (.iconst 0, 1) := by decide +kernel
theorem dX6_change_15 : decode cX6_change 15 = .ok (.iconst 1, 1) := by decide +kernel
theorem dX6_change_16 : decode cX6_change 16 = .ok (.invokestatic 59, 3) := by decide +kernel
theorem dX6_change_19 : decode cX6_change 19 = .ok (.ifCond .eq 22, 3) := by decide +kernel
theorem dX6_change_22 : decode cX6_change 22 = .ok (.iload_n 3, 1) := by decide +kernel
theorem dX6_change_23 : decode cX6_change 23 = .ok (.iconst 1, 1) := by decide +kernel
theorem dX6_change_24 : decode cX6_change 24 = .ok (.iload_n 2, 1) := by decide +kernel
theorem dX6_change_25 : decode cX6_change 25 = .ok (.ifCond .ne 8, 3) := by decide +kernel
theorem dX6_change_28 : decode cX6_change 28 = .ok (.bipush 99, 2) := by decide +kernel
theorem dX6_change_30 : decode cX6_change 30 = .ok (.goto 5, 3) := by decide +kernel
theorem dX6_change_33 : decode cX6_change 33 = .ok (.ldc 105, 2) := by decide +kernel
theorem dX6_change_35 : decode cX6_change 35 = .ok (.invokestatic 59, 3) := by decide +kernel
theorem dX6_change_38 : decode cX6_change 38 = .ok (.ifCond .ne 6, 3) := by decide +kernel
theorem dX6_change_41 : decode cX6_change 41 = .ok (.bipush (-2), 2) := by decide +kernel
theorem dX6_change_43 : decode cX6_change 43 = .ok (.ireturn, 1) := by decide +kernel
theorem dX6_change_44 : decode cX6_change 44 = .ok (.aload_n 0, 1) := by decide +kernel
theorem dX6_change_45 : decode cX6_change 45 = .ok (.invokevirtual 67, 3) := by decide +kernel
theorem dX6_change_48 : decode cX6_change 48 = .ok (.iload_n 2, 1) := by decide +kernel
theorem dX6_change_49 : decode cX6_change 49 = .ok (.ifCond .ne 13, 3) := by decide +kernel
theorem dX6_change_52 : decode cX6_change 52 = .ok (.aload_n 0, 1) := by decide +kernel
theorem dX6_change_53 : decode cX6_change 53 = .ok (.getfield 12, 3) := by decide +kernel
theorem dX6_change_56 : decode cX6_change 56 = .ok (.getfield 86, 3) := by decide +kernel
theorem dX6_change_59 : decode cX6_change 59 = .ok (.goto 10, 3) := by decide +kernel
theorem dX6_change_62 : decode cX6_change 62 = .ok (.aload_n 0, 1) := by decide +kernel
theorem dX6_change_63 : decode cX6_change 63 = .ok (.getfield 12, 3) := by decide +kernel
theorem dX6_change_66 : decode cX6_change 66 = .ok (.getfield 95, 3) := by decide +kernel
theorem dX6_change_69 : decode cX6_change 69 = .ok (.astore 4, 2) := by decide +kernel
theorem dX6_change_71 : decode cX6_change 71 = .ok (.aload 4, 2) := by decide +kernel
theorem dX6_change_73 : decode cX6_change 73 = .ok (.iload_n 1, 1) := by decide +kernel
theorem dX6_change_74 : decode cX6_change 74 = .ok (.iaload, 1) := by decide +kernel
theorem dX6_change_75 : decode cX6_change 75 = .ok (.istore 5, 2) := by decide +kernel
theorem dX6_change_77 : decode cX6_change 77 = .ok (.aload 4, 2) := by decide +kernel
theorem dX6_change_79 : decode cX6_change 79 = .ok (.iload_n 1, 1) := by decide +kernel
theorem dX6_change_80 : decode cX6_change 80 = .ok (.iload_n 3, 1) := by decide +kernel
theorem dX6_change_81 : decode cX6_change 81 = .ok (.iastore, 1) := by decide +kernel
theorem dX6_change_82 : decode cX6_change 82 = .ok (.iload 5, 2) := by decide +kernel
theorem dX6_change_84 : decode cX6_change 84 = .ok (.ireturn, 1) := by decide +kernel
theorem dX6_hours_0 : decode cX6_hours 0 = .ok (.aload_n 0, 1) := by decide +kernel
theorem dX6_hours_1 : decode cX6_hours 1 = .ok (.getfield 12, 3) := by decide +kernel
theorem dX6_hours_4 : decode cX6_hours 4 = .ok (.iload_n 1, 1) := by decide +kernel
theorem dX6_hours_5 : decode cX6_hours 5 = .ok (.invokevirtual 74, 3) := by decide +kernel
theorem dX6_hours_8 : decode cX6_hours 8 = .ok (.ifCond .ne 5, 3) := by decide +kernel
theorem dX6_hours_11 : decode cX6_hours 11 = .ok (.iconst (-1), 1) := by decide +kernel
theorem dX6_hours_12 : decode cX6_hours 12 = .ok (.ireturn, 1) := by decide +kernel
theorem dX6_hours_13 : decode cX6_hours 13 = .ok (.iload_n 3, 1) := by decide +kernel
theorem dX6_hours_14 : decode cX6_hours 14 = .ok (.iconst 0, 1) := by decide +kernel
theorem dX6_hours_15 : decode cX6_hours 15 = .ok (.bipush 99, 2) := by decide +kernel
theorem dX6_hours_17 : decode cX6_hours 17 = .ok (.invokestatic 59, 3) := by decide +kernel
theorem dX6_hours_20 : decode cX6_hours 20 = .ok (.ifCond .eq 12, 3) := by decide +kernel
theorem dX6_hours_23 : decode cX6_hours 23 = .ok (.iload_n 2, 1) := by decide +kernel
theorem dX6_hours_24 : decode cX6_hours 24 = .ok (.iconst 0, 1) := by decide +kernel
theorem dX6_hours_25 : decode cX6_hours 25 = .ok (.iload_n 3, 1) := by decide +kernel
theorem dX6_hours_26 : decode cX6_hours 26 = .ok (.invokestatic 59, 3) := by decide +kernel
theorem dX6_hours_29 : decode cX6_hours 29 = .ok (.ifCond .ne 6, 3) := by decide +kernel
theorem dX6_hours_32 : decode cX6_hours 32 = .ok (.bipush (-2), 2) := by decide +kernel
theorem dX6_hours_34 : decode cX6_hours 34 = .ok (.ireturn, 1) := by decide +kernel
theorem dX6_hours_35 : decode cX6_hours 35 = .ok (.aload_n 0, 1) := by decide +kernel
theorem dX6_hours_36 : decode cX6_hours 36 = .ok (.invokevirtual 67, 3) := by decide +kernel
theorem dX6_hours_39 : decode cX6_hours 39 = .ok (.aload_n 0, 1) := by decide +kernel
theorem dX6_hours_40 : decode cX6_hours 40 = .ok (.getfield 12, 3) := by decide +kernel
theorem dX6_hours_43 : decode cX6_hours 43 = .ok (.getfield 89, 3) := by decide +kernel
theorem dX6_hours_46 : decode cX6_hours 46 = .ok (.iload_n 1, 1) := by decide +kernel
theorem dX6_hours_47 : decode cX6_hours 47 = .ok (.iload_n 2, 1) := by decide +kernel
theorem dX6_hours_48 : decode cX6_hours 48 = .ok (.iastore, 1) := by decide +kernel
theorem dX6_hours_49 : decode cX6_hours 49 = .ok (.aload_n 0, 1) := by decide +kernel
theorem dX6_hours_50 : decode cX6_hours 50 = .ok (.getfield 12, 3) := by decide +kernel
theorem dX6_hours_53 : decode cX6_hours 53 = .ok (.getfield 92, 3) := by decide +kernel
theorem dX6_hours_56 : decode cX6_hours 56 = .ok (.iload_n 1, 1) := by decide +kernel
theorem dX6_hours_57 : decode cX6_hours 57 = .ok (.iload_n 3, 1) := by decide +kernel
theorem dX6_hours_58 : decode cX6_hours 58 = .ok (.iastore, 1) := by decide +kernel
theorem dX6_hours_59 : decode cX6_hours 59 = .ok (.iconst 1, 1) := by decide +kernel
theorem dX6_hours_60 : decode cX6_hours 60 = .ok (.ireturn, 1) := by decide +kernel
theorem dX6_set_0 : decode cX6_set 0 = .ok (.iload_n 1, 1) := by decide +kernel
theorem dX6_set_1 : decode cX6_set 1 = .ok (.iconst 0, 1) := by decide +kernel
theorem dX6_set_2 : decode cX6_set 2 = .ok (.iconst 2, 1) := by decide +kernel
theorem dX6_set_3 : decode cX6_set 3 = .ok (.invokestatic 59, 3) := by decide +kernel
theorem dX6_set_6 : decode cX6_set 6 = .ok (.ifCond .eq 20, 3) := by decide +kernel
theorem dX6_set_9 : decode cX6_set 9 = .ok (.iload_n 2, 1) := by decide +kernel
theorem dX6_set_10 : decode cX6_set 10 = .ok (.getstatic 106, 3) := by decide +kernel
theorem dX6_set_13 : decode cX6_set 13 = .ok (.iload_n 1, 1) := by decide +kernel
theorem dX6_set_14 : decode cX6_set 14 = .ok (.iaload, 1) := by decide +kernel
theorem dX6_set_15 : decode cX6_set 15 = .ok (.getstatic 109, 3) := by decide +kernel
theorem dX6_set_18 : decode cX6_set 18 = .ok (.iload_n 1, 1) := by decide +kernel
theorem dX6_set_19 : decode cX6_set 19 = .ok (.iaload, 1) := by decide +kernel
theorem dX6_set_20 : decode cX6_set 20 = .ok (.invokestatic 59, 3) := by decide +kernel
theorem dX6_set_23 : decode cX6_set 23 = .ok (.ifCond .ne 6, 3) := by decide +kernel
theorem dX6_set_26 : decode cX6_set 26 = .ok (.bipush (-2), 2) := by decide +kernel
theorem dX6_set_28 : decode cX6_set 28 = .ok (.ireturn, 1) := by decide +kernel
theorem dX6_set_29 : decode cX6_set 29 = .ok (.aload_n 0, 1) := by decide +kernel
theorem dX6_set_30 : decode cX6_set 30 = .ok (.invokevirtual 67, 3) := by decide +kernel
theorem dX6_set_33 : decode cX6_set 33 = .ok (.aload_n 0, 1) := by decide +kernel
theorem dX6_set_34 : decode cX6_set 34 = .ok (.getfield 12, 3) := by decide +kernel
theorem dX6_set_37 : decode cX6_set 37 = .ok (.getfield 112, 3) := by decide +kernel
theorem dX6_set_40 : decode cX6_set 40 = .ok (.iload_n 1, 1) := by decide +kernel
theorem dX6_set_41 : decode cX6_set 41 = .ok (.iaload, 1) := by decide +kernel
theorem dX6_set_42 : decode cX6_set 42 = .ok (.istore_n 3, 1) := by decide +kernel
theorem dX6_set_43 : decode cX6_set 43 = .ok (.aload_n 0, 1) := by decide +kernel
theorem dX6_set_44 : decode cX6_set 44 = .ok (.getfield 12, 3) := by decide +kernel
theorem dX6_set_47 : decode cX6_set 47 = .ok (.getfield 112, 3) := by decide +kernel
theorem dX6_set_50 : decode cX6_set 50 = .ok (.iload_n 1, 1) := by decide +kernel
theorem dX6_set_51 : decode cX6_set 51 = .ok (.iload_n 2, 1) := by decide +kernel
theorem dX6_set_52 : decode cX6_set 52 = .ok (.iastore, 1) := by decide +kernel
theorem dX6_set_53 : decode cX6_set 53 = .ok (.iload_n 3, 1) := by decide +kernel
theorem dX6_set_54 : decode cX6_set 54 = .ok (.ireturn, 1) := by decide +kernel
theorem dX6_say_0 : decode cX6_say 0 = .ok (.iload_n 1, 1) := by decide +kernel
theorem dX6_say_1 : decode cX6_say 1 = .ok (.bipush 33, 2) := by decide +kernel
theorem dX6_say_3 : decode cX6_say 3 = .ok (.bipush 126, 2) := by decide +kernel
theorem dX6_say_5 : decode cX6_say 5 = .ok (.invokestatic 59, 3) := by decide +kernel
theorem dX6_say_8 : decode cX6_say 8 = .ok (.ifCond .ne 6, 3) := by decide +kernel
theorem dX6_say_11 : decode cX6_say 11 = .ok (.bipush (-2), 2) := by decide +kernel
theorem dX6_say_13 : decode cX6_say 13 = .ok (.ireturn, 1) := by decide +kernel
theorem dX6_say_14 : decode cX6_say 14 = .ok (.aload_n 0, 1) := by decide +kernel
theorem dX6_say_15 : decode cX6_say 15 = .ok (.getfield 19, 3) := by decide +kernel
theorem dX6_say_18 : decode cX6_say 18 = .ok (.getfield 115, 3) := by decide +kernel
theorem dX6_say_21 : decode cX6_say 21 = .ok (.bipush 80, 2) := by decide +kernel
theorem dX6_say_23 : decode cX6_say 23 = .ok (.if_icmp .lt 6, 3) := by decide +kernel
theorem dX6_say_26 : decode cX6_say 26 = .ok (.bipush (-4), 2) := by decide +kernel
theorem dX6_say_28 : decode cX6_say 28 = .ok (.ireturn, 1) := by decide +kernel
theorem dX6_say_29 : decode cX6_say 29 = .ok (.aload_n 0, 1) := by decide +kernel
theorem dX6_say_30 : decode cX6_say 30 = .ok (.getfield 19, 3) := by decide +kernel
theorem dX6_say_33 : decode cX6_say 33 = .ok (.iload_n 1, 1) := by decide +kernel
theorem dX6_say_34 : decode cX6_say 34 = .ok (.invokevirtual 116, 3) := by decide +kernel
theorem dX6_say_37 : decode cX6_say 37 = .ok (.aload_n 0, 1) := by decide +kernel
theorem dX6_say_38 : decode cX6_say 38 = .ok (.getfield 19, 3) := by decide +kernel
theorem dX6_say_41 : decode cX6_say 41 = .ok (.getfield 115, 3) := by decide +kernel
theorem dX6_say_44 : decode cX6_say 44 = .ok (.ireturn, 1) := by decide +kernel
theorem dX6_wipe_0 : decode cX6_wipe 0 = .ok (.aload_n 0, 1) := by decide +kernel
theorem dX6_wipe_1 : decode cX6_wipe 1 = .ok (.getfield 19, 3) := by decide +kernel
theorem dX6_wipe_4 : decode cX6_wipe 4 = .ok (.getfield 115, 3) := by decide +kernel
theorem dX6_wipe_7 : decode cX6_wipe 7 = .ok (.istore_n 1, 1) := by decide +kernel
theorem dX6_wipe_8 : decode cX6_wipe 8 = .ok (.aload_n 0, 1) := by decide +kernel
theorem dX6_wipe_9 : decode cX6_wipe 9 = .ok (.getfield 19, 3) := by decide +kernel
theorem dX6_wipe_12 : decode cX6_wipe 12 = .ok (.iconst 0, 1) := by decide +kernel
theorem dX6_wipe_13 : decode cX6_wipe 13 = .ok (.putfield 115, 3) := by decide +kernel
theorem dX6_wipe_16 : decode cX6_wipe 16 = .ok (.iload_n 1, 1) := by decide +kernel
theorem dX6_wipe_17 : decode cX6_wipe 17 = .ok (.ireturn, 1) := by decide +kernel
theorem dX6_fault_0 : decode cX6_fault 0 = .ok (.aload_n 0, 1) := by decide +kernel
theorem dX6_fault_1 : decode cX6_fault 1 = .ok (.getfield 19, 3) := by decide +kernel
theorem dX6_fault_4 : decode cX6_fault 4 = .ok (.invokevirtual 119, 3) := by decide +kernel
theorem dX6_fault_7 : decode cX6_fault 7 = .ok (.ireturn, 1) := by decide +kernel
theorem dX6_read_0 : decode cX6_read 0 = .ok (.aload_n 0, 1) := by decide +kernel
theorem dX6_read_1 : decode cX6_read 1 = .ok (.getfield 19, 3) := by decide +kernel
theorem dX6_read_4 : decode cX6_read 4 = .ok (.invokevirtual 119, 3) := by decide +kernel
theorem dX6_read_7 : decode cX6_read 7 = .ok (.bipush (-6), 2) := by decide +kernel
theorem dX6_read_9 : decode cX6_read 9 = .ok (.if_icmp .eq 6, 3) := by decide +kernel
theorem dX6_read_12 : decode cX6_read 12 = .ok (.bipush (-5), 2) := by decide +kernel
theorem dX6_read_14 : decode cX6_read 14 = .ok (.ireturn, 1) := by decide +kernel
theorem dX6_read_15 : decode cX6_read 15 = .ok (.aload_n 0, 1) := by decide +kernel
theorem dX6_read_16 : decode cX6_read 16 = .ok (.getfield 19, 3) := by decide +kernel
theorem dX6_read_19 : decode cX6_read 19 = .ok (.invokevirtual 123, 3) := by decide +kernel
theorem dX6_read_22 : decode cX6_read 22 = .ok (.istore_n 1, 1) := by decide +kernel
theorem dX6_read_23 : decode cX6_read 23 = .ok (.aload_n 0, 1) := by decide +kernel
theorem dX6_read_24 : decode cX6_read 24 = .ok (.getfield 12, 3) := by decide +kernel
theorem dX6_read_27 : decode cX6_read 27 = .ok (.getfield 63, 3) := by decide +kernel
theorem dX6_read_30 : decode cX6_read 30 = .ok (.iload_n 1, 1) := by decide +kernel
theorem dX6_read_31 : decode cX6_read 31 = .ok (.iadd, 1) := by decide +kernel
theorem dX6_read_32 : decode cX6_read 32 = .ok (.bipush 12, 2) := by decide +kernel
theorem dX6_read_34 : decode cX6_read 34 = .ok (.if_icmp .le 6, 3) := by decide +kernel
theorem dX6_read_37 : decode cX6_read 37 = .ok (.bipush (-4), 2) := by decide +kernel
theorem dX6_read_39 : decode cX6_read 39 = .ok (.ireturn, 1) := by decide +kernel
theorem dX6_read_40 : decode cX6_read 40 = .ok (.aload_n 0, 1) := by decide +kernel
theorem dX6_read_41 : decode cX6_read 41 = .ok (.invokevirtual 67, 3) := by decide +kernel
theorem dX6_read_44 : decode cX6_read 44 = .ok (.aload_n 0, 1) := by decide +kernel
theorem dX6_read_45 : decode cX6_read 45 = .ok (.getfield 19, 3) := by decide +kernel
theorem dX6_read_48 : decode cX6_read 48 = .ok (.aload_n 0, 1) := by decide +kernel
theorem dX6_read_49 : decode cX6_read 49 = .ok (.getfield 12, 3) := by decide +kernel
theorem dX6_read_52 : decode cX6_read 52 = .ok (.iload_n 1, 1) := by decide +kernel
theorem dX6_read_53 : decode cX6_read 53 = .ok (.invokevirtual 126, 3) := by decide +kernel
theorem dX6_read_56 : decode cX6_read 56 = .ok (.aload_n 0, 1) := by decide +kernel
theorem dX6_read_57 : decode cX6_read 57 = .ok (.getfield 19, 3) := by decide +kernel
theorem dX6_read_60 : decode cX6_read 60 = .ok (.iconst 0, 1) := by decide +kernel
theorem dX6_read_61 : decode cX6_read 61 = .ok (.putfield 115, 3) := by decide +kernel
theorem dX6_read_64 : decode cX6_read 64 = .ok (.aload_n 0, 1) := by decide +kernel
theorem dX6_read_65 : decode cX6_read 65 = .ok (.getfield 12, 3) := by decide +kernel
theorem dX6_read_68 : decode cX6_read 68 = .ok (.getfield 63, 3) := by decide +kernel
theorem dX6_read_71 : decode cX6_read 71 = .ok (.ireturn, 1) := by decide +kernel
theorem dX6_rounds_0 : decode cX6_rounds 0 = .ok (.iload_n 1, 1) := by decide +kernel
theorem dX6_rounds_1 : decode cX6_rounds 1 = .ok (.iconst 0, 1) := by decide +kernel
theorem dX6_rounds_2 : decode cX6_rounds 2 = .ok (.iconst 1, 1) := by decide +kernel
theorem dX6_rounds_3 : decode cX6_rounds 3 = .ok (.invokestatic 59, 3) := by decide +kernel
theorem dX6_rounds_6 : decode cX6_rounds 6 = .ok (.ifCond .ne 6, 3) := by decide +kernel
theorem dX6_rounds_9 : decode cX6_rounds 9 = .ok (.bipush (-2), 2) := by decide +kernel
theorem dX6_rounds_11 : decode cX6_rounds 11 = .ok (.ireturn, 1) := by decide +kernel
theorem dX6_rounds_12 : decode cX6_rounds 12 = .ok (.aload_n 0, 1) := by decide +kernel
theorem dX6_rounds_13 : decode cX6_rounds 13 = .ok (.invokevirtual 130, 3) := by decide +kernel
theorem dX6_rounds_16 : decode cX6_rounds 16 = .ok (.iload_n 1, 1) := by decide +kernel
theorem dX6_rounds_17 : decode cX6_rounds 17 = .ok (.ifCond .ne 13, 3) := by decide +kernel
theorem dX6_rounds_20 : decode cX6_rounds 20 = .ok (.aload_n 0, 1) := by decide +kernel
theorem dX6_rounds_21 : decode cX6_rounds 21 = .ok (.getfield 26, 3) := by decide +kernel
theorem dX6_rounds_24 : decode cX6_rounds 24 = .ok (.getfield 133, 3) := by decide +kernel
theorem dX6_rounds_27 : decode cX6_rounds 27 = .ok (.goto 10, 3) := by decide +kernel
theorem dX6_rounds_30 : decode cX6_rounds 30 = .ok (.aload_n 0, 1) := by decide +kernel
theorem dX6_rounds_31 : decode cX6_rounds 31 = .ok (.getfield 26, 3) := by decide +kernel
theorem dX6_rounds_34 : decode cX6_rounds 34 = .ok (.getfield 134, 3) := by decide +kernel
theorem dX6_rounds_37 : decode cX6_rounds 37 = .ok (.ireturn, 1) := by decide +kernel
theorem dX6_round_0 : decode cX6_round 0 = .ok (.aload_n 0, 1) := by decide +kernel
theorem dX6_round_1 : decode cX6_round 1 = .ok (.invokevirtual 130, 3) := by decide +kernel
theorem dX6_round_4 : decode cX6_round 4 = .ok (.aload_n 0, 1) := by decide +kernel
theorem dX6_round_5 : decode cX6_round 5 = .ok (.getfield 26, 3) := by decide +kernel
theorem dX6_round_8 : decode cX6_round 8 = .ok (.iload_n 1, 1) := by decide +kernel
theorem dX6_round_9 : decode cX6_round 9 = .ok (.invokevirtual 137, 3) := by decide +kernel
theorem dX6_round_12 : decode cX6_round 12 = .ok (.ifCond .ne 5, 3) := by decide +kernel
theorem dX6_round_15 : decode cX6_round 15 = .ok (.iconst (-1), 1) := by decide +kernel
theorem dX6_round_16 : decode cX6_round 16 = .ok (.ireturn, 1) := by decide +kernel
theorem dX6_round_17 : decode cX6_round 17 = .ok (.aload_n 0, 1) := by decide +kernel
theorem dX6_round_18 : decode cX6_round 18 = .ok (.getfield 26, 3) := by decide +kernel
theorem dX6_round_21 : decode cX6_round 21 = .ok (.getfield 140, 3) := by decide +kernel
theorem dX6_round_24 : decode cX6_round 24 = .ok (.iload_n 1, 1) := by decide +kernel
theorem dX6_round_25 : decode cX6_round 25 = .ok (.iaload, 1) := by decide +kernel
theorem dX6_round_26 : decode cX6_round 26 = .ok (.istore_n 3, 1) := by decide +kernel
theorem dX6_round_27 : decode cX6_round 27 = .ok (.iload_n 2, 1) := by decide +kernel
theorem dX6_round_28 : decode cX6_round 28 = .ok (.iconst (-1), 1) := by decide +kernel
theorem dX6_round_29 : decode cX6_round 29 = .ok (.if_icmp .ne 12, 3) := by decide +kernel
theorem dX6_round_32 : decode cX6_round 32 = .ok (.aload_n 0, 1) := by decide +kernel
theorem dX6_round_33 : decode cX6_round 33 = .ok (.getfield 26, 3) := by decide +kernel
theorem dX6_round_36 : decode cX6_round 36 = .ok (.iload_n 3, 1) := by decide +kernel
theorem dX6_round_37 : decode cX6_round 37 = .ok (.invokevirtual 143, 3) := by decide +kernel
theorem dX6_round_40 : decode cX6_round 40 = .ok (.ireturn, 1) := by decide +kernel
theorem dX6_round_41 : decode cX6_round 41 = .ok (.iload_n 2, 1) := by decide +kernel
theorem dX6_round_42 : decode cX6_round 42 = .ok (.ifCond .lt 21, 3) := by decide +kernel
theorem dX6_round_45 : decode cX6_round 45 = .ok (.iload_n 2, 1) := by decide +kernel
theorem dX6_round_46 : decode cX6_round 46 = .ok (.bipush 8, 2) := by decide +kernel
theorem dX6_round_48 : decode cX6_round 48 = .ok (.if_icmp .ge 15, 3) := by decide +kernel
theorem dX6_round_51 : decode cX6_round 51 = .ok (.aload_n 0, 1) := by decide +kernel
theorem dX6_round_52 : decode cX6_round 52 = .ok (.getfield 26, 3) := by decide +kernel
theorem dX6_round_55 : decode cX6_round 55 = .ok (.iload_n 3, 1) := by decide +kernel
theorem dX6_round_56 : decode cX6_round 56 = .ok (.iload_n 2, 1) := by decide +kernel
theorem dX6_round_57 : decode cX6_round 57 = .ok (.invokevirtual 146, 3) := by decide +kernel
theorem dX6_round_60 : decode cX6_round 60 = .ok (.goto 4, 3) := by decide +kernel
theorem dX6_round_63 : decode cX6_round 63 = .ok (.iconst (-1), 1) := by decide +kernel
theorem dX6_round_64 : decode cX6_round 64 = .ok (.istore 4, 2) := by decide +kernel
theorem dX6_round_66 : decode cX6_round 66 = .ok (.iload 4, 2) := by decide +kernel
theorem dX6_round_68 : decode cX6_round 68 = .ok (.ifCond .ge 8, 3) := by decide +kernel
theorem dX6_round_71 : decode cX6_round 71 = .ok (.bipush (-6), 2) := by decide +kernel
theorem dX6_round_73 : decode cX6_round 73 = .ok (.goto 5, 3) := by decide +kernel
theorem dX6_round_76 : decode cX6_round 76 = .ok (.iload 4, 2) := by decide +kernel
theorem dX6_round_78 : decode cX6_round 78 = .ok (.ireturn, 1) := by decide +kernel
theorem dX6_product_0 : decode cX6_product 0 = .ok (.aload_n 0, 1) := by decide +kernel
theorem dX6_product_1 : decode cX6_product 1 = .ok (.invokevirtual 130, 3) := by decide +kernel
theorem dX6_product_4 : decode cX6_product 4 = .ok (.aload_n 0, 1) := by decide +kernel
theorem dX6_product_5 : decode cX6_product 5 = .ok (.getfield 26, 3) := by decide +kernel
theorem dX6_product_8 : decode cX6_product 8 = .ok (.iload_n 1, 1) := by decide +kernel
theorem dX6_product_9 : decode cX6_product 9 = .ok (.invokevirtual 137, 3) := by decide +kernel
theorem dX6_product_12 : decode cX6_product 12 = .ok (.ifCond .ne 7, 3) := by decide +kernel
theorem dX6_product_15 : decode cX6_product 15 = .ok (.ldc2_w 150, 3) := by decide +kernel
theorem dX6_product_18 : decode cX6_product 18 = .ok (.lreturn, 1) := by decide +kernel
theorem dX6_product_19 : decode cX6_product 19 = .ok (.iload_n 2, 1) := by decide +kernel
theorem dX6_product_20 : decode cX6_product 20 = .ok (.iconst 0, 1) := by decide +kernel
theorem dX6_product_21 : decode cX6_product 21 = .ok (.iconst 1, 1) := by decide +kernel
theorem dX6_product_22 : decode cX6_product 22 = .ok (.invokestatic 59, 3) := by decide +kernel
theorem dX6_product_25 : decode cX6_product 25 = .ok (.ifCond .ne 7, 3) := by decide +kernel
theorem dX6_product_28 : decode cX6_product 28 = .ok (.ldc2_w 152, 3) := by decide +kernel
theorem dX6_product_31 : decode cX6_product 31 = .ok (.lreturn, 1) := by decide +kernel
theorem dX6_product_32 : decode cX6_product 32 = .ok (.aload_n 0, 1) := by decide +kernel
theorem dX6_product_33 : decode cX6_product 33 = .ok (.getfield 26, 3) := by decide +kernel
theorem dX6_product_36 : decode cX6_product 36 = .ok (.getfield 140, 3) := by decide +kernel
theorem dX6_product_39 : decode cX6_product 39 = .ok (.iload_n 1, 1) := by decide +kernel
theorem dX6_product_40 : decode cX6_product 40 = .ok (.iaload, 1) := by decide +kernel
theorem dX6_product_41 : decode cX6_product 41 = .ok (.istore_n 3, 1) := by decide +kernel
theorem dX6_product_42 : decode cX6_product 42 = .ok (.aload_n 0, 1) := by decide +kernel
theorem dX6_product_43 : decode cX6_product 43 = .ok (.getfield 26, 3) := by decide +kernel
theorem dX6_product_46 : decode cX6_product 46 = .ok (.iload_n 3, 1) := by decide +kernel
theorem dX6_product_47 : decode cX6_product 47 = .ok (.aload_n 0, 1) := by decide +kernel
theorem dX6_product_48 : decode cX6_product 48 = .ok (.getfield 12, 3) := by decide +kernel
theorem dX6_product_51 : decode cX6_product 51 = .ok (.getfield 86, 3) := by decide +kernel
theorem dX6_product_54 : decode cX6_product 54 = .ok (.aload_n 0, 1) := by decide +kernel
theorem dX6_product_55 : decode cX6_product 55 = .ok (.getfield 12, 3) := by decide +kernel
theorem dX6_product_58 : decode cX6_product 58 = .ok (.getfield 112, 3) := by decide +kernel
theorem dX6_product_61 : decode cX6_product 61 = .ok (.iconst 0, 1) := by decide +kernel
theorem dX6_product_62 : decode cX6_product 62 = .ok (.iaload, 1) := by decide +kernel
theorem dX6_product_63 : decode cX6_product 63 = .ok (.invokevirtual 154, 3) := by decide +kernel
theorem dX6_product_66 : decode cX6_product 66 = .ok (.lstore 4, 2) := by decide +kernel
theorem dX6_product_68 : decode cX6_product 68 = .ok (.aload_n 0, 1) := by decide +kernel
theorem dX6_product_69 : decode cX6_product 69 = .ok (.getfield 26, 3) := by decide +kernel
theorem dX6_product_72 : decode cX6_product 72 = .ok (.getfield 157, 3) := by decide +kernel
theorem dX6_product_75 : decode cX6_product 75 = .ok (.iload_n 3, 1) := by decide +kernel
theorem dX6_product_76 : decode cX6_product 76 = .ok (.laload, 1) := by decide +kernel
theorem dX6_product_77 : decode cX6_product 77 = .ok (.lstore 6, 2) := by decide +kernel
theorem dX6_product_79 : decode cX6_product 79 = .ok (.iload_n 2, 1) := by decide +kernel
theorem dX6_product_80 : decode cX6_product 80 = .ok (.ifCond .ne 8, 3) := by decide +kernel
theorem dX6_product_83 : decode cX6_product 83 = .ok (.lload 4, 2) := by decide +kernel
theorem dX6_product_85 : decode cX6_product 85 = .ok (.goto 5, 3) := by decide +kernel
theorem dX6_product_88 : decode cX6_product 88 = .ok (.lload 6, 2) := by decide +kernel
theorem dX6_product_90 : decode cX6_product 90 = .ok (.lload 4, 2) := by decide +kernel
theorem dX6_product_92 : decode cX6_product 92 = .ok (.lload 6, 2) := by decide +kernel
theorem dX6_product_94 : decode cX6_product 94 = .ok (.invokestatic 161, 3) := by decide +kernel
theorem dX6_product_97 : decode cX6_product 97 = .ok (.invokestatic 165, 3) := by decide +kernel
theorem dX6_product_100 : decode cX6_product 100 = .ok (.lreturn, 1) := by decide +kernel
theorem dX6_best_0 : decode cX6_best 0 = .ok (.iload_n 1, 1) := by decide +kernel
theorem dX6_best_1 : decode cX6_best 1 = .ok (.iconst 0, 1) := by decide +kernel
theorem dX6_best_2 : decode cX6_best 2 = .ok (.iconst 1, 1) := by decide +kernel
theorem dX6_best_3 : decode cX6_best 3 = .ok (.invokestatic 59, 3) := by decide +kernel
theorem dX6_best_6 : decode cX6_best 6 = .ok (.ifCond .ne 6, 3) := by decide +kernel
theorem dX6_best_9 : decode cX6_best 9 = .ok (.bipush (-2), 2) := by decide +kernel
theorem dX6_best_11 : decode cX6_best 11 = .ok (.ireturn, 1) := by decide +kernel
theorem dX6_best_12 : decode cX6_best 12 = .ok (.aload_n 0, 1) := by decide +kernel
theorem dX6_best_13 : decode cX6_best 13 = .ok (.invokevirtual 130, 3) := by decide +kernel
theorem dX6_best_16 : decode cX6_best 16 = .ok (.iload_n 1, 1) := by decide +kernel
theorem dX6_best_17 : decode cX6_best 17 = .ok (.ifCond .ne 29, 3) := by decide +kernel
theorem dX6_best_20 : decode cX6_best 20 = .ok (.aload_n 0, 1) := by decide +kernel
theorem dX6_best_21 : decode cX6_best 21 = .ok (.getfield 26, 3) := by decide +kernel
theorem dX6_best_24 : decode cX6_best 24 = .ok (.aload_n 0, 1) := by decide +kernel
theorem dX6_best_25 : decode cX6_best 25 = .ok (.getfield 12, 3) := by decide +kernel
theorem dX6_best_28 : decode cX6_best 28 = .ok (.getfield 86, 3) := by decide +kernel
theorem dX6_best_31 : decode cX6_best 31 = .ok (.aload_n 0, 1) := by decide +kernel
theorem dX6_best_32 : decode cX6_best 32 = .ok (.getfield 12, 3) := by decide +kernel
theorem dX6_best_35 : decode cX6_best 35 = .ok (.getfield 112, 3) := by decide +kernel
theorem dX6_best_38 : decode cX6_best 38 = .ok (.iconst 0, 1) := by decide +kernel
theorem dX6_best_39 : decode cX6_best 39 = .ok (.iaload, 1) := by decide +kernel
theorem dX6_best_40 : decode cX6_best 40 = .ok (.invokevirtual 168, 3) := by decide +kernel
theorem dX6_best_43 : decode cX6_best 43 = .ok (.goto 10, 3) := by decide +kernel
theorem dX6_best_46 : decode cX6_best 46 = .ok (.aload_n 0, 1) := by decide +kernel
theorem dX6_best_47 : decode cX6_best 47 = .ok (.getfield 26, 3) := by decide +kernel
theorem dX6_best_50 : decode cX6_best 50 = .ok (.invokevirtual 172, 3) := by decide +kernel
theorem dX6_best_53 : decode cX6_best 53 = .ok (.istore_n 2, 1) := by decide +kernel
theorem dX6_best_54 : decode cX6_best 54 = .ok (.aload_n 0, 1) := by decide +kernel
theorem dX6_best_55 : decode cX6_best 55 = .ok (.getfield 26, 3) := by decide +kernel
theorem dX6_best_58 : decode cX6_best 58 = .ok (.iload_n 2, 1) := by decide +kernel
theorem dX6_best_59 : decode cX6_best 59 = .ok (.invokevirtual 175, 3) := by decide +kernel
theorem dX6_best_62 : decode cX6_best 62 = .ok (.ireturn, 1) := by decide +kernel
theorem dX6_through_0 : decode cX6_through 0 = .ok (.aload_n 0, 1) := by decide +kernel
theorem dX6_through_1 : decode cX6_through 1 = .ok (.getfield 12, 3) := by decide +kernel
theorem dX6_through_4 : decode cX6_through 4 = .ok (.iload_n 1, 1) := by decide +kernel
theorem dX6_through_5 : decode cX6_through 5 = .ok (.invokevirtual 74, 3) := by decide +kernel
theorem dX6_through_8 : decode cX6_through 8 = .ok (.ifCond .ne 5, 3) := by decide +kernel
theorem dX6_through_11 : decode cX6_through 11 = .ok (.iconst (-1), 1) := by decide +kernel
theorem dX6_through_12 : decode cX6_through 12 = .ok (.ireturn, 1) := by decide +kernel
theorem dX6_through_13 : decode cX6_through 13 = .ok (.aload_n 0, 1) := by decide +kernel
theorem dX6_through_14 : decode cX6_through 14 = .ok (.invokevirtual 130, 3) := by decide +kernel
theorem dX6_through_17 : decode cX6_through 17 = .ok (.aload_n 0, 1) := by decide +kernel
theorem dX6_through_18 : decode cX6_through 18 = .ok (.getfield 26, 3) := by decide +kernel
theorem dX6_through_21 : decode cX6_through 21 = .ok (.iload_n 1, 1) := by decide +kernel
theorem dX6_through_22 : decode cX6_through 22 = .ok (.invokevirtual 178, 3) := by decide +kernel
theorem dX6_through_25 : decode cX6_through 25 = .ok (.ireturn, 1) := by decide +kernel
theorem dX6_blamed_0 : decode cX6_blamed 0 = .ok (.aload_n 0, 1) := by decide +kernel
theorem dX6_blamed_1 : decode cX6_blamed 1 = .ok (.invokevirtual 130, 3) := by decide +kernel
theorem dX6_blamed_4 : decode cX6_blamed 4 = .ok (.aload_n 0, 1) := by decide +kernel
theorem dX6_blamed_5 : decode cX6_blamed 5 = .ok (.getfield 26, 3) := by decide +kernel
theorem dX6_blamed_8 : decode cX6_blamed 8 = .ok (.invokevirtual 181, 3) := by decide +kernel
theorem dX6_blamed_11 : decode cX6_blamed 11 = .ok (.ireturn, 1) := by decide +kernel
theorem dX6_cut_0 : decode cX6_cut 0 = .ok (.aload_n 0, 1) := by decide +kernel
theorem dX6_cut_1 : decode cX6_cut 1 = .ok (.invokevirtual 130, 3) := by decide +kernel
theorem dX6_cut_4 : decode cX6_cut 4 = .ok (.aload_n 0, 1) := by decide +kernel
theorem dX6_cut_5 : decode cX6_cut 5 = .ok (.getfield 26, 3) := by decide +kernel
theorem dX6_cut_8 : decode cX6_cut 8 = .ok (.aload_n 0, 1) := by decide +kernel
theorem dX6_cut_9 : decode cX6_cut 9 = .ok (.getfield 12, 3) := by decide +kernel
theorem dX6_cut_12 : decode cX6_cut 12 = .ok (.invokevirtual 184, 3) := by decide +kernel
theorem dX6_cut_15 : decode cX6_cut 15 = .ok (.invokevirtual 187, 3) := by decide +kernel
theorem dX6_cut_18 : decode cX6_cut 18 = .ok (.ireturn, 1) := by decide +kernel
theorem dX6_move_0 : decode cX6_move 0 = .ok (.aload_n 0, 1) := by decide +kernel
theorem dX6_move_1 : decode cX6_move 1 = .ok (.getfield 12, 3) := by decide +kernel
theorem dX6_move_4 : decode cX6_move 4 = .ok (.iload_n 1, 1) := by decide +kernel
theorem dX6_move_5 : decode cX6_move 5 = .ok (.invokevirtual 74, 3) := by decide +kernel
theorem dX6_move_8 : decode cX6_move 8 = .ok (.ifCond .ne 5, 3) := by decide +kernel
theorem dX6_move_11 : decode cX6_move 11 = .ok (.iconst (-1), 1) := by decide +kernel
theorem dX6_move_12 : decode cX6_move 12 = .ok (.ireturn, 1) := by decide +kernel
theorem dX6_move_13 : decode cX6_move 13 = .ok (.aload_n 0, 1) := by decide +kernel
theorem dX6_move_14 : decode cX6_move 14 = .ok (.getfield 12, 3) := by decide +kernel
theorem dX6_move_17 : decode cX6_move 17 = .ok (.iload_n 1, 1) := by decide +kernel
theorem dX6_move_18 : decode cX6_move 18 = .ok (.invokevirtual 98, 3) := by decide +kernel
theorem dX6_move_21 : decode cX6_move 21 = .ok (.ifCond .ne 6, 3) := by decide +kernel
theorem dX6_move_24 : decode cX6_move 24 = .ok (.bipush (-3), 2) := by decide +kernel
theorem dX6_move_26 : decode cX6_move 26 = .ok (.ireturn, 1) := by decide +kernel
theorem dX6_move_27 : decode cX6_move 27 = .ok (.aload_n 0, 1) := by decide +kernel
theorem dX6_move_28 : decode cX6_move 28 = .ok (.invokevirtual 130, 3) := by decide +kernel
theorem dX6_move_31 : decode cX6_move 31 = .ok (.aload_n 0, 1) := by decide +kernel
theorem dX6_move_32 : decode cX6_move 32 = .ok (.getfield 26, 3) := by decide +kernel
theorem dX6_move_35 : decode cX6_move 35 = .ok (.aload_n 0, 1) := by decide +kernel
theorem dX6_move_36 : decode cX6_move 36 = .ok (.getfield 12, 3) := by decide +kernel
theorem dX6_move_39 : decode cX6_move 39 = .ok (.iload_n 1, 1) := by decide +kernel
theorem dX6_move_40 : decode cX6_move 40 = .ok (.invokevirtual 190, 3) := by decide +kernel
theorem dX6_move_43 : decode cX6_move 43 = .ok (.ireturn, 1) := by decide +kernel
theorem dX6_edge_0 : decode cX6_edge 0 = .ok (.aload_n 0, 1) := by decide +kernel
theorem dX6_edge_1 : decode cX6_edge 1 = .ok (.invokevirtual 130, 3) := by decide +kernel
theorem dX6_edge_4 : decode cX6_edge 4 = .ok (.getstatic 106, 3) := by decide +kernel
theorem dX6_edge_7 : decode cX6_edge 7 = .ok (.iconst 0, 1) := by decide +kernel
theorem dX6_edge_8 : decode cX6_edge 8 = .ok (.iaload, 1) := by decide +kernel
theorem dX6_edge_9 : decode cX6_edge 9 = .ok (.istore_n 1, 1) := by decide +kernel
theorem dX6_edge_10 : decode cX6_edge 10 = .ok (.iload_n 1, 1) := by decide +kernel
theorem dX6_edge_11 : decode cX6_edge 11 = .ok (.getstatic 109, 3) := by decide +kernel
theorem dX6_edge_14 : decode cX6_edge 14 = .ok (.iconst 0, 1) := by decide +kernel
theorem dX6_edge_15 : decode cX6_edge 15 = .ok (.iaload, 1) := by decide +kernel
theorem dX6_edge_16 : decode cX6_edge 16 = .ok (.if_icmp .gt 29, 3) := by decide +kernel
theorem dX6_edge_19 : decode cX6_edge 19 = .ok (.aload_n 0, 1) := by decide +kernel
theorem dX6_edge_20 : decode cX6_edge 20 = .ok (.getfield 26, 3) := by decide +kernel
theorem dX6_edge_23 : decode cX6_edge 23 = .ok (.aload_n 0, 1) := by decide +kernel
theorem dX6_edge_24 : decode cX6_edge 24 = .ok (.getfield 12, 3) := by decide +kernel
theorem dX6_edge_27 : decode cX6_edge 27 = .ok (.getfield 86, 3) := by decide +kernel
theorem dX6_edge_30 : decode cX6_edge 30 = .ok (.iload_n 1, 1) := by decide +kernel
theorem dX6_edge_31 : decode cX6_edge 31 = .ok (.invokevirtual 194, 3) := by decide +kernel
theorem dX6_edge_34 : decode cX6_edge 34 = .ok (.ifCond .ne 5, 3) := by decide +kernel
theorem dX6_edge_37 : decode cX6_edge 37 = .ok (.iload_n 1, 1) := by decide +kernel
theorem dX6_edge_38 : decode cX6_edge 38 = .ok (.ireturn, 1) := by decide +kernel
theorem dX6_edge_39 : decode cX6_edge 39 = .ok (.iinc 1 1, 3) := by decide +kernel
theorem dX6_edge_42 : decode cX6_edge 42 = .ok (.goto (-32), 3) := by decide +kernel
theorem dX6_edge_45 : decode cX6_edge 45 = .ok (.bipush (-6), 2) := by decide +kernel
theorem dX6_edge_47 : decode cX6_edge 47 = .ok (.ireturn, 1) := by decide +kernel
theorem dX6_gets_0 : decode cX6_gets 0 = .ok (.aload_n 0, 1) := by decide +kernel
theorem dX6_gets_1 : decode cX6_gets 1 = .ok (.iload_n 1, 1) := by decide +kernel
theorem dX6_gets_2 : decode cX6_gets 2 = .ok (.iload_n 2, 1) := by decide +kernel
theorem dX6_gets_3 : decode cX6_gets 3 = .ok (.iconst 0, 1) := by decide +kernel
theorem dX6_gets_4 : decode cX6_gets 4 = .ok (.iload_n 3, 1) := by decide +kernel
theorem dX6_gets_5 : decode cX6_gets 5 = .ok (.invokevirtual 198, 3) := by decide +kernel
theorem dX6_gets_8 : decode cX6_gets 8 = .ok (.istore 4, 2) := by decide +kernel
theorem dX6_gets_10 : decode cX6_gets 10 = .ok (.iload 4, 2) := by decide +kernel
theorem dX6_gets_12 : decode cX6_gets 12 = .ok (.ifCond .eq 11, 3) := by decide +kernel
theorem dX6_gets_15 : decode cX6_gets 15 = .ok (.ldc2_w 202, 3) := by decide +kernel
theorem dX6_gets_18 : decode cX6_gets 18 = .ok (.iload 4, 2) := by decide +kernel
theorem dX6_gets_20 : decode cX6_gets 20 = .ok (.i2l, 1) := by decide +kernel
theorem dX6_gets_21 : decode cX6_gets 21 = .ok (.ladd, 1) := by decide +kernel
theorem dX6_gets_22 : decode cX6_gets 22 = .ok (.lreturn, 1) := by decide +kernel
theorem dX6_gets_23 : decode cX6_gets 23 = .ok (.aload_n 0, 1) := by decide +kernel
theorem dX6_gets_24 : decode cX6_gets 24 = .ok (.iload_n 1, 1) := by decide +kernel
theorem dX6_gets_25 : decode cX6_gets 25 = .ok (.iload_n 2, 1) := by decide +kernel
theorem dX6_gets_26 : decode cX6_gets 26 = .ok (.iload_n 3, 1) := by decide +kernel
theorem dX6_gets_27 : decode cX6_gets 27 = .ok (.invokevirtual 204, 3) := by decide +kernel
theorem dX6_gets_30 : decode cX6_gets 30 = .ok (.lreturn, 1) := by decide +kernel
theorem dX6_span_0 : decode cX6_span 0 = .ok (.aload_n 0, 1) := by decide +kernel
theorem dX6_span_1 : decode cX6_span 1 = .ok (.iload_n 1, 1) := by decide +kernel
theorem dX6_span_2 : decode cX6_span 2 = .ok (.iload_n 2, 1) := by decide +kernel
theorem dX6_span_3 : decode cX6_span 3 = .ok (.iload_n 3, 1) := by decide +kernel
theorem dX6_span_4 : decode cX6_span 4 = .ok (.iload 4, 2) := by decide +kernel
theorem dX6_span_6 : decode cX6_span 6 = .ok (.invokevirtual 198, 3) := by decide +kernel
theorem dX6_span_9 : decode cX6_span 9 = .ok (.istore 5, 2) := by decide +kernel
theorem dX6_span_11 : decode cX6_span 11 = .ok (.iload 5, 2) := by decide +kernel
theorem dX6_span_13 : decode cX6_span 13 = .ok (.ifCond .eq 11, 3) := by decide +kernel
theorem dX6_span_16 : decode cX6_span 16 = .ok (.ldc2_w 202, 3) := by decide +kernel
theorem dX6_span_19 : decode cX6_span 19 = .ok (.iload 5, 2) := by decide +kernel
theorem dX6_span_21 : decode cX6_span 21 = .ok (.i2l, 1) := by decide +kernel
theorem dX6_span_22 : decode cX6_span 22 = .ok (.ladd, 1) := by decide +kernel
theorem dX6_span_23 : decode cX6_span 23 = .ok (.lreturn, 1) := by decide +kernel
theorem dX6_span_24 : decode cX6_span 24 = .ok (.iload_n 3, 1) := by decide +kernel
theorem dX6_span_25 : decode cX6_span 25 = .ok (.ifCond .ne 12, 3) := by decide +kernel
theorem dX6_span_28 : decode cX6_span 28 = .ok (.aload_n 0, 1) := by decide +kernel
theorem dX6_span_29 : decode cX6_span 29 = .ok (.iload_n 1, 1) := by decide +kernel
theorem dX6_span_30 : decode cX6_span 30 = .ok (.iload_n 2, 1) := by decide +kernel
theorem dX6_span_31 : decode cX6_span 31 = .ok (.iload 4, 2) := by decide +kernel
theorem dX6_span_33 : decode cX6_span 33 = .ok (.invokevirtual 204, 3) := by decide +kernel
theorem dX6_span_36 : decode cX6_span 36 = .ok (.lreturn, 1) := by decide +kernel
theorem dX6_span_37 : decode cX6_span 37 = .ok (.aload_n 0, 1) := by decide +kernel
theorem dX6_span_38 : decode cX6_span 38 = .ok (.iload_n 2, 1) := by decide +kernel
theorem dX6_span_39 : decode cX6_span 39 = .ok (.iload_n 1, 1) := by decide +kernel
theorem dX6_span_40 : decode cX6_span 40 = .ok (.iconst 0, 1) := by decide +kernel
theorem dX6_span_41 : decode cX6_span 41 = .ok (.invokevirtual 204, 3) := by decide +kernel
theorem dX6_span_44 : decode cX6_span 44 = .ok (.lconst 0, 1) := by decide +kernel
theorem dX6_span_45 : decode cX6_span 45 = .ok (.lcmp, 1) := by decide +kernel
theorem dX6_span_46 : decode cX6_span 46 = .ok (.ifCond .ne 7, 3) := by decide +kernel
theorem dX6_span_49 : decode cX6_span 49 = .ok (.iconst 1, 1) := by decide +kernel
theorem dX6_span_50 : decode cX6_span 50 = .ok (.goto 4, 3) := by decide +kernel
theorem dX6_span_53 : decode cX6_span 53 = .ok (.iconst 0, 1) := by decide +kernel
theorem dX6_span_54 : decode cX6_span 54 = .ok (.istore 6, 2) := by decide +kernel
theorem dX6_span_56 : decode cX6_span 56 = .ok (.iload 6, 2) := by decide +kernel
theorem dX6_span_58 : decode cX6_span 58 = .ok (.ifCond .eq 9, 3) := by decide +kernel
theorem dX6_span_61 : decode cX6_span 61 = .ok (.iload 4, 2) := by decide +kernel
theorem dX6_span_63 : decode cX6_span 63 = .ok (.i2l, 1) := by decide +kernel
theorem dX6_span_64 : decode cX6_span 64 = .ok (.goto 13, 3) := by decide +kernel
theorem dX6_span_67 : decode cX6_span 67 = .ok (.aload_n 0, 1) := by decide +kernel
theorem dX6_span_68 : decode cX6_span 68 = .ok (.iload_n 2, 1) := by decide +kernel
theorem dX6_span_69 : decode cX6_span 69 = .ok (.iload_n 1, 1) := by decide +kernel
theorem dX6_span_70 : decode cX6_span 70 = .ok (.iconst 1, 1) := by decide +kernel
theorem dX6_span_71 : decode cX6_span 71 = .ok (.iload 4, 2) := by decide +kernel
theorem dX6_span_73 : decode cX6_span 73 = .ok (.isub, 1) := by decide +kernel
theorem dX6_span_74 : decode cX6_span 74 = .ok (.invokevirtual 204, 3) := by decide +kernel
theorem dX6_span_77 : decode cX6_span 77 = .ok (.lreturn, 1) := by decide +kernel
theorem dX6_joined_0 : decode cX6_joined 0 = .ok (.iload_n 1, 1) := by decide +kernel
theorem dX6_joined_1 : decode cX6_joined 1 = .ok (.invokestatic 55, 3) := by decide +kernel
theorem dX6_joined_4 : decode cX6_joined 4 = .ok (.ifCond .ne 5, 3) := by decide +kernel
theorem dX6_joined_7 : decode cX6_joined 7 = .ok (.iconst (-1), 1) := by decide +kernel
theorem dX6_joined_8 : decode cX6_joined 8 = .ok (.ireturn, 1) := by decide +kernel
theorem dX6_joined_9 : decode cX6_joined 9 = .ok (.aload_n 0, 1) := by decide +kernel
theorem dX6_joined_10 : decode cX6_joined 10 = .ok (.invokevirtual 130, 3) := by decide +kernel
theorem dX6_joined_13 : decode cX6_joined 13 = .ok (.aload_n 0, 1) := by decide +kernel
theorem dX6_joined_14 : decode cX6_joined 14 = .ok (.getfield 26, 3) := by decide +kernel
theorem dX6_joined_17 : decode cX6_joined 17 = .ok (.getfield 134, 3) := by decide +kernel
theorem dX6_joined_20 : decode cX6_joined 20 = .ok (.ifCond .le 6, 3) := by decide +kernel
theorem dX6_joined_23 : decode cX6_joined 23 = .ok (.bipush (-3), 2) := by decide +kernel
theorem dX6_joined_25 : decode cX6_joined 25 = .ok (.ireturn, 1) := by decide +kernel
theorem dX6_joined_26 : decode cX6_joined 26 = .ok (.aload_n 0, 1) := by decide +kernel
theorem dX6_joined_27 : decode cX6_joined 27 = .ok (.getfield 33, 3) := by decide +kernel
theorem dX6_joined_30 : decode cX6_joined 30 = .ok (.aload_n 0, 1) := by decide +kernel
theorem dX6_joined_31 : decode cX6_joined 31 = .ok (.getfield 12, 3) := by decide +kernel
theorem dX6_joined_34 : decode cX6_joined 34 = .ok (.invokevirtual 208, 3) := by decide +kernel
theorem dX6_joined_37 : decode cX6_joined 37 = .ok (.aload_n 0, 1) := by decide +kernel
theorem dX6_joined_38 : decode cX6_joined 38 = .ok (.getfield 33, 3) := by decide +kernel
theorem dX6_joined_41 : decode cX6_joined 41 = .ok (.iload_n 1, 1) := by decide +kernel
theorem dX6_joined_42 : decode cX6_joined 42 = .ok (.invokevirtual 212, 3) := by decide +kernel
theorem dX6_joined_45 : decode cX6_joined 45 = .ok (.ireturn, 1) := by decide +kernel
theorem dX6_parts_0 : decode cX6_parts 0 = .ok (.aload_n 0, 1) := by decide +kernel
theorem dX6_parts_1 : decode cX6_parts 1 = .ok (.invokevirtual 130, 3) := by decide +kernel
theorem dX6_parts_4 : decode cX6_parts 4 = .ok (.aload_n 0, 1) := by decide +kernel
theorem dX6_parts_5 : decode cX6_parts 5 = .ok (.getfield 26, 3) := by decide +kernel
theorem dX6_parts_8 : decode cX6_parts 8 = .ok (.getfield 134, 3) := by decide +kernel
theorem dX6_parts_11 : decode cX6_parts 11 = .ok (.ifCond .le 6, 3) := by decide +kernel
theorem dX6_parts_14 : decode cX6_parts 14 = .ok (.bipush (-3), 2) := by decide +kernel
theorem dX6_parts_16 : decode cX6_parts 16 = .ok (.ireturn, 1) := by decide +kernel
theorem dX6_parts_17 : decode cX6_parts 17 = .ok (.aload_n 0, 1) := by decide +kernel
theorem dX6_parts_18 : decode cX6_parts 18 = .ok (.getfield 33, 3) := by decide +kernel
theorem dX6_parts_21 : decode cX6_parts 21 = .ok (.aload_n 0, 1) := by decide +kernel
theorem dX6_parts_22 : decode cX6_parts 22 = .ok (.getfield 12, 3) := by decide +kernel
theorem dX6_parts_25 : decode cX6_parts 25 = .ok (.invokevirtual 208, 3) := by decide +kernel
theorem dX6_parts_28 : decode cX6_parts 28 = .ok (.aload_n 0, 1) := by decide +kernel
theorem dX6_parts_29 : decode cX6_parts 29 = .ok (.getfield 33, 3) := by decide +kernel
theorem dX6_parts_32 : decode cX6_parts 32 = .ok (.invokevirtual 215, 3) := by decide +kernel
theorem dX6_parts_35 : decode cX6_parts 35 = .ok (.ireturn, 1) := by decide +kernel
theorem dX6_worth_0 : decode cX6_worth 0 = .ok (.iload_n 1, 1) := by decide +kernel
theorem dX6_worth_1 : decode cX6_worth 1 = .ok (.invokestatic 55, 3) := by decide +kernel
theorem dX6_worth_4 : decode cX6_worth 4 = .ok (.ifCond .ne 5, 3) := by decide +kernel
theorem dX6_worth_7 : decode cX6_worth 7 = .ok (.iconst (-1), 1) := by decide +kernel
theorem dX6_worth_8 : decode cX6_worth 8 = .ok (.ireturn, 1) := by decide +kernel
theorem dX6_worth_9 : decode cX6_worth 9 = .ok (.iload_n 2, 1) := by decide +kernel
theorem dX6_worth_10 : decode cX6_worth 10 = .ok (.iconst 1, 1) := by decide +kernel
theorem dX6_worth_11 : decode cX6_worth 11 = .ok (.ldc 105, 2) := by decide +kernel
theorem dX6_worth_13 : decode cX6_worth 13 = .ok (.invokestatic 59, 3) := by decide +kernel
theorem dX6_worth_16 : decode cX6_worth 16 = .ok (.ifCond .ne 6, 3) := by decide +kernel
theorem dX6_worth_19 : decode cX6_worth 19 = .ok (.bipush (-2), 2) := by decide +kernel
theorem dX6_worth_21 : decode cX6_worth 21 = .ok (.ireturn, 1) := by decide +kernel
theorem dX6_worth_22 : decode cX6_worth 22 = .ok (.aload_n 0, 1) := by decide +kernel
theorem dX6_worth_23 : decode cX6_worth 23 = .ok (.getfield 51, 3) := by decide +kernel
theorem dX6_worth_26 : decode cX6_worth 26 = .ok (.iload_n 1, 1) := by decide +kernel
theorem dX6_worth_27 : decode cX6_worth 27 = .ok (.iaload, 1) := by decide +kernel
theorem dX6_worth_28 : decode cX6_worth 28 = .ok (.istore_n 3, 1) := by decide +kernel
theorem dX6_worth_29 : decode cX6_worth 29 = .ok (.aload_n 0, 1) := by decide +kernel
theorem dX6_worth_30 : decode cX6_worth 30 = .ok (.getfield 51, 3) := by decide +kernel
theorem dX6_worth_33 : decode cX6_worth 33 = .ok (.iload_n 1, 1) := by decide +kernel
theorem dX6_worth_34 : decode cX6_worth 34 = .ok (.iload_n 2, 1) := by decide +kernel
theorem dX6_worth_35 : decode cX6_worth 35 = .ok (.iastore, 1) := by decide +kernel
theorem dX6_worth_36 : decode cX6_worth 36 = .ok (.iload_n 3, 1) := by decide +kernel
theorem dX6_worth_37 : decode cX6_worth 37 = .ok (.ireturn, 1) := by decide +kernel
theorem dX6_off_0 : decode cX6_off 0 = .ok (.iload_n 1, 1) := by decide +kernel
theorem dX6_off_1 : decode cX6_off 1 = .ok (.iconst 0, 1) := by decide +kernel
theorem dX6_off_2 : decode cX6_off 2 = .ok (.iconst 3, 1) := by decide +kernel
theorem dX6_off_3 : decode cX6_off 3 = .ok (.invokestatic 59, 3) := by decide +kernel
theorem dX6_off_6 : decode cX6_off 6 = .ok (.ifCond .ne 6, 3) := by decide +kernel
theorem dX6_off_9 : decode cX6_off 9 = .ok (.bipush (-2), 2) := by decide +kernel
theorem dX6_off_11 : decode cX6_off 11 = .ok (.ireturn, 1) := by decide +kernel
theorem dX6_off_12 : decode cX6_off 12 = .ok (.iconst 0, 1) := by decide +kernel
theorem dX6_off_13 : decode cX6_off 13 = .ok (.istore_n 2, 1) := by decide +kernel
theorem dX6_off_14 : decode cX6_off 14 = .ok (.bipush (-6), 2) := by decide +kernel
theorem dX6_off_16 : decode cX6_off 16 = .ok (.istore_n 3, 1) := by decide +kernel
theorem dX6_off_17 : decode cX6_off 17 = .ok (.iconst 0, 1) := by decide +kernel
theorem dX6_off_18 : decode cX6_off 18 = .ok (.istore 4, 2) := by decide +kernel
theorem dX6_off_20 : decode cX6_off 20 = .ok (.iconst 0, 1) := by decide +kernel
theorem dX6_off_21 : decode cX6_off 21 = .ok (.istore 5, 2) := by decide +kernel
theorem dX6_off_23 : decode cX6_off 23 = .ok (.iload 5, 2) := by decide +kernel
theorem dX6_off_25 : decode cX6_off 25 = .ok (.aload_n 0, 1) := by decide +kernel

theorem dX4_isMadeByLaw_19 : decode cX4_isMadeByLaw 19 = .ok (.aload_n 0, 1) := by decide +kernel
theorem dX4_isMadeByLaw_20 : decode cX4_isMadeByLaw 20 = .ok (.iload_n 3, 1) := by decide +kernel
theorem dX4_isMadeByLaw_21 : decode cX4_isMadeByLaw 21 = .ok (.iload 5, 2) := by decide +kernel
theorem dX4_isMadeByLaw_23 : decode cX4_isMadeByLaw 23 = .ok (.invokevirtual 82, 3) := by decide +kernel
theorem dX4_isMadeByLaw_26 : decode cX4_isMadeByLaw 26 = .ok (.ifCond .ne 5, 3) := by decide +kernel
theorem dX4_isMadeByLaw_29 : decode cX4_isMadeByLaw 29 = .ok (.iconst 0, 1) := by decide +kernel
theorem dX4_isMadeByLaw_30 : decode cX4_isMadeByLaw 30 = .ok (.ireturn, 1) := by decide +kernel
theorem dX4_isMadeByLaw_31 : decode cX4_isMadeByLaw 31 = .ok (.iload_n 2, 1) := by decide +kernel
theorem dX4_isMadeByLaw_32 : decode cX4_isMadeByLaw 32 = .ok (.iload_n 3, 1) := by decide +kernel
theorem dX4_isMadeByLaw_33 : decode cX4_isMadeByLaw 33 = .ok (.invokestatic 85, 3) := by decide +kernel
theorem dX4_isMadeByLaw_36 : decode cX4_isMadeByLaw 36 = .ok (.istore 6, 2) := by decide +kernel
theorem dX4_isMadeByLaw_38 : decode cX4_isMadeByLaw 38 = .ok (.iload 6, 2) := by decide +kernel
theorem dX4_isMadeByLaw_40 : decode cX4_isMadeByLaw 40 = .ok (.iconst 3, 1) := by decide +kernel
theorem dX4_isMadeByLaw_41 : decode cX4_isMadeByLaw 41 = .ok (.if_icmp .lt 78, 3) := by decide +kernel
theorem dX4_isMadeByLaw_44 : decode cX4_isMadeByLaw 44 = .ok (.aload_n 0, 1) := by decide +kernel
theorem dX4_isMadeByLaw_45 : decode cX4_isMadeByLaw 45 = .ok (.getfield 23, 3) := by decide +kernel
theorem dX4_isMadeByLaw_48 : decode cX4_isMadeByLaw 48 = .ok (.iload 6, 2) := by decide +kernel
theorem dX4_isMadeByLaw_50 : decode cX4_isMadeByLaw 50 = .ok (.iaload, 1) := by decide +kernel
theorem dX4_isMadeByLaw_51 : decode cX4_isMadeByLaw 51 = .ok (.istore 7, 2) := by decide +kernel
theorem dX4_isMadeByLaw_53 : decode cX4_isMadeByLaw 53 = .ok (.iload 7, 2) := by decide +kernel
theorem dX4_isMadeByLaw_55 : decode cX4_isMadeByLaw 55 = .ok (.bipush (-9), 2) := by decide +kernel
theorem dX4_isMadeByLaw_57 : decode cX4_isMadeByLaw 57 = .ok (.if_icmp .ne 6, 3) := by decide +kernel
theorem dX4_isMadeByLaw_60 : decode cX4_isMadeByLaw 60 = .ok (.goto 53, 3) := by decide +kernel
theorem dX4_isMadeByLaw_63 : decode cX4_isMadeByLaw 63 = .ok (.iload 7, 2) := by decide +kernel
theorem dX4_isMadeByLaw_65 : decode cX4_isMadeByLaw 65 = .ok (.iconst 3, 1) := by decide +kernel
theorem dX4_isMadeByLaw_66 : decode cX4_isMadeByLaw 66 = .ok (.if_icmp .lt 45, 3) := by decide +kernel
theorem dX4_isMadeByLaw_69 : decode cX4_isMadeByLaw 69 = .ok (.aload_n 0, 1) := by decide +kernel
theorem dX4_isMadeByLaw_70 : decode cX4_isMadeByLaw 70 = .ok (.aload_n 1, 1) := by decide +kernel
theorem dX4_isMadeByLaw_71 : decode cX4_isMadeByLaw 71 = .ok (.getfield 91, 3) := by decide +kernel
theorem dX4_isMadeByLaw_74 : decode cX4_isMadeByLaw 74 = .ok (.iload 6, 2) := by decide +kernel
theorem dX4_isMadeByLaw_76 : decode cX4_isMadeByLaw 76 = .ok (.iaload, 1) := by decide +kernel
theorem dX4_isMadeByLaw_77 : decode cX4_isMadeByLaw 77 = .ok (.aload_n 1, 1) := by decide +kernel
theorem dX4_isMadeByLaw_78 : decode cX4_isMadeByLaw 78 = .ok (.getfield 91, 3) := by decide +kernel
theorem dX4_isMadeByLaw_81 : decode cX4_isMadeByLaw 81 = .ok (.iload 7, 2) := by decide +kernel
theorem dX4_isMadeByLaw_83 : decode cX4_isMadeByLaw 83 = .ok (.iaload, 1) := by decide +kernel
theorem dX4_isMadeByLaw_84 : decode cX4_isMadeByLaw 84 = .ok (.invokevirtual 82, 3) := by decide +kernel
theorem dX4_isMadeByLaw_87 : decode cX4_isMadeByLaw 87 = .ok (.ifCond .eq 24, 3) := by decide +kernel
theorem dX4_isMadeByLaw_90 : decode cX4_isMadeByLaw 90 = .ok (.aload_n 0, 1) := by decide +kernel
theorem dX4_isMadeByLaw_91 : decode cX4_isMadeByLaw 91 = .ok (.aload_n 1, 1) := by decide +kernel
theorem dX4_isMadeByLaw_92 : decode cX4_isMadeByLaw 92 = .ok (.getfield 92, 3) := by decide +kernel
theorem dX4_isMadeByLaw_95 : decode cX4_isMadeByLaw 95 = .ok (.iload 6, 2) := by decide +kernel
theorem dX4_isMadeByLaw_97 : decode cX4_isMadeByLaw 97 = .ok (.iaload, 1) := by decide +kernel
theorem dX4_isMadeByLaw_98 : decode cX4_isMadeByLaw 98 = .ok (.aload_n 1, 1) := by decide +kernel
theorem dX4_isMadeByLaw_99 : decode cX4_isMadeByLaw 99 = .ok (.getfield 92, 3) := by decide +kernel
theorem dX4_isMadeByLaw_102 : decode cX4_isMadeByLaw 102 = .ok (.iload 7, 2) := by decide +kernel
theorem dX4_isMadeByLaw_104 : decode cX4_isMadeByLaw 104 = .ok (.iaload, 1) := by decide +kernel
theorem dX4_isMadeByLaw_105 : decode cX4_isMadeByLaw 105 = .ok (.invokevirtual 82, 3) := by decide +kernel
theorem dX4_isMadeByLaw_108 : decode cX4_isMadeByLaw 108 = .ok (.ifCond .ne 5, 3) := by decide +kernel
theorem dX4_isMadeByLaw_111 : decode cX4_isMadeByLaw 111 = .ok (.iconst 0, 1) := by decide +kernel
theorem dX4_isMadeByLaw_112 : decode cX4_isMadeByLaw 112 = .ok (.ireturn, 1) := by decide +kernel
theorem dX4_isMadeByLaw_113 : decode cX4_isMadeByLaw 113 = .ok (.iinc 6 (-1), 3) := by decide +kernel
theorem dX4_isMadeByLaw_116 : decode cX4_isMadeByLaw 116 = .ok (.goto (-78), 3) := by decide +kernel
theorem dX4_isMadeByLaw_119 : decode cX4_isMadeByLaw 119 = .ok (.iconst 1, 1) := by decide +kernel
theorem dX4_isMadeByLaw_120 : decode cX4_isMadeByLaw 120 = .ok (.ireturn, 1) := by decide +kernel
theorem dX4_becomes_0 : decode cX4_becomes 0 = .ok (.aload_n 0, 1) := by decide +kernel
theorem dX4_becomes_1 : decode cX4_becomes 1 = .ok (.getfield 23, 3) := by decide +kernel
theorem dX4_becomes_4 : decode cX4_becomes 4 = .ok (.iload_n 1, 1) := by decide +kernel
theorem dX4_becomes_5 : decode cX4_becomes 5 = .ok (.iaload, 1) := by decide +kernel
theorem dX4_becomes_6 : decode cX4_becomes 6 = .ok (.bipush (-9), 2) := by decide +kernel
theorem dX4_becomes_8 : decode cX4_becomes 8 = .ok (.if_icmp .ne 10, 3) := by decide +kernel
theorem dX4_becomes_11 : decode cX4_becomes 11 = .ok (.aload_n 0, 1) := by decide +kernel
theorem dX4_becomes_12 : decode cX4_becomes 12 = .ok (.getfield 23, 3) := by decide +kernel
theorem dX4_becomes_15 : decode cX4_becomes 15 = .ok (.iload_n 1, 1) := by decide +kernel
theorem dX4_becomes_16 : decode cX4_becomes 16 = .ok (.iload_n 2, 1) := by decide +kernel
theorem dX4_becomes_17 : decode cX4_becomes 17 = .ok (.iastore, 1) := by decide +kernel
theorem dX4_becomes_18 : decode cX4_becomes 18 = .ok (.aload_n 0, 1) := by decide +kernel
theorem dX4_becomes_19 : decode cX4_becomes 19 = .ok (.getfield 23, 3) := by decide +kernel
theorem dX4_becomes_22 : decode cX4_becomes 22 = .ok (.iload_n 1, 1) := by decide +kernel
theorem dX4_becomes_23 : decode cX4_becomes 23 = .ok (.iaload, 1) := by decide +kernel
theorem dX4_becomes_24 : decode cX4_becomes 24 = .ok (.iload_n 2, 1) := by decide +kernel
theorem dX4_becomes_25 : decode cX4_becomes 25 = .ok (.if_icmp .ne 7, 3) := by decide +kernel
theorem dX4_becomes_28 : decode cX4_becomes 28 = .ok (.iconst 1, 1) := by decide +kernel
theorem dX4_becomes_29 : decode cX4_becomes 29 = .ok (.goto 4, 3) := by decide +kernel
theorem dX4_becomes_32 : decode cX4_becomes 32 = .ok (.iconst 0, 1) := by decide +kernel
theorem dX4_becomes_33 : decode cX4_becomes 33 = .ok (.ireturn, 1) := by decide +kernel
theorem dX4_joinByParts_0 : decode cX4_joinByParts 0 = .ok (.iconst 3, 1) := by decide +kernel
theorem dX4_joinByParts_1 : decode cX4_joinByParts 1 = .ok (.istore_n 2, 1) := by decide +kernel
theorem dX4_joinByParts_2 : decode cX4_joinByParts 2 = .ok (.iload_n 2, 1) := by decide +kernel
theorem dX4_joinByParts_3 : decode cX4_joinByParts 3 = .ok (.aload_n 1, 1) := by decide +kernel
theorem dX4_joinByParts_4 : decode cX4_joinByParts 4 = .ok (.getfield 34, 3) := by decide +kernel
theorem dX4_joinByParts_7 : decode cX4_joinByParts 7 = .ok (.if_icmp .ge 87, 3) := by decide +kernel
theorem dX4_joinByParts_10 : decode cX4_joinByParts 10 = .ok (.iload_n 2, 1) := by decide +kernel
theorem dX4_joinByParts_11 : decode cX4_joinByParts 11 = .ok (.iconst 1, 1) := by decide +kernel
theorem dX4_joinByParts_12 : decode cX4_joinByParts 12 = .ok (.iadd, 1) := by decide +kernel
theorem dX4_joinByParts_13 : decode cX4_joinByParts 13 = .ok (.istore_n 3, 1) := by decide +kernel
theorem dX4_joinByParts_14 : decode cX4_joinByParts 14 = .ok (.iload_n 3, 1) := by decide +kernel
theorem dX4_joinByParts_15 : decode cX4_joinByParts 15 = .ok (.aload_n 1, 1) := by decide +kernel
theorem dX4_joinByParts_16 : decode cX4_joinByParts 16 = .ok (.getfield 34, 3) := by decide +kernel
theorem dX4_joinByParts_19 : decode cX4_joinByParts 19 = .ok (.if_icmp .ge 69, 3) := by decide +kernel
theorem dX4_joinByParts_22 : decode cX4_joinByParts 22 = .ok (.aload_n 0, 1) := by decide +kernel
theorem dX4_joinByParts_23 : decode cX4_joinByParts 23 = .ok (.getfield 17, 3) := by decide +kernel
theorem dX4_joinByParts_26 : decode cX4_joinByParts 26 = .ok (.aload_n 1, 1) := by decide +kernel
theorem dX4_joinByParts_27 : decode cX4_joinByParts 27 = .ok (.getfield 91, 3) := by decide +kernel
theorem dX4_joinByParts_30 : decode cX4_joinByParts 30 = .ok (.iload_n 2, 1) := by decide +kernel
theorem dX4_joinByParts_31 : decode cX4_joinByParts 31 = .ok (.iaload, 1) := by decide +kernel
theorem dX4_joinByParts_32 : decode cX4_joinByParts 32 = .ok (.iaload, 1) := by decide +kernel
theorem dX4_joinByParts_33 : decode cX4_joinByParts 33 = .ok (.aload_n 0, 1) := by decide +kernel
theorem dX4_joinByParts_34 : decode cX4_joinByParts 34 = .ok (.getfield 17, 3) := by decide +kernel
theorem dX4_joinByParts_37 : decode cX4_joinByParts 37 = .ok (.aload_n 1, 1) := by decide +kernel
theorem dX4_joinByParts_38 : decode cX4_joinByParts 38 = .ok (.getfield 91, 3) := by decide +kernel
theorem dX4_joinByParts_41 : decode cX4_joinByParts 41 = .ok (.iload_n 3, 1) := by decide +kernel
theorem dX4_joinByParts_42 : decode cX4_joinByParts 42 = .ok (.iaload, 1) := by decide +kernel
theorem dX4_joinByParts_43 : decode cX4_joinByParts 43 = .ok (.iaload, 1) := by decide +kernel
theorem dX4_joinByParts_44 : decode cX4_joinByParts 44 = .ok (.if_icmp .ne 38, 3) := by decide +kernel
theorem dX4_joinByParts_47 : decode cX4_joinByParts 47 = .ok (.aload_n 0, 1) := by decide +kernel
theorem dX4_joinByParts_48 : decode cX4_joinByParts 48 = .ok (.getfield 17, 3) := by decide +kernel
theorem dX4_joinByParts_51 : decode cX4_joinByParts 51 = .ok (.aload_n 1, 1) := by decide +kernel
theorem dX4_joinByParts_52 : decode cX4_joinByParts 52 = .ok (.getfield 92, 3) := by decide +kernel
theorem dX4_joinByParts_55 : decode cX4_joinByParts 55 = .ok (.iload_n 2, 1) := by decide +kernel
theorem dX4_joinByParts_56 : decode cX4_joinByParts 56 = .ok (.iaload, 1) := by decide +kernel
theorem dX4_joinByParts_57 : decode cX4_joinByParts 57 = .ok (.iaload, 1) := by decide +kernel
theorem dX4_joinByParts_58 : decode cX4_joinByParts 58 = .ok (.aload_n 0, 1) := by decide +kernel
theorem dX4_joinByParts_59 : decode cX4_joinByParts 59 = .ok (.getfield 17, 3) := by decide +kernel
theorem dX4_joinByParts_62 : decode cX4_joinByParts 62 = .ok (.aload_n 1, 1) := by decide +kernel
theorem dX4_joinByParts_63 : decode cX4_joinByParts 63 = .ok (.getfield 92, 3) := by decide +kernel
theorem dX4_joinByParts_66 : decode cX4_joinByParts 66 = .ok (.iload_n 3, 1) := by decide +kernel
theorem dX4_joinByParts_67 : decode cX4_joinByParts 67 = .ok (.iaload, 1) := by decide +kernel
theorem dX4_joinByParts_68 : decode cX4_joinByParts 68 = .ok (.iaload, 1) := by decide +kernel
theorem dX4_joinByParts_69 : decode cX4_joinByParts 69 = .ok (.if_icmp .ne 13, 3) := by decide +kernel
theorem dX4_joinByParts_72 : decode cX4_joinByParts 72 = .ok (.aload_n 0, 1) := by decide +kernel
theorem dX4_joinByParts_73 : decode cX4_joinByParts 73 = .ok (.aload_n 1, 1) := by decide +kernel
theorem dX4_joinByParts_74 : decode cX4_joinByParts 74 = .ok (.getfield 34, 3) := by decide +kernel
theorem dX4_joinByParts_77 : decode cX4_joinByParts 77 = .ok (.iload_n 2, 1) := by decide +kernel
theorem dX4_joinByParts_78 : decode cX4_joinByParts 78 = .ok (.iload_n 3, 1) := by decide +kernel
theorem dX4_joinByParts_79 : decode cX4_joinByParts 79 = .ok (.invokevirtual 78, 3) := by decide +kernel
theorem dX4_joinByParts_82 : decode cX4_joinByParts 82 = .ok (.iinc 3 1, 3) := by decide +kernel
theorem dX4_joinByParts_85 : decode cX4_joinByParts 85 = .ok (.goto (-71), 3) := by decide +kernel
theorem dX4_joinByParts_88 : decode cX4_joinByParts 88 = .ok (.iinc 2 1, 3) := by decide +kernel
theorem dX4_joinByParts_91 : decode cX4_joinByParts 91 = .ok (.goto (-89), 3) := by decide +kernel
theorem dX4_joinByParts_94 : decode cX4_joinByParts 94 = .ok (.return_, 1) := by decide +kernel
theorem dX4_join_0 : decode cX4_join 0 = .ok (.aload_n 0, 1) := by decide +kernel
theorem dX4_join_1 : decode cX4_join 1 = .ok (.getfield 11, 3) := by decide +kernel
theorem dX4_join_4 : decode cX4_join 4 = .ok (.iload_n 2, 1) := by decide +kernel
theorem dX4_join_5 : decode cX4_join 5 = .ok (.iaload, 1) := by decide +kernel
theorem dX4_join_6 : decode cX4_join 6 = .ok (.aload_n 0, 1) := by decide +kernel
theorem dX4_join_7 : decode cX4_join 7 = .ok (.getfield 11, 3) := by decide +kernel
theorem dX4_join_10 : decode cX4_join 10 = .ok (.iload_n 3, 1) := by decide +kernel
theorem dX4_join_11 : decode cX4_join 11 = .ok (.iaload, 1) := by decide +kernel
theorem dX4_join_12 : decode cX4_join 12 = .ok (.invokestatic 93, 3) := by decide +kernel
theorem dX4_join_15 : decode cX4_join 15 = .ok (.istore 4, 2) := by decide +kernel
theorem dX4_join_17 : decode cX4_join 17 = .ok (.aload_n 0, 1) := by decide +kernel
theorem dX4_join_18 : decode cX4_join 18 = .ok (.getfield 11, 3) := by decide +kernel
theorem dX4_join_21 : decode cX4_join 21 = .ok (.iload_n 2, 1) := by decide +kernel
theorem dX4_join_22 : decode cX4_join 22 = .ok (.iaload, 1) := by decide +kernel
theorem dX4_join_23 : decode cX4_join 23 = .ok (.aload_n 0, 1) := by decide +kernel
theorem dX4_join_24 : decode cX4_join 24 = .ok (.getfield 11, 3) := by decide +kernel
theorem dX4_join_27 : decode cX4_join 27 = .ok (.iload_n 3, 1) := by decide +kernel
theorem dX4_join_28 : decode cX4_join 28 = .ok (.iaload, 1) := by decide +kernel
theorem dX4_join_29 : decode cX4_join 29 = .ok (.invokestatic 85, 3) := by decide +kernel
theorem dX4_join_32 : decode cX4_join 32 = .ok (.istore 5, 2) := by decide +kernel
theorem dX4_join_34 : decode cX4_join 34 = .ok (.iconst 0, 1) := by decide +kernel
theorem dX4_join_35 : decode cX4_join 35 = .ok (.istore 6, 2) := by decide +kernel
theorem dX4_join_37 : decode cX4_join 37 = .ok (.iload 6, 2) := by decide +kernel
theorem dX4_join_39 : decode cX4_join 39 = .ok (.iload_n 1, 1) := by decide +kernel
theorem dX4_join_40 : decode cX4_join 40 = .ok (.if_icmp .ge 30, 3) := by decide +kernel
theorem dX4_join_43 : decode cX4_join 43 = .ok (.aload_n 0, 1) := by decide +kernel
theorem dX4_join_44 : decode cX4_join 44 = .ok (.getfield 11, 3) := by decide +kernel
theorem dX4_join_47 : decode cX4_join 47 = .ok (.iload 6, 2) := by decide +kernel
theorem dX4_join_49 : decode cX4_join 49 = .ok (.iaload, 1) := by decide +kernel
theorem dX4_join_50 : decode cX4_join 50 = .ok (.iload 5, 2) := by decide +kernel
theorem dX4_join_52 : decode cX4_join 52 = .ok (.if_icmp .ne 12, 3) := by decide +kernel
theorem dX4_join_55 : decode cX4_join 55 = .ok (.aload_n 0, 1) := by decide +kernel
theorem dX4_join_56 : decode cX4_join 56 = .ok (.getfield 11, 3) := by decide +kernel
theorem dX4_join_59 : decode cX4_join 59 = .ok (.iload 6, 2) := by decide +kernel
theorem dX4_join_61 : decode cX4_join 61 = .ok (.iload 4, 2) := by decide +kernel
theorem dX4_join_63 : decode cX4_join 63 = .ok (.iastore, 1) := by decide +kernel
theorem dX4_join_64 : decode cX4_join 64 = .ok (.iinc 6 1, 3) := by decide +kernel
theorem dX4_join_67 : decode cX4_join 67 = .ok (.goto (-30), 3) := by decide +kernel
theorem dX4_join_70 : decode cX4_join 70 = .ok (.return_, 1) := by decide +kernel
theorem dX4_noteRound_0 : decode cX4_noteRound 0 = .ok (.iconst 0, 1) := by decide +kernel
theorem dX4_noteRound_1 : decode cX4_noteRound 1 = .ok (.istore_n 3, 1) := by decide +kernel
theorem dX4_noteRound_2 : decode cX4_noteRound 2 = .ok (.iconst 0, 1) := by decide +kernel
theorem dX4_noteRound_3 : decode cX4_noteRound 3 = .ok (.istore 4, 2) := by decide +kernel
theorem dX4_noteRound_5 : decode cX4_noteRound 5 = .ok (.iload 4, 2) := by decide +kernel
theorem dX4_noteRound_7 : decode cX4_noteRound 7 = .ok (.iload_n 1, 1) := by decide +kernel
theorem dX4_noteRound_8 : decode cX4_noteRound 8 = .ok (.if_icmp .ge 73, 3) := by decide +kernel
theorem dX4_noteRound_11 : decode cX4_noteRound 11 = .ok (.iconst 0, 1) := by decide +kernel
theorem dX4_noteRound_12 : decode cX4_noteRound 12 = .ok (.istore 5, 2) := by decide +kernel
theorem dX4_noteRound_14 : decode cX4_noteRound 14 = .ok (.iload 5, 2) := by decide +kernel
theorem dX4_noteRound_16 : decode cX4_noteRound 16 = .ok (.iload_n 1, 1) := by decide +kernel
theorem dX4_noteRound_17 : decode cX4_noteRound 17 = .ok (.if_icmp .ge 58, 3) := by decide +kernel
theorem dX4_noteRound_20 : decode cX4_noteRound 20 = .ok (.iload 4, 2) := by decide +kernel
theorem dX4_noteRound_22 : decode cX4_noteRound 22 = .ok (.bipush 20, 2) := by decide +kernel
theorem dX4_noteRound_24 : decode cX4_noteRound 24 = .ok (.imul, 1) := by decide +kernel
theorem dX4_noteRound_25 : decode cX4_noteRound 25 = .ok (.iload 5, 2) := by decide +kernel
theorem dX4_noteRound_27 : decode cX4_noteRound 27 = .ok (.iadd, 1) := by decide +kernel
theorem dX4_noteRound_28 : decode cX4_noteRound 28 = .ok (.istore 6, 2) := by decide +kernel
theorem dX4_noteRound_30 : decode cX4_noteRound 30 = .ok (.aload_n 0, 1) := by decide +kernel
theorem dX4_noteRound_31 : decode cX4_noteRound 31 = .ok (.getfield 11, 3) := by decide +kernel
theorem dX4_noteRound_34 : decode cX4_noteRound 34 = .ok (.iload 4, 2) := by decide +kernel
theorem dX4_noteRound_36 : decode cX4_noteRound 36 = .ok (.iaload, 1) := by decide +kernel
theorem dX4_noteRound_37 : decode cX4_noteRound 37 = .ok (.aload_n 0, 1) := by decide +kernel
theorem dX4_noteRound_38 : decode cX4_noteRound 38 = .ok (.getfield 11, 3) := by decide +kernel
theorem dX4_noteRound_41 : decode cX4_noteRound 41 = .ok (.iload 5, 2) := by decide +kernel
theorem dX4_noteRound_43 : decode cX4_noteRound 43 = .ok (.iaload, 1) := by decide +kernel
theorem dX4_noteRound_44 : decode cX4_noteRound 44 = .ok (.if_icmp .ne 25, 3) := by decide +kernel
theorem dX4_noteRound_47 : decode cX4_noteRound 47 = .ok (.aload_n 0, 1) := by decide +kernel
theorem dX4_noteRound_48 : decode cX4_noteRound 48 = .ok (.getfield 20, 3) := by decide +kernel
theorem dX4_noteRound_51 : decode cX4_noteRound 51 = .ok (.iload 6, 2) := by decide +kernel
theorem dX4_noteRound_53 : decode cX4_noteRound 53 = .ok (.iaload, 1) := by decide +kernel
theorem dX4_noteRound_54 : decode cX4_noteRound 54 = .ok (.bipush (-9), 2) := by decide +kernel
theorem dX4_noteRound_56 : decode cX4_noteRound 56 = .ok (.if_icmp .ne 13, 3) := by decide +kernel
theorem dX4_noteRound_59 : decode cX4_noteRound 59 = .ok (.aload_n 0, 1) := by decide +kernel
theorem dX4_noteRound_60 : decode cX4_noteRound 60 = .ok (.getfield 20, 3) := by decide +kernel
theorem dX4_noteRound_63 : decode cX4_noteRound 63 = .ok (.iload 6, 2) := by decide +kernel
theorem dX4_noteRound_65 : decode cX4_noteRound 65 = .ok (.iload_n 2, 1) := by decide +kernel
theorem dX4_noteRound_66 : decode cX4_noteRound 66 = .ok (.iastore, 1) := by decide +kernel
theorem dX4_noteRound_67 : decode cX4_noteRound 67 = .ok (.iconst 1, 1) := by decide +kernel
theorem dX4_noteRound_68 : decode cX4_noteRound 68 = .ok (.istore_n 3, 1) := by decide +kernel
theorem dX4_noteRound_69 : decode cX4_noteRound 69 = .ok (.iinc 5 1, 3) := by decide +kernel
theorem dX4_noteRound_72 : decode cX4_noteRound 72 = .ok (.goto (-58), 3) := by decide +kernel
theorem dX4_noteRound_75 : decode cX4_noteRound 75 = .ok (.iinc 4 1, 3) := by decide +kernel
theorem dX4_noteRound_78 : decode cX4_noteRound 78 = .ok (.goto (-73), 3) := by decide +kernel
theorem dX4_noteRound_81 : decode cX4_noteRound 81 = .ok (.iload_n 3, 1) := by decide +kernel
theorem dX4_noteRound_82 : decode cX4_noteRound 82 = .ok (.ireturn, 1) := by decide +kernel
theorem dX5_init_0 : decode cX5_init 0 = .ok (.aload_n 0, 1) := by decide +kernel
theorem dX5_init_1 : decode cX5_init 1 = .ok (.invokespecial 5, 3) := by decide +kernel
theorem dX5_init_4 : decode cX5_init 4 = .ok (.aload_n 0, 1) := by decide +kernel
theorem dX5_init_5 : decode cX5_init 5 = .ok (.bipush 40, 2) := by decide +kernel
theorem dX5_init_7 : decode cX5_init 7 = .ok (.newarray .int, 2) := by decide +kernel
theorem dX5_init_9 : decode cX5_init 9 = .ok (.putfield 11, 3) := by decide +kernel
theorem dX5_init_12 : decode cX5_init 12 = .ok (.aload_n 0, 1) := by decide +kernel
theorem dX5_init_13 : decode cX5_init 13 = .ok (.bipush 40, 2) := by decide +kernel
theorem dX5_init_15 : decode cX5_init 15 = .ok (.newarray .int, 2) := by decide +kernel
theorem dX5_init_17 : decode cX5_init 17 = .ok (.putfield 15, 3) := by decide +kernel
theorem dX5_init_20 : decode cX5_init 20 = .ok (.aload_n 0, 1) := by decide +kernel
theorem dX5_init_21 : decode cX5_init 21 = .ok (.iconst 0, 1) := by decide +kernel
theorem dX5_init_22 : decode cX5_init 22 = .ok (.putfield 18, 3) := by decide +kernel
theorem dX5_init_25 : decode cX5_init 25 = .ok (.aload_n 0, 1) := by decide +kernel
theorem dX5_init_26 : decode cX5_init 26 = .ok (.iconst 0, 1) := by decide +kernel
theorem dX5_init_27 : decode cX5_init 27 = .ok (.putfield 22, 3) := by decide +kernel
theorem dX5_init_30 : decode cX5_init 30 = .ok (.aload_n 0, 1) := by decide +kernel
theorem dX5_init_31 : decode cX5_init 31 = .ok (.iconst 0, 1) := by decide +kernel
theorem dX5_init_32 : decode cX5_init 32 = .ok (.putfield 25, 3) := by decide +kernel
theorem dX5_init_35 : decode cX5_init 35 = .ok (.aload_n 0, 1) := by decide +kernel
theorem dX5_init_36 : decode cX5_init 36 = .ok (.iconst 0, 1) := by decide +kernel
theorem dX5_init_37 : decode cX5_init 37 = .ok (.putfield 29, 3) := by decide +kernel
theorem dX5_init_40 : decode cX5_init 40 = .ok (.aload_n 0, 1) := by decide +kernel
theorem dX5_init_41 : decode cX5_init 41 = .ok (.sipush 6682, 3) := by decide +kernel
theorem dX5_init_44 : decode cX5_init 44 = .ok (.newarray .long, 2) := by decide +kernel
theorem dX5_init_46 : decode cX5_init 46 = .ok (.putfield 34, 3) := by decide +kernel
theorem dX5_init_49 : decode cX5_init 49 = .ok (.aload_n 0, 1) := by decide +kernel
theorem dX5_init_50 : decode cX5_init 50 = .ok (.bipush 40, 2) := by decide +kernel
theorem dX5_init_52 : decode cX5_init 52 = .ok (.newarray .int, 2) := by decide +kernel
theorem dX5_init_54 : decode cX5_init 54 = .ok (.putfield 38, 3) := by decide +kernel
theorem dX5_init_57 : decode cX5_init 57 = .ok (.aload_n 0, 1) := by decide +kernel
theorem dX5_init_58 : decode cX5_init 58 = .ok (.bipush (-9), 2) := by decide +kernel
theorem dX5_init_60 : decode cX5_init 60 = .ok (.putfield 41, 3) := by decide +kernel
theorem dX5_init_63 : decode cX5_init 63 = .ok (.aload_n 0, 1) := by decide +kernel
theorem dX5_init_64 : decode cX5_init 64 = .ok (.iconst (-1), 1) := by decide +kernel
theorem dX5_init_65 : decode cX5_init 65 = .ok (.putfield 44, 3) := by decide +kernel
theorem dX5_init_68 : decode cX5_init 68 = .ok (.aload_n 0, 1) := by decide +kernel
theorem dX5_init_69 : decode cX5_init 69 = .ok (.aload_n 1, 1) := by decide +kernel
theorem dX5_init_70 : decode cX5_init 70 = .ok (.putfield 47, 3) := by decide +kernel
theorem dX5_init_73 : decode cX5_init 73 = .ok (.aload_n 0, 1) := by decide +kernel
theorem dX5_init_74 : decode cX5_init 74 = .ok (.aload_n 2, 1) := by decide +kernel
theorem dX5_init_75 : decode cX5_init 75 = .ok (.putfield 51, 3) := by decide +kernel
theorem dX5_init_78 : decode cX5_init 78 = .ok (.aload_n 0, 1) := by decide +kernel
theorem dX5_init_79 : decode cX5_init 79 = .ok (.aload_n 3, 1) := by decide +kernel
theorem dX5_init_80 : decode cX5_init 80 = .ok (.putfield 55, 3) := by decide +kernel
theorem dX5_init_83 : decode cX5_init 83 = .ok (.aload_n 0, 1) := by decide +kernel
theorem dX5_init_84 : decode cX5_init 84 = .ok (.aload 4, 2) := by decide +kernel
theorem dX5_init_86 : decode cX5_init 86 = .ok (.putfield 59, 3) := by decide +kernel
theorem dX5_init_89 : decode cX5_init 89 = .ok (.return_, 1) := by decide +kernel
theorem dX5_forget_0 : decode cX5_forget 0 = .ok (.aload_n 0, 1) := by decide +kernel
theorem dX5_forget_1 : decode cX5_forget 1 = .ok (.iconst 0, 1) := by decide +kernel
theorem dX5_forget_2 : decode cX5_forget 2 = .ok (.putfield 25, 3) := by decide +kernel
theorem dX5_forget_5 : decode cX5_forget 5 = .ok (.aload_n 0, 1) := by decide +kernel
theorem dX5_forget_6 : decode cX5_forget 6 = .ok (.iconst 0, 1) := by decide +kernel
theorem dX5_forget_7 : decode cX5_forget 7 = .ok (.putfield 29, 3) := by decide +kernel
theorem dX5_forget_10 : decode cX5_forget 10 = .ok (.return_, 1) := by decide +kernel
theorem dX5_settle_0 : decode cX5_settle 0 = .ok (.aload_n 0, 1) := by decide +kernel
theorem dX5_settle_1 : decode cX5_settle 1 = .ok (.getfield 25, 3) := by decide +kernel
theorem dX5_settle_4 : decode cX5_settle 4 = .ok (.ifCond .ne 8, 3) := by decide +kernel
theorem dX5_settle_7 : decode cX5_settle 7 = .ok (.aload_n 0, 1) := by decide +kernel
theorem dX5_settle_8 : decode cX5_settle 8 = .ok (.iload_n 1, 1) := by decide +kernel
theorem dX5_settle_9 : decode cX5_settle 9 = .ok (.invokevirtual 63, 3) := by decide +kernel
theorem dX5_settle_12 : decode cX5_settle 12 = .ok (.aload_n 0, 1) := by decide +kernel
theorem dX5_settle_13 : decode cX5_settle 13 = .ok (.getfield 29, 3) := by decide +kernel
theorem dX5_settle_16 : decode cX5_settle 16 = .ok (.istore_n 2, 1) := by decide +kernel
theorem dX5_settle_17 : decode cX5_settle 17 = .ok (.iload_n 2, 1) := by decide +kernel
theorem dX5_settle_18 : decode cX5_settle 18 = .ok (.aload_n 0, 1) := by decide +kernel
theorem dX5_settle_19 : decode cX5_settle 19 = .ok (.getfield 55, 3) := by decide +kernel
theorem dX5_settle_22 : decode cX5_settle 22 = .ok (.getfield 67, 3) := by decide +kernel
theorem dX5_settle_25 : decode cX5_settle 25 = .ok (.if_icmp .ge 36, 3) := by decide +kernel
theorem dX5_settle_28 : decode cX5_settle 28 = .ok (.iconst 0, 1) := by decide +kernel
theorem dX5_settle_29 : decode cX5_settle 29 = .ok (.istore_n 3, 1) := by decide +kernel
theorem dX5_settle_30 : decode cX5_settle 30 = .ok (.iload_n 3, 1) := by decide +kernel
theorem dX5_settle_31 : decode cX5_settle 31 = .ok (.aload_n 0, 1) := by decide +kernel
theorem dX5_settle_32 : decode cX5_settle 32 = .ok (.getfield 18, 3) := by decide +kernel
theorem dX5_settle_35 : decode cX5_settle 35 = .ok (.if_icmp .ge 20, 3) := by decide +kernel
theorem dX5_settle_38 : decode cX5_settle 38 = .ok (.aload_n 0, 1) := by decide +kernel
theorem dX5_settle_39 : decode cX5_settle 39 = .ok (.iload_n 2, 1) := by decide +kernel
theorem dX5_settle_40 : decode cX5_settle 40 = .ok (.aload_n 0, 1) := by decide +kernel
theorem dX5_settle_41 : decode cX5_settle 41 = .ok (.getfield 11, 3) := by decide +kernel
theorem dX5_settle_44 : decode cX5_settle 44 = .ok (.iload_n 3, 1) := by decide +kernel
theorem dX5_settle_45 : decode cX5_settle 45 = .ok (.iaload, 1) := by decide +kernel
theorem dX5_settle_46 : decode cX5_settle 46 = .ok (.invokevirtual 70, 3) := by decide +kernel
theorem dX5_settle_49 : decode cX5_settle 49 = .ok (.iinc 3 1, 3) := by decide +kernel
theorem dX5_settle_52 : decode cX5_settle 52 = .ok (.goto (-22), 3) := by decide +kernel
theorem dX5_settle_55 : decode cX5_settle 55 = .ok (.iinc 2 1, 3) := by decide +kernel
theorem dX5_settle_58 : decode cX5_settle 58 = .ok (.goto (-41), 3) := by decide +kernel
theorem dX5_settle_61 : decode cX5_settle 61 = .ok (.aload_n 0, 1) := by decide +kernel
theorem dX5_settle_62 : decode cX5_settle 62 = .ok (.aload_n 0, 1) := by decide +kernel
theorem dX5_settle_63 : decode cX5_settle 63 = .ok (.getfield 55, 3) := by decide +kernel
theorem dX5_settle_66 : decode cX5_settle 66 = .ok (.getfield 67, 3) := by decide +kernel
theorem dX5_settle_69 : decode cX5_settle 69 = .ok (.putfield 29, 3) := by decide +kernel
theorem dX5_settle_72 : decode cX5_settle 72 = .ok (.return_, 1) := by decide +kernel
theorem dX5_fillList_0 : decode cX5_fillList 0 = .ok (.aload_n 0, 1) := by decide +kernel
theorem dX5_fillList_1 : decode cX5_fillList 1 = .ok (.iconst 0, 1) := by decide +kernel
theorem dX5_fillList_2 : decode cX5_fillList 2 = .ok (.putfield 18, 3) := by decide +kernel
theorem dX5_fillList_5 : decode cX5_fillList 5 = .ok (.aload_n 0, 1) := by decide +kernel
theorem dX5_fillList_6 : decode cX5_fillList 6 = .ok (.iconst 0, 1) := by decide +kernel
theorem dX5_fillList_7 : decode cX5_fillList 7 = .ok (.putfield 22, 3) := by decide +kernel
theorem dX5_fillList_10 : decode cX5_fillList 10 = .ok (.iconst 0, 1) := by decide +kernel
theorem dX5_fillList_11 : decode cX5_fillList 11 = .ok (.istore_n 2, 1) := by decide +kernel
theorem dX5_fillList_12 : decode cX5_fillList 12 = .ok (.iload_n 2, 1) := by decide +kernel
theorem dX5_fillList_13 : decode cX5_fillList 13 = .ok (.sipush 3341, 3) := by decide +kernel
theorem dX5_fillList_16 : decode cX5_fillList 16 = .ok (.if_icmp .ge 84, 3) := by decide +kernel
theorem dX5_fillList_19 : decode cX5_fillList 19 = .ok (.aload_n 0, 1) := by decide +kernel
theorem dX5_fillList_20 : decode cX5_fillList 20 = .ok (.getfield 18, 3) := by decide +kernel
theorem dX5_fillList_23 : decode cX5_fillList 23 = .ok (.bipush 40, 2) := by decide +kernel
theorem dX5_fillList_25 : decode cX5_fillList 25 = .ok (.if_icmp .ge 75, 3) := by decide +kernel
theorem dX5_fillList_28 : decode cX5_fillList 28 = .ok (.aload_n 0, 1) := by decide +kernel
theorem dX5_fillList_29 : decode cX5_fillList 29 = .ok (.getfield 51, 3) := by decide +kernel
theorem dX5_fillList_32 : decode cX5_fillList 32 = .ok (.iload_n 2, 1) := by decide +kernel
theorem dX5_fillList_33 : decode cX5_fillList 33 = .ok (.iload_n 1, 1) := by decide +kernel
theorem dX5_fillList_34 : decode cX5_fillList 34 = .ok (.invokevirtual 74, 3) := by decide +kernel
theorem dX5_fillList_37 : decode cX5_fillList 37 = .ok (.ifCond .eq 57, 3) := by decide +kernel
theorem dX5_fillList_40 : decode cX5_fillList 40 = .ok (.aload_n 0, 1) := by decide +kernel
theorem dX5_fillList_41 : decode cX5_fillList 41 = .ok (.getfield 51, 3) := by decide +kernel
theorem dX5_fillList_44 : decode cX5_fillList 44 = .ok (.iload_n 2, 1) := by decide +kernel
theorem dX5_fillList_45 : decode cX5_fillList 45 = .ok (.invokevirtual 78, 3) := by decide +kernel
theorem dX5_fillList_48 : decode cX5_fillList 48 = .ok (.istore_n 3, 1) := by decide +kernel
theorem dX5_fillList_49 : decode cX5_fillList 49 = .ok (.aload_n 0, 1) := by decide +kernel
theorem dX5_fillList_50 : decode cX5_fillList 50 = .ok (.getfield 11, 3) := by decide +kernel
theorem dX5_fillList_53 : decode cX5_fillList 53 = .ok (.aload_n 0, 1) := by decide +kernel
theorem dX5_fillList_54 : decode cX5_fillList 54 = .ok (.getfield 18, 3) := by decide +kernel
theorem dX5_fillList_57 : decode cX5_fillList 57 = .ok (.iload_n 2, 1) := by decide +kernel
theorem dX5_fillList_58 : decode cX5_fillList 58 = .ok (.iastore, 1) := by decide +kernel
theorem dX5_fillList_59 : decode cX5_fillList 59 = .ok (.aload_n 0, 1) := by decide +kernel
theorem dX5_fillList_60 : decode cX5_fillList 60 = .ok (.getfield 15, 3) := by decide +kernel
theorem dX5_fillList_63 : decode cX5_fillList 63 = .ok (.aload_n 0, 1) := by decide +kernel
theorem dX5_fillList_64 : decode cX5_fillList 64 = .ok (.getfield 18, 3) := by decide +kernel
theorem dX5_fillList_67 : decode cX5_fillList 67 = .ok (.aload_n 0, 1) := by decide +kernel
theorem dX5_fillList_68 : decode cX5_fillList 68 = .ok (.getfield 22, 3) := by decide +kernel
theorem dX5_fillList_71 : decode cX5_fillList 71 = .ok (.iastore, 1) := by decide +kernel
theorem dX5_fillList_72 : decode cX5_fillList 72 = .ok (.aload_n 0, 1) := by decide +kernel
theorem dX5_fillList_73 : decode cX5_fillList 73 = .ok (.dup, 1) := by decide +kernel
theorem dX5_fillList_74 : decode cX5_fillList 74 = .ok (.getfield 22, 3) := by decide +kernel
theorem dX5_fillList_77 : decode cX5_fillList 77 = .ok (.iload_n 3, 1) := by decide +kernel
theorem dX5_fillList_78 : decode cX5_fillList 78 = .ok (.iload_n 3, 1) := by decide +kernel
theorem dX5_fillList_79 : decode cX5_fillList 79 = .ok (.imul, 1) := by decide +kernel
theorem dX5_fillList_80 : decode cX5_fillList 80 = .ok (.iadd, 1) := by decide +kernel
theorem dX5_fillList_81 : decode cX5_fillList 81 = .ok (.putfield 22, 3) := by decide +kernel
theorem dX5_fillList_84 : decode cX5_fillList 84 = .ok (.aload_n 0, 1) := by decide +kernel
theorem dX5_fillList_85 : decode cX5_fillList 85 = .ok (.dup, 1) := by decide +kernel
theorem dX5_fillList_86 : decode cX5_fillList 86 = .ok (.getfield 18, 3) := by decide +kernel
theorem dX5_fillList_89 : decode cX5_fillList 89 = .ok (.iconst 1, 1) := by decide +kernel
theorem dX5_fillList_90 : decode cX5_fillList 90 = .ok (.iadd, 1) := by decide +kernel
theorem dX5_fillList_91 : decode cX5_fillList 91 = .ok (.putfield 18, 3) := by decide +kernel
theorem dX5_fillList_94 : decode cX5_fillList 94 = .ok (.iinc 2 1, 3) := by decide +kernel
theorem dX5_fillList_97 : decode cX5_fillList 97 = .ok (.goto (-85), 3) := by decide +kernel
theorem dX5_fillList_100 : decode cX5_fillList 100 = .ok (.aload_n 0, 1) := by decide +kernel
theorem dX5_fillList_101 : decode cX5_fillList 101 = .ok (.iconst 1, 1) := by decide +kernel
theorem dX5_fillList_102 : decode cX5_fillList 102 = .ok (.putfield 25, 3) := by decide +kernel
theorem dX5_fillList_105 : decode cX5_fillList 105 = .ok (.return_, 1) := by decide +kernel
theorem dX5_has_0 : decode cX5_has 0 = .ok (.iload_n 1, 1) := by decide +kernel
theorem dX5_has_1 : decode cX5_has 1 = .ok (.ifCond .lt 15, 3) := by decide +kernel
theorem dX5_has_4 : decode cX5_has 4 = .ok (.iload_n 1, 1) := by decide +kernel
theorem dX5_has_5 : decode cX5_has 5 = .ok (.aload_n 0, 1) := by decide +kernel
theorem dX5_has_6 : decode cX5_has 6 = .ok (.getfield 18, 3) := by decide +kernel
theorem dX5_has_9 : decode cX5_has 9 = .ok (.if_icmp .ge 7, 3) := by decide +kernel
theorem dX5_has_12 : decode cX5_has 12 = .ok (.iconst 1, 1) := by decide +kernel
theorem dX5_has_13 : decode cX5_has 13 = .ok (.goto 4, 3) := by decide +kernel
theorem dX5_has_16 : decode cX5_has 16 = .ok (.iconst 0, 1) := by decide +kernel
theorem dX5_has_17 : decode cX5_has 17 = .ok (.ireturn, 1) := by decide +kernel
theorem dX5_sizeAt_0 : decode cX5_sizeAt 0 = .ok (.aload_n 0, 1) := by decide +kernel
theorem dX5_sizeAt_1 : decode cX5_sizeAt 1 = .ok (.getfield 51, 3) := by decide +kernel
theorem dX5_sizeAt_4 : decode cX5_sizeAt 4 = .ok (.aload_n 0, 1) := by decide +kernel
theorem dX5_sizeAt_5 : decode cX5_sizeAt 5 = .ok (.getfield 11, 3) := by decide +kernel
theorem dX5_sizeAt_8 : decode cX5_sizeAt 8 = .ok (.iload_n 1, 1) := by decide +kernel
theorem dX5_sizeAt_9 : decode cX5_sizeAt 9 = .ok (.iaload, 1) := by decide +kernel
theorem dX5_sizeAt_10 : decode cX5_sizeAt 10 = .ok (.invokevirtual 78, 3) := by decide +kernel
theorem dX5_sizeAt_13 : decode cX5_sizeAt 13 = .ok (.ireturn, 1) := by decide +kernel
theorem dX5_at_0 : decode cX5_at 0 = .ok (.aload_n 0, 1) := by decide +kernel
theorem dX5_at_1 : decode cX5_at 1 = .ok (.iload_n 1, 1) := by decide +kernel
theorem dX5_at_2 : decode cX5_at 2 = .ok (.aload_n 0, 1) := by decide +kernel
theorem dX5_at_3 : decode cX5_at 3 = .ok (.getfield 11, 3) := by decide +kernel
theorem dX5_at_6 : decode cX5_at 6 = .ok (.iload_n 2, 1) := by decide +kernel
theorem dX5_at_7 : decode cX5_at 7 = .ok (.iaload, 1) := by decide +kernel
theorem dX5_at_8 : decode cX5_at 8 = .ok (.invokevirtual 82, 3) := by decide +kernel
theorem dX5_at_11 : decode cX5_at 11 = .ok (.ireturn, 1) := by decide +kernel
theorem dX5_seenBits_0 : decode cX5_seenBits 0 = .ok (.aload_n 0, 1) := by decide +kernel
theorem dX5_seenBits_1 : decode cX5_seenBits 1 = .ok (.getfield 34, 3) := by decide +kernel
theorem dX5_seenBits_4 : decode cX5_seenBits 4 = .ok (.iconst 2, 1) := by decide +kernel
theorem dX5_seenBits_5 : decode cX5_seenBits 5 = .ok (.iload_n 2, 1) := by decide +kernel
theorem dX5_seenBits_6 : decode cX5_seenBits 6 = .ok (.imul, 1) := by decide +kernel
theorem dX5_seenBits_7 : decode cX5_seenBits 7 = .ok (.iload_n 1, 1) := by decide +kernel
theorem dX5_seenBits_8 : decode cX5_seenBits 8 = .ok (.bipush 6, 2) := by decide +kernel
theorem dX5_seenBits_10 : decode cX5_seenBits 10 = .ok (.idiv, 1) := by decide +kernel
theorem dX5_seenBits_11 : decode cX5_seenBits 11 = .ok (.iadd, 1) := by decide +kernel
theorem dX5_seenBits_12 : decode cX5_seenBits 12 = .ok (.laload, 1) := by decide +kernel
theorem dX5_seenBits_13 : decode cX5_seenBits 13 = .ok (.lstore_n 3, 1) := by decide +kernel
theorem dX5_seenBits_14 : decode cX5_seenBits 14 = .ok (.lload_n 3, 1) := by decide +kernel
theorem dX5_seenBits_15 : decode cX5_seenBits 15 = .ok (.iload_n 1, 1) := by decide +kernel
theorem dX5_seenBits_16 : decode cX5_seenBits 16 = .ok (.bipush 6, 2) := by decide +kernel
theorem dX5_seenBits_18 : decode cX5_seenBits 18 = .ok (.irem, 1) := by decide +kernel
theorem dX5_seenBits_19 : decode cX5_seenBits 19 = .ok (.bipush 9, 2) := by decide +kernel
theorem dX5_seenBits_21 : decode cX5_seenBits 21 = .ok (.imul, 1) := by decide +kernel
theorem dX5_seenBits_22 : decode cX5_seenBits 22 = .ok (.lshr, 1) := by decide +kernel
theorem dX5_seenBits_23 : decode cX5_seenBits 23 = .ok (.l2i, 1) := by decide +kernel
theorem dX5_seenBits_24 : decode cX5_seenBits 24 = .ok (.sipush 511, 3) := by decide +kernel
theorem dX5_seenBits_27 : decode cX5_seenBits 27 = .ok (.iand, 1) := by decide +kernel
theorem dX5_seenBits_28 : decode cX5_seenBits 28 = .ok (.ireturn, 1) := by decide +kernel
theorem dX5_see_0 : decode cX5_see 0 = .ok (.iload_n 1, 1) := by decide +kernel
theorem dX5_see_1 : decode cX5_see 1 = .ok (.bipush 6, 2) := by decide +kernel
theorem dX5_see_3 : decode cX5_see 3 = .ok (.irem, 1) := by decide +kernel
theorem dX5_see_4 : decode cX5_see 4 = .ok (.istore_n 3, 1) := by decide +kernel
theorem dX5_see_5 : decode cX5_see 5 = .ok (.lconst 1, 1) := by decide +kernel
theorem dX5_see_6 : decode cX5_see 6 = .ok (.bipush 54, 2) := by decide +kernel
theorem dX5_see_8 : decode cX5_see 8 = .ok (.iload_n 3, 1) := by decide +kernel
theorem dX5_see_9 : decode cX5_see 9 = .ok (.iadd, 1) := by decide +kernel
theorem dX5_see_10 : decode cX5_see 10 = .ok (.lshl, 1) := by decide +kernel
theorem dX5_see_11 : decode cX5_see 11 = .ok (.lstore 4, 2) := by decide +kernel
theorem dX5_see_13 : decode cX5_see 13 = .ok (.iconst 2, 1) := by decide +kernel
theorem dX5_see_14 : decode cX5_see 14 = .ok (.iload_n 2, 1) := by decide +kernel
theorem dX5_see_15 : decode cX5_see 15 = .ok (.imul, 1) := by decide +kernel
theorem dX5_see_16 : decode cX5_see 16 = .ok (.iload_n 1, 1) := by decide +kernel
theorem dX5_see_17 : decode cX5_see 17 = .ok (.bipush 6, 2) := by decide +kernel
theorem dX5_see_19 : decode cX5_see 19 = .ok (.idiv, 1) := by decide +kernel
theorem dX5_see_20 : decode cX5_see 20 = .ok (.iadd, 1) := by decide +kernel
theorem dX5_see_21 : decode cX5_see 21 = .ok (.istore 6, 2) := by decide +kernel
theorem dX5_see_23 : decode cX5_see 23 = .ok (.aload_n 0, 1) := by decide +kernel
theorem dX5_see_24 : decode cX5_see 24 = .ok (.getfield 34, 3) := by decide +kernel
theorem dX5_see_27 : decode cX5_see 27 = .ok (.iload 6, 2) := by decide +kernel
theorem dX5_see_29 : decode cX5_see 29 = .ok (.laload, 1) := by decide +kernel
theorem dX5_see_30 : decode cX5_see 30 = .ok (.lload 4, 2) := by decide +kernel
theorem dX5_see_32 : decode cX5_see 32 = .ok (.land, 1) := by decide +kernel
theorem dX5_see_33 : decode cX5_see 33 = .ok (.lconst 0, 1) := by decide +kernel
theorem dX5_see_34 : decode cX5_see 34 = .ok (.lcmp, 1) := by decide +kernel
theorem dX5_see_35 : decode cX5_see 35 = .ok (.ifCond .ne 28, 3) := by decide +kernel
theorem dX5_see_38 : decode cX5_see 38 = .ok (.aload_n 0, 1) := by decide +kernel
theorem dX5_see_39 : decode cX5_see 39 = .ok (.getfield 34, 3) := by decide +kernel
theorem dX5_see_42 : decode cX5_see 42 = .ok (.iload 6, 2) := by decide +kernel
theorem dX5_see_44 : decode cX5_see 44 = .ok (.dup2, 1) := by decide +kernel
theorem dX5_see_45 : decode cX5_see 45 = .ok (.laload, 1) := by decide +kernel
theorem dX5_see_46 : decode cX5_see 46 = .ok (.aload_n 0, 1) := by decide +kernel
theorem dX5_see_47 : decode cX5_see 47 = .ok (.iload_n 1, 1) := by decide +kernel
theorem dX5_see_48 : decode cX5_see 48 = .ok (.iload_n 2, 1) := by decide +kernel
theorem dX5_see_49 : decode cX5_see 49 = .ok (.invokevirtual 86, 3) := by decide +kernel
theorem dX5_see_52 : decode cX5_see 52 = .ok (.i2l, 1) := by decide +kernel
theorem dX5_see_53 : decode cX5_see 53 = .ok (.iload_n 3, 1) := by decide +kernel
theorem dX5_see_54 : decode cX5_see 54 = .ok (.bipush 9, 2) := by decide +kernel
theorem dX5_see_56 : decode cX5_see 56 = .ok (.imul, 1) := by decide +kernel
theorem dX5_see_57 : decode cX5_see 57 = .ok (.lshl, 1) := by decide +kernel
theorem dX5_see_58 : decode cX5_see 58 = .ok (.lload 4, 2) := by decide +kernel
theorem dX5_see_60 : decode cX5_see 60 = .ok (.lor, 1) := by decide +kernel
theorem dX5_see_61 : decode cX5_see 61 = .ok (.lor, 1) := by decide +kernel
theorem dX5_see_62 : decode cX5_see 62 = .ok (.lastore, 1) := by decide +kernel
theorem dX5_see_63 : decode cX5_see 63 = .ok (.return_, 1) := by decide +kernel
theorem dX5_workedOut_0 : decode cX5_workedOut 0 = .ok (.aload_n 0, 1) := by decide +kernel
theorem dX5_workedOut_1 : decode cX5_workedOut 1 = .ok (.getfield 51, 3) := by decide +kernel
theorem dX5_workedOut_4 : decode cX5_workedOut 4 = .ok (.iload_n 2, 1) := by decide +kernel
theorem dX5_workedOut_5 : decode cX5_workedOut 5 = .ok (.invokevirtual 78, 3) := by decide +kernel
theorem dX5_workedOut_8 : decode cX5_workedOut 8 = .ok (.istore_n 3, 1) := by decide +kernel
theorem dX5_workedOut_9 : decode cX5_workedOut 9 = .ok (.aload_n 0, 1) := by decide +kernel
theorem dX5_workedOut_10 : decode cX5_workedOut 10 = .ok (.getfield 55, 3) := by decide +kernel
theorem dX5_workedOut_13 : decode cX5_workedOut 13 = .ok (.getfield 89, 3) := by decide +kernel
theorem dX5_workedOut_16 : decode cX5_workedOut 16 = .ok (.iload_n 1, 1) := by decide +kernel
theorem dX5_workedOut_17 : decode cX5_workedOut 17 = .ok (.iaload, 1) := by decide +kernel
theorem dX5_workedOut_18 : decode cX5_workedOut 18 = .ok (.istore 4, 2) := by decide +kernel
theorem dX5_workedOut_20 : decode cX5_workedOut 20 = .ok (.aload_n 0, 1) := by decide +kernel
theorem dX5_workedOut_21 : decode cX5_workedOut 21 = .ok (.getfield 55, 3) := by decide +kernel
theorem dX5_workedOut_24 : decode cX5_workedOut 24 = .ok (.getfield 92, 3) := by decide +kernel
theorem dX5_workedOut_27 : decode cX5_workedOut 27 = .ok (.iload_n 1, 1) := by decide +kernel
theorem dX5_workedOut_28 : decode cX5_workedOut 28 = .ok (.iaload, 1) := by decide +kernel
theorem dX5_workedOut_29 : decode cX5_workedOut 29 = .ok (.istore 5, 2) := by decide +kernel
theorem dX5_workedOut_31 : decode cX5_workedOut 31 = .ok (.aload_n 0, 1) := by decide +kernel
theorem dX5_workedOut_32 : decode cX5_workedOut 32 = .ok (.getfield 55, 3) := by decide +kernel
theorem dX5_workedOut_35 : decode cX5_workedOut 35 = .ok (.getfield 95, 3) := by decide +kernel
theorem dX5_workedOut_38 : decode cX5_workedOut 38 = .ok (.iload_n 1, 1) := by decide +kernel
theorem dX5_workedOut_39 : decode cX5_workedOut 39 = .ok (.iaload, 1) := by decide +kernel
theorem dX5_workedOut_40 : decode cX5_workedOut 40 = .ok (.ifCond .ne 36, 3) := by decide +kernel
theorem dX5_workedOut_43 : decode cX5_workedOut 43 = .ok (.aload_n 0, 1) := by decide +kernel
theorem dX5_workedOut_44 : decode cX5_workedOut 44 = .ok (.getfield 59, 3) := by decide +kernel
theorem dX5_workedOut_47 : decode cX5_workedOut 47 = .ok (.iload_n 3, 1) := by decide +kernel
theorem dX5_workedOut_48 : decode cX5_workedOut 48 = .ok (.aload_n 0, 1) := by decide +kernel
theorem dX5_workedOut_49 : decode cX5_workedOut 49 = .ok (.getfield 51, 3) := by decide +kernel
theorem dX5_workedOut_52 : decode cX5_workedOut 52 = .ok (.getfield 98, 3) := by decide +kernel
theorem dX5_workedOut_55 : decode cX5_workedOut 55 = .ok (.iload_n 2, 1) := by decide +kernel
theorem dX5_workedOut_56 : decode cX5_workedOut 56 = .ok (.iaload, 1) := by decide +kernel
theorem dX5_workedOut_57 : decode cX5_workedOut 57 = .ok (.invokevirtual 101, 3) := by decide +kernel
theorem dX5_workedOut_60 : decode cX5_workedOut 60 = .ok (.aload_n 0, 1) := by decide +kernel
theorem dX5_workedOut_61 : decode cX5_workedOut 61 = .ok (.getfield 59, 3) := by decide +kernel
theorem dX5_workedOut_64 : decode cX5_workedOut 64 = .ok (.aload_n 0, 1) := by decide +kernel
theorem dX5_workedOut_65 : decode cX5_workedOut 65 = .ok (.getfield 47, 3) := by decide +kernel
theorem dX5_workedOut_68 : decode cX5_workedOut 68 = .ok (.iload 4, 2) := by decide +kernel
theorem dX5_workedOut_70 : decode cX5_workedOut 70 = .ok (.iload 5, 2) := by decide +kernel
theorem dX5_workedOut_72 : decode cX5_workedOut 72 = .ok (.invokevirtual 106, 3) := by decide +kernel
theorem dX5_workedOut_75 : decode cX5_workedOut 75 = .ok (.ireturn, 1) := by decide +kernel
theorem dX5_workedOut_76 : decode cX5_workedOut 76 = .ok (.aload_n 0, 1) := by decide +kernel
theorem dX5_workedOut_77 : decode cX5_workedOut 77 = .ok (.getfield 55, 3) := by decide +kernel
theorem dX5_workedOut_80 : decode cX5_workedOut 80 = .ok (.getfield 95, 3) := by decide +kernel
theorem dX5_workedOut_83 : decode cX5_workedOut 83 = .ok (.iload_n 1, 1) := by decide +kernel
theorem dX5_workedOut_84 : decode cX5_workedOut 84 = .ok (.iaload, 1) := by decide +kernel
theorem dX5_workedOut_85 : decode cX5_workedOut 85 = .ok (.iload_n 3, 1) := by decide +kernel
theorem dX5_workedOut_86 : decode cX5_workedOut 86 = .ok (.aload_n 0, 1) := by decide +kernel
theorem dX5_workedOut_87 : decode cX5_workedOut 87 = .ok (.iload 4, 2) := by decide +kernel
theorem dX5_workedOut_89 : decode cX5_workedOut 89 = .ok (.iload_n 2, 1) := by decide +kernel
theorem dX5_workedOut_90 : decode cX5_workedOut 90 = .ok (.invokevirtual 82, 3) := by decide +kernel
theorem dX5_workedOut_93 : decode cX5_workedOut 93 = .ok (.aload_n 0, 1) := by decide +kernel
theorem dX5_workedOut_94 : decode cX5_workedOut 94 = .ok (.iload 5, 2) := by decide +kernel
theorem dX5_workedOut_96 : decode cX5_workedOut 96 = .ok (.iload_n 2, 1) := by decide +kernel
theorem dX5_workedOut_97 : decode cX5_workedOut 97 = .ok (.invokevirtual 82, 3) := by decide +kernel
theorem dX5_workedOut_100 : decode cX5_workedOut 100 = .ok (.invokestatic 110, 3) := by decide +kernel
theorem dX5_workedOut_103 : decode cX5_workedOut 103 = .ok (.ireturn, 1) := by decide +kernel
theorem dX5_seeAll_0 : decode cX5_seeAll 0 = .ok (.iconst 0, 1) := by decide +kernel
theorem dX5_seeAll_1 : decode cX5_seeAll 1 = .ok (.istore_n 3, 1) := by decide +kernel
theorem dX5_seeAll_2 : decode cX5_seeAll 2 = .ok (.iload_n 3, 1) := by decide +kernel
theorem dX5_seeAll_3 : decode cX5_seeAll 3 = .ok (.aload_n 0, 1) := by decide +kernel
theorem dX5_seeAll_4 : decode cX5_seeAll 4 = .ok (.getfield 55, 3) := by decide +kernel
theorem dX5_seeAll_7 : decode cX5_seeAll 7 = .ok (.getfield 67, 3) := by decide +kernel
theorem dX5_seeAll_10 : decode cX5_seeAll 10 = .ok (.if_icmp .ge 23, 3) := by decide +kernel
theorem dX5_seeAll_13 : decode cX5_seeAll 13 = .ok (.iload_n 1, 1) := by decide +kernel
theorem dX5_seeAll_14 : decode cX5_seeAll 14 = .ok (.iload_n 3, 1) := by decide +kernel
theorem dX5_seeAll_15 : decode cX5_seeAll 15 = .ok (.ishr, 1) := by decide +kernel
theorem dX5_seeAll_16 : decode cX5_seeAll 16 = .ok (.iconst 1, 1) := by decide +kernel
theorem dX5_seeAll_17 : decode cX5_seeAll 17 = .ok (.iand, 1) := by decide +kernel
theorem dX5_seeAll_18 : decode cX5_seeAll 18 = .ok (.ifCond .eq 9, 3) := by decide +kernel
theorem dX5_seeAll_21 : decode cX5_seeAll 21 = .ok (.aload_n 0, 1) := by decide +kernel
theorem dX5_seeAll_22 : decode cX5_seeAll 22 = .ok (.iload_n 3, 1) := by decide +kernel
theorem dX5_seeAll_23 : decode cX5_seeAll 23 = .ok (.iload_n 2, 1) := by decide +kernel
theorem dX5_seeAll_24 : decode cX5_seeAll 24 = .ok (.invokevirtual 70, 3) := by decide +kernel
theorem dX5_seeAll_27 : decode cX5_seeAll 27 = .ok (.iinc 3 1, 3) := by decide +kernel
theorem dX5_seeAll_30 : decode cX5_seeAll 30 = .ok (.goto (-28), 3) := by decide +kernel
theorem dX5_seeAll_33 : decode cX5_seeAll 33 = .ok (.return_, 1) := by decide +kernel
theorem dX5_pairsOf_0 : decode cX5_pairsOf 0 = .ok (.iconst 0, 1) := by decide +kernel
theorem dX5_pairsOf_1 : decode cX5_pairsOf 1 = .ok (.istore_n 2, 1) := by decide +kernel
theorem dX5_pairsOf_2 : decode cX5_pairsOf 2 = .ok (.iconst 0, 1) := by decide +kernel
theorem dX5_pairsOf_3 : decode cX5_pairsOf 3 = .ok (.istore_n 3, 1) := by decide +kernel
theorem dX5_pairsOf_4 : decode cX5_pairsOf 4 = .ok (.iload_n 3, 1) := by decide +kernel
theorem dX5_pairsOf_5 : decode cX5_pairsOf 5 = .ok (.aload_n 0, 1) := by decide +kernel
theorem dX5_pairsOf_6 : decode cX5_pairsOf 6 = .ok (.getfield 18, 3) := by decide +kernel
theorem dX5_pairsOf_9 : decode cX5_pairsOf 9 = .ok (.if_icmp .ge 21, 3) := by decide +kernel
theorem dX5_pairsOf_12 : decode cX5_pairsOf 12 = .ok (.iload_n 2, 1) := by decide +kernel
theorem dX5_pairsOf_13 : decode cX5_pairsOf 13 = .ok (.aload_n 0, 1) := by decide +kernel
theorem dX5_pairsOf_14 : decode cX5_pairsOf 14 = .ok (.iload_n 1, 1) := by decide +kernel
theorem dX5_pairsOf_15 : decode cX5_pairsOf 15 = .ok (.iload_n 3, 1) := by decide +kernel
theorem dX5_pairsOf_16 : decode cX5_pairsOf 16 = .ok (.invokevirtual 116, 3) := by decide +kernel
theorem dX5_pairsOf_19 : decode cX5_pairsOf 19 = .ok (.invokestatic 119, 3) := by decide +kernel
theorem dX5_pairsOf_22 : decode cX5_pairsOf 22 = .ok (.iadd, 1) := by decide +kernel
theorem dX5_pairsOf_23 : decode cX5_pairsOf 23 = .ok (.istore_n 2, 1) := by decide +kernel
theorem dX5_pairsOf_24 : decode cX5_pairsOf 24 = .ok (.iinc 3 1, 3) := by decide +kernel
theorem dX5_pairsOf_27 : decode cX5_pairsOf 27 = .ok (.goto (-23), 3) := by decide +kernel
theorem dX5_pairsOf_30 : decode cX5_pairsOf 30 = .ok (.iload_n 2, 1) := by decide +kernel
theorem dX5_pairsOf_31 : decode cX5_pairsOf 31 = .ok (.ireturn, 1) := by decide +kernel
theorem dX5_agree_0 : decode cX5_agree 0 = .ok (.iconst 0, 1) := by decide +kernel
theorem dX5_agree_1 : decode cX5_agree 1 = .ok (.istore_n 3, 1) := by decide +kernel
theorem dX5_agree_2 : decode cX5_agree 2 = .ok (.iload_n 3, 1) := by decide +kernel
theorem dX5_agree_3 : decode cX5_agree 3 = .ok (.aload_n 0, 1) := by decide +kernel
theorem dX5_agree_4 : decode cX5_agree 4 = .ok (.getfield 18, 3) := by decide +kernel
theorem dX5_agree_7 : decode cX5_agree 7 = .ok (.if_icmp .ge 26, 3) := by decide +kernel
theorem dX5_agree_10 : decode cX5_agree 10 = .ok (.aload_n 0, 1) := by decide +kernel
theorem dX5_agree_11 : decode cX5_agree 11 = .ok (.iload_n 1, 1) := by decide +kernel
theorem dX5_agree_12 : decode cX5_agree 12 = .ok (.iload_n 3, 1) := by decide +kernel
theorem dX5_agree_13 : decode cX5_agree 13 = .ok (.invokevirtual 116, 3) := by decide +kernel
theorem dX5_agree_16 : decode cX5_agree 16 = .ok (.aload_n 0, 1) := by decide +kernel
theorem dX5_agree_17 : decode cX5_agree 17 = .ok (.iload_n 2, 1) := by decide +kernel
theorem dX5_agree_18 : decode cX5_agree 18 = .ok (.iload_n 3, 1) := by decide +kernel
theorem dX5_agree_19 : decode cX5_agree 19 = .ok (.invokevirtual 116, 3) := by decide +kernel
theorem dX5_agree_22 : decode cX5_agree 22 = .ok (.if_icmp .eq 5, 3) := by decide +kernel
theorem dX5_agree_25 : decode cX5_agree 25 = .ok (.iconst 0, 1) := by decide +kernel
theorem dX5_agree_26 : decode cX5_agree 26 = .ok (.ireturn, 1) := by decide +kernel
theorem dX5_agree_27 : decode cX5_agree 27 = .ok (.iinc 3 1, 3) := by decide +kernel
theorem dX5_agree_30 : decode cX5_agree 30 = .ok (.goto (-28), 3) := by decide +kernel
theorem dX5_agree_33 : decode cX5_agree 33 = .ok (.iconst 1, 1) := by decide +kernel
theorem dX5_agree_34 : decode cX5_agree 34 = .ok (.ireturn, 1) := by decide +kernel
theorem dX5_pairsBeyond_0 : decode cX5_pairsBeyond 0 = .ok (.iconst 0, 1) := by decide +kernel
theorem dX5_pairsBeyond_1 : decode cX5_pairsBeyond 1 = .ok (.istore_n 3, 1) := by decide +kernel
theorem dX5_pairsBeyond_2 : decode cX5_pairsBeyond 2 = .ok (.iconst 0, 1) := by decide +kernel
theorem dX5_pairsBeyond_3 : decode cX5_pairsBeyond 3 = .ok (.istore 4, 2) := by decide +kernel
theorem dX5_pairsBeyond_5 : decode cX5_pairsBeyond 5 = .ok (.iload 4, 2) := by decide +kernel
theorem dX5_pairsBeyond_7 : decode cX5_pairsBeyond 7 = .ok (.aload_n 0, 1) := by decide +kernel
theorem dX5_pairsBeyond_8 : decode cX5_pairsBeyond 8 = .ok (.getfield 18, 3) := by decide +kernel
theorem dX5_pairsBeyond_11 : decode cX5_pairsBeyond 11 = .ok (.if_icmp .ge 32, 3) := by decide +kernel
theorem dX5_pairsBeyond_14 : decode cX5_pairsBeyond 14 = .ok (.iload_n 3, 1) := by decide +kernel
theorem dX5_pairsBeyond_15 : decode cX5_pairsBeyond 15 = .ok (.aload_n 0, 1) := by decide +kernel
theorem dX5_pairsBeyond_16 : decode cX5_pairsBeyond 16 = .ok (.iload_n 1, 1) := by decide +kernel
theorem dX5_pairsBeyond_17 : decode cX5_pairsBeyond 17 = .ok (.iload 4, 2) := by decide +kernel
theorem dX5_pairsBeyond_19 : decode cX5_pairsBeyond 19 = .ok (.invokevirtual 116, 3) := by decide +kernel
theorem dX5_pairsBeyond_22 : decode cX5_pairsBeyond 22 = .ok (.aload_n 0, 1) := by decide +kernel
theorem dX5_pairsBeyond_23 : decode cX5_pairsBeyond 23 = .ok (.iload_n 2, 1) := by decide +kernel
theorem dX5_pairsBeyond_24 : decode cX5_pairsBeyond 24 = .ok (.iload 4, 2) := by decide +kernel
theorem dX5_pairsBeyond_26 : decode cX5_pairsBeyond 26 = .ok (.invokevirtual 116, 3) := by decide +kernel
theorem dX5_pairsBeyond_29 : decode cX5_pairsBeyond 29 = .ok (.iconst (-1), 1) := by decide +kernel
theorem dX5_pairsBeyond_30 : decode cX5_pairsBeyond 30 = .ok (.ixor, 1) := by decide +kernel
theorem dX5_pairsBeyond_31 : decode cX5_pairsBeyond 31 = .ok (.iand, 1) := by decide +kernel
theorem dX5_pairsBeyond_32 : decode cX5_pairsBeyond 32 = .ok (.invokestatic 119, 3) := by decide +kernel
theorem dX5_pairsBeyond_35 : decode cX5_pairsBeyond 35 = .ok (.iadd, 1) := by decide +kernel
theorem dX5_pairsBeyond_36 : decode cX5_pairsBeyond 36 = .ok (.istore_n 3, 1) := by decide +kernel
theorem dX5_pairsBeyond_37 : decode cX5_pairsBeyond 37 = .ok (.iinc 4 1, 3) := by decide +kernel
theorem dX5_pairsBeyond_40 : decode cX5_pairsBeyond 40 = .ok (.goto (-35), 3) := by decide +kernel
theorem dX5_pairsBeyond_43 : decode cX5_pairsBeyond 43 = .ok (.iload_n 3, 1) := by decide +kernel
theorem dX5_pairsBeyond_44 : decode cX5_pairsBeyond 44 = .ok (.ireturn, 1) := by decide +kernel
theorem dX5_pairBeyond_0 : decode cX5_pairBeyond 0 = .ok (.iconst 0, 1) := by decide +kernel
theorem dX5_pairBeyond_1 : decode cX5_pairBeyond 1 = .ok (.istore 4, 2) := by decide +kernel
theorem dX5_pairBeyond_3 : decode cX5_pairBeyond 3 = .ok (.iconst 0, 1) := by decide +kernel
theorem dX5_pairBeyond_4 : decode cX5_pairBeyond 4 = .ok (.istore 5, 2) := by decide +kernel
theorem dX5_pairBeyond_6 : decode cX5_pairBeyond 6 = .ok (.iload 5, 2) := by decide +kernel
theorem dX5_pairBeyond_8 : decode cX5_pairBeyond 8 = .ok (.aload_n 0, 1) := by decide +kernel
theorem dX5_pairBeyond_9 : decode cX5_pairBeyond 9 = .ok (.getfield 18, 3) := by decide +kernel
theorem dX5_pairBeyond_12 : decode cX5_pairBeyond 12 = .ok (.if_icmp .ge 74, 3) := by decide +kernel
theorem dX5_pairBeyond_15 : decode cX5_pairBeyond 15 = .ok (.aload_n 0, 1) := by decide +kernel
theorem dX5_pairBeyond_16 : decode cX5_pairBeyond 16 = .ok (.iload_n 1, 1) := by decide +kernel
theorem dX5_pairBeyond_17 : decode cX5_pairBeyond 17 = .ok (.iload 5, 2) := by decide +kernel
theorem dX5_pairBeyond_19 : decode cX5_pairBeyond 19 = .ok (.invokevirtual 116, 3) := by decide +kernel
theorem dX5_pairBeyond_22 : decode cX5_pairBeyond 22 = .ok (.aload_n 0, 1) := by decide +kernel
theorem dX5_pairBeyond_23 : decode cX5_pairBeyond 23 = .ok (.iload_n 2, 1) := by decide +kernel
theorem dX5_pairBeyond_24 : decode cX5_pairBeyond 24 = .ok (.iload 5, 2) := by decide +kernel
theorem dX5_pairBeyond_26 : decode cX5_pairBeyond 26 = .ok (.invokevirtual 116, 3) := by decide +kernel
theorem dX5_pairBeyond_29 : decode cX5_pairBeyond 29 = .ok (.iconst (-1), 1) := by decide +kernel
theorem dX5_pairBeyond_30 : decode cX5_pairBeyond 30 = .ok (.ixor, 1) := by decide +kernel
theorem dX5_pairBeyond_31 : decode cX5_pairBeyond 31 = .ok (.iand, 1) := by decide +kernel
theorem dX5_pairBeyond_32 : decode cX5_pairBeyond 32 = .ok (.istore 6, 2) := by decide +kernel
theorem dX5_pairBeyond_34 : decode cX5_pairBeyond 34 = .ok (.iconst 0, 1) := by decide +kernel
theorem dX5_pairBeyond_35 : decode cX5_pairBeyond 35 = .ok (.istore 7, 2) := by decide +kernel
theorem dX5_pairBeyond_37 : decode cX5_pairBeyond 37 = .ok (.iload 7, 2) := by decide +kernel
theorem dX5_pairBeyond_39 : decode cX5_pairBeyond 39 = .ok (.bipush 9, 2) := by decide +kernel
theorem dX5_pairBeyond_41 : decode cX5_pairBeyond 41 = .ok (.if_icmp .ge 39, 3) := by decide +kernel
theorem dX5_pairBeyond_44 : decode cX5_pairBeyond 44 = .ok (.iload 6, 2) := by decide +kernel
theorem dX5_pairBeyond_46 : decode cX5_pairBeyond 46 = .ok (.iload 7, 2) := by decide +kernel
theorem dX5_pairBeyond_48 : decode cX5_pairBeyond 48 = .ok (.ishr, 1) := by decide +kernel
theorem dX5_pairBeyond_49 : decode cX5_pairBeyond 49 = .ok (.iconst 1, 1) := by decide +kernel
theorem dX5_pairBeyond_50 : decode cX5_pairBeyond 50 = .ok (.iand, 1) := by decide +kernel
theorem dX5_pairBeyond_51 : decode cX5_pairBeyond 51 = .ok (.ifCond .eq 23, 3) := by decide +kernel
theorem dX5_pairBeyond_54 : decode cX5_pairBeyond 54 = .ok (.iload 4, 2) := by decide +kernel
theorem dX5_pairBeyond_56 : decode cX5_pairBeyond 56 = .ok (.iload_n 3, 1) := by decide +kernel
theorem dX5_pairBeyond_57 : decode cX5_pairBeyond 57 = .ok (.if_icmp .ne 14, 3) := by decide +kernel
theorem dX5_pairBeyond_60 : decode cX5_pairBeyond 60 = .ok (.aload_n 0, 1) := by decide +kernel
theorem dX5_pairBeyond_61 : decode cX5_pairBeyond 61 = .ok (.getfield 15, 3) := by decide +kernel
theorem dX5_pairBeyond_64 : decode cX5_pairBeyond 64 = .ok (.iload 5, 2) := by decide +kernel
theorem dX5_pairBeyond_66 : decode cX5_pairBeyond 66 = .ok (.iaload, 1) := by decide +kernel
theorem dX5_pairBeyond_67 : decode cX5_pairBeyond 67 = .ok (.iload 7, 2) := by decide +kernel
theorem dX5_pairBeyond_69 : decode cX5_pairBeyond 69 = .ok (.iadd, 1) := by decide +kernel
theorem dX5_pairBeyond_70 : decode cX5_pairBeyond 70 = .ok (.ireturn, 1) := by decide +kernel
theorem dX5_pairBeyond_71 : decode cX5_pairBeyond 71 = .ok (.iinc 4 1, 3) := by decide +kernel
theorem dX5_pairBeyond_74 : decode cX5_pairBeyond 74 = .ok (.iinc 7 1, 3) := by decide +kernel
theorem dX5_pairBeyond_77 : decode cX5_pairBeyond 77 = .ok (.goto (-40), 3) := by decide +kernel
theorem dX5_pairBeyond_80 : decode cX5_pairBeyond 80 = .ok (.iinc 5 1, 3) := by decide +kernel
theorem dX5_pairBeyond_83 : decode cX5_pairBeyond 83 = .ok (.goto (-77), 3) := by decide +kernel
theorem dX5_pairBeyond_86 : decode cX5_pairBeyond 86 = .ok (.bipush (-9), 2) := by decide +kernel
theorem dX5_pairBeyond_88 : decode cX5_pairBeyond 88 = .ok (.ireturn, 1) := by decide +kernel
theorem dX5_meet_0 : decode cX5_meet 0 = .ok (.iconst 0, 1) := by decide +kernel
theorem dX5_meet_1 : decode cX5_meet 1 = .ok (.istore_n 3, 1) := by decide +kernel
theorem dX5_meet_2 : decode cX5_meet 2 = .ok (.iload_n 3, 1) := by decide +kernel
theorem dX5_meet_3 : decode cX5_meet 3 = .ok (.aload_n 0, 1) := by decide +kernel
theorem dX5_meet_4 : decode cX5_meet 4 = .ok (.getfield 18, 3) := by decide +kernel
theorem dX5_meet_7 : decode cX5_meet 7 = .ok (.if_icmp .ge 27, 3) := by decide +kernel
theorem dX5_meet_10 : decode cX5_meet 10 = .ok (.aload_n 0, 1) := by decide +kernel
theorem dX5_meet_11 : decode cX5_meet 11 = .ok (.iload_n 1, 1) := by decide +kernel
theorem dX5_meet_12 : decode cX5_meet 12 = .ok (.iload_n 3, 1) := by decide +kernel
theorem dX5_meet_13 : decode cX5_meet 13 = .ok (.invokevirtual 116, 3) := by decide +kernel
theorem dX5_meet_16 : decode cX5_meet 16 = .ok (.aload_n 0, 1) := by decide +kernel
theorem dX5_meet_17 : decode cX5_meet 17 = .ok (.iload_n 2, 1) := by decide +kernel
theorem dX5_meet_18 : decode cX5_meet 18 = .ok (.iload_n 3, 1) := by decide +kernel
theorem dX5_meet_19 : decode cX5_meet 19 = .ok (.invokevirtual 116, 3) := by decide +kernel
theorem dX5_meet_22 : decode cX5_meet 22 = .ok (.iand, 1) := by decide +kernel
theorem dX5_meet_23 : decode cX5_meet 23 = .ok (.ifCond .eq 5, 3) := by decide +kernel
theorem dX5_meet_26 : decode cX5_meet 26 = .ok (.iconst 1, 1) := by decide +kernel
theorem dX5_meet_27 : decode cX5_meet 27 = .ok (.ireturn, 1) := by decide +kernel
theorem dX5_meet_28 : decode cX5_meet 28 = .ok (.iinc 3 1, 3) := by decide +kernel
theorem dX5_meet_31 : decode cX5_meet 31 = .ok (.goto (-29), 3) := by decide +kernel
theorem dX5_meet_34 : decode cX5_meet 34 = .ok (.iconst 0, 1) := by decide +kernel
theorem dX5_meet_35 : decode cX5_meet 35 = .ok (.ireturn, 1) := by decide +kernel
theorem dX5_denier_0 : decode cX5_denier 0 = .ok (.iload_n 1, 1) := by decide +kernel
theorem dX5_denier_1 : decode cX5_denier 1 = .ok (.iload_n 2, 1) := by decide +kernel
theorem dX5_denier_2 : decode cX5_denier 2 = .ok (.if_icmp .ne 6, 3) := by decide +kernel
theorem dX5_denier_5 : decode cX5_denier 5 = .ok (.bipush (-9), 2) := by decide +kernel
theorem dX5_denier_7 : decode cX5_denier 7 = .ok (.ireturn, 1) := by decide +kernel
theorem dX5_denier_8 : decode cX5_denier 8 = .ok (.aload_n 0, 1) := by decide +kernel
theorem dX5_denier_9 : decode cX5_denier 9 = .ok (.getfield 55, 3) := by decide +kernel
theorem dX5_denier_12 : decode cX5_denier 12 = .ok (.getfield 124, 3) := by decide +kernel
theorem dX5_denier_15 : decode cX5_denier 15 = .ok (.iload_n 1, 1) := by decide +kernel
theorem dX5_denier_16 : decode cX5_denier 16 = .ok (.iaload, 1) := by decide +kernel
theorem dX5_denier_17 : decode cX5_denier 17 = .ok (.aload_n 0, 1) := by decide +kernel
theorem dX5_denier_18 : decode cX5_denier 18 = .ok (.getfield 55, 3) := by decide +kernel
theorem dX5_denier_21 : decode cX5_denier 21 = .ok (.getfield 124, 3) := by decide +kernel
theorem dX5_denier_24 : decode cX5_denier 24 = .ok (.iload_n 2, 1) := by decide +kernel
theorem dX5_denier_25 : decode cX5_denier 25 = .ok (.iaload, 1) := by decide +kernel
theorem dX5_denier_26 : decode cX5_denier 26 = .ok (.ior, 1) := by decide +kernel
theorem dX5_denier_27 : decode cX5_denier 27 = .ok (.istore 4, 2) := by decide +kernel
theorem dX5_denier_29 : decode cX5_denier 29 = .ok (.iconst 0, 1) := by decide +kernel
theorem dX5_denier_30 : decode cX5_denier 30 = .ok (.istore 5, 2) := by decide +kernel
theorem dX5_denier_32 : decode cX5_denier 32 = .ok (.iload 5, 2) := by decide +kernel
theorem dX5_denier_34 : decode cX5_denier 34 = .ok (.sipush 3341, 3) := by decide +kernel
theorem dX5_denier_37 : decode cX5_denier 37 = .ok (.if_icmp .ge 53, 3) := by decide +kernel
theorem dX5_denier_40 : decode cX5_denier 40 = .ok (.aload_n 0, 1) := by decide +kernel
theorem dX5_denier_41 : decode cX5_denier 41 = .ok (.getfield 51, 3) := by decide +kernel
theorem dX5_denier_44 : decode cX5_denier 44 = .ok (.iload 5, 2) := by decide +kernel
theorem dX5_denier_46 : decode cX5_denier 46 = .ok (.iload_n 3, 1) := by decide +kernel
theorem dX5_denier_47 : decode cX5_denier 47 = .ok (.invokevirtual 74, 3) := by decide +kernel
theorem dX5_denier_50 : decode cX5_denier 50 = .ok (.ifCond .eq 34, 3) := by decide +kernel
theorem dX5_denier_53 : decode cX5_denier 53 = .ok (.aload_n 0, 1) := by decide +kernel
theorem dX5_denier_54 : decode cX5_denier 54 = .ok (.iload 4, 2) := by decide +kernel
theorem dX5_denier_56 : decode cX5_denier 56 = .ok (.iload 5, 2) := by decide +kernel
theorem dX5_denier_58 : decode cX5_denier 58 = .ok (.invokevirtual 127, 3) := by decide +kernel
theorem dX5_denier_61 : decode cX5_denier 61 = .ok (.aload_n 0, 1) := by decide +kernel
theorem dX5_denier_62 : decode cX5_denier 62 = .ok (.iload_n 1, 1) := by decide +kernel
theorem dX5_denier_63 : decode cX5_denier 63 = .ok (.iload 5, 2) := by decide +kernel
theorem dX5_denier_65 : decode cX5_denier 65 = .ok (.invokevirtual 82, 3) := by decide +kernel
theorem dX5_denier_68 : decode cX5_denier 68 = .ok (.aload_n 0, 1) := by decide +kernel
theorem dX5_denier_69 : decode cX5_denier 69 = .ok (.iload_n 2, 1) := by decide +kernel
theorem dX5_denier_70 : decode cX5_denier 70 = .ok (.iload 5, 2) := by decide +kernel
theorem dX5_denier_72 : decode cX5_denier 72 = .ok (.invokevirtual 82, 3) := by decide +kernel
theorem dX5_denier_75 : decode cX5_denier 75 = .ok (.iconst (-1), 1) := by decide +kernel
theorem dX5_denier_76 : decode cX5_denier 76 = .ok (.ixor, 1) := by decide +kernel
theorem dX5_denier_77 : decode cX5_denier 77 = .ok (.iand, 1) := by decide +kernel
theorem dX5_denier_78 : decode cX5_denier 78 = .ok (.ifCond .eq 6, 3) := by decide +kernel
theorem dX5_denier_81 : decode cX5_denier 81 = .ok (.iload 5, 2) := by decide +kernel
theorem dX5_denier_83 : decode cX5_denier 83 = .ok (.ireturn, 1) := by decide +kernel
theorem dX5_denier_84 : decode cX5_denier 84 = .ok (.iinc 5 1, 3) := by decide +kernel
theorem dX5_denier_87 : decode cX5_denier 87 = .ok (.goto (-55), 3) := by decide +kernel
theorem dX5_denier_90 : decode cX5_denier 90 = .ok (.bipush (-9), 2) := by decide +kernel
theorem dX5_denier_92 : decode cX5_denier 92 = .ok (.ireturn, 1) := by decide +kernel
theorem dX5_rare_0 : decode cX5_rare 0 = .ok (.iload_n 1, 1) := by decide +kernel
theorem dX5_rare_1 : decode cX5_rare 1 = .ok (.aload_n 0, 1) := by decide +kernel
theorem dX5_rare_2 : decode cX5_rare 2 = .ok (.getfield 22, 3) := by decide +kernel
theorem dX5_rare_5 : decode cX5_rare 5 = .ok (.iload_n 1, 1) := by decide +kernel
theorem dX5_rare_6 : decode cX5_rare 6 = .ok (.isub, 1) := by decide +kernel
theorem dX5_rare_7 : decode cX5_rare 7 = .ok (.invokestatic 130, 3) := by decide +kernel
theorem dX5_rare_10 : decode cX5_rare 10 = .ok (.ireturn, 1) := by decide +kernel
theorem dX5_within_0 : decode cX5_within 0 = .ok (.iconst 0, 1) := by decide +kernel
theorem dX5_within_1 : decode cX5_within 1 = .ok (.istore_n 3, 1) := by decide +kernel
theorem dX5_within_2 : decode cX5_within 2 = .ok (.iload_n 3, 1) := by decide +kernel
theorem dX5_within_3 : decode cX5_within 3 = .ok (.aload_n 0, 1) := by decide +kernel
theorem dX5_within_4 : decode cX5_within 4 = .ok (.getfield 18, 3) := by decide +kernel
theorem dX5_within_7 : decode cX5_within 7 = .ok (.if_icmp .ge 29, 3) := by decide +kernel
theorem dX5_within_10 : decode cX5_within 10 = .ok (.aload_n 0, 1) := by decide +kernel
theorem dX5_within_11 : decode cX5_within 11 = .ok (.iload_n 1, 1) := by decide +kernel
theorem dX5_within_12 : decode cX5_within 12 = .ok (.iload_n 3, 1) := by decide +kernel
theorem dX5_within_13 : decode cX5_within 13 = .ok (.invokevirtual 116, 3) := by decide +kernel
theorem dX5_within_16 : decode cX5_within 16 = .ok (.aload_n 0, 1) := by decide +kernel
theorem dX5_within_17 : decode cX5_within 17 = .ok (.iload_n 2, 1) := by decide +kernel
theorem dX5_within_18 : decode cX5_within 18 = .ok (.iload_n 3, 1) := by decide +kernel
theorem dX5_within_19 : decode cX5_within 19 = .ok (.invokevirtual 116, 3) := by decide +kernel
theorem dX5_within_22 : decode cX5_within 22 = .ok (.iconst (-1), 1) := by decide +kernel
theorem dX5_within_23 : decode cX5_within 23 = .ok (.ixor, 1) := by decide +kernel
theorem dX5_within_24 : decode cX5_within 24 = .ok (.iand, 1) := by decide +kernel
theorem dX5_within_25 : decode cX5_within 25 = .ok (.ifCond .eq 5, 3) := by decide +kernel
theorem dX5_within_28 : decode cX5_within 28 = .ok (.iconst 0, 1) := by decide +kernel
theorem dX5_within_29 : decode cX5_within 29 = .ok (.ireturn, 1) := by decide +kernel
theorem dX5_within_30 : decode cX5_within 30 = .ok (.iinc 3 1, 3) := by decide +kernel
theorem dX5_within_33 : decode cX5_within 33 = .ok (.goto (-31), 3) := by decide +kernel
theorem dX5_within_36 : decode cX5_within 36 = .ok (.iconst 1, 1) := by decide +kernel
theorem dX5_within_37 : decode cX5_within 37 = .ok (.ireturn, 1) := by decide +kernel
theorem dX5_serves_0 : decode cX5_serves 0 = .ok (.iconst 0, 1) := by decide +kernel
theorem dX5_serves_1 : decode cX5_serves 1 = .ok (.istore_n 2, 1) := by decide +kernel
theorem dX5_serves_2 : decode cX5_serves 2 = .ok (.iconst 0, 1) := by decide +kernel
theorem dX5_serves_3 : decode cX5_serves 3 = .ok (.istore_n 3, 1) := by decide +kernel
theorem dX5_serves_4 : decode cX5_serves 4 = .ok (.iload_n 3, 1) := by decide +kernel
theorem dX5_serves_5 : decode cX5_serves 5 = .ok (.aload_n 0, 1) := by decide +kernel
theorem dX5_serves_6 : decode cX5_serves 6 = .ok (.getfield 55, 3) := by decide +kernel
theorem dX5_serves_9 : decode cX5_serves 9 = .ok (.getfield 67, 3) := by decide +kernel
theorem dX5_serves_12 : decode cX5_serves 12 = .ok (.if_icmp .ge 47, 3) := by decide +kernel
theorem dX5_serves_15 : decode cX5_serves 15 = .ok (.iload_n 3, 1) := by decide +kernel
theorem dX5_serves_16 : decode cX5_serves 16 = .ok (.iload_n 1, 1) := by decide +kernel
theorem dX5_serves_17 : decode cX5_serves 17 = .ok (.if_icmp .eq 36, 3) := by decide +kernel
theorem dX5_serves_20 : decode cX5_serves 20 = .ok (.aload_n 0, 1) := by decide +kernel
theorem dX5_serves_21 : decode cX5_serves 21 = .ok (.getfield 55, 3) := by decide +kernel
theorem dX5_serves_24 : decode cX5_serves 24 = .ok (.getfield 135, 3) := by decide +kernel
theorem dX5_serves_27 : decode cX5_serves 27 = .ok (.iload_n 3, 1) := by decide +kernel
theorem dX5_serves_28 : decode cX5_serves 28 = .ok (.baload, 1) := by decide +kernel
theorem dX5_serves_29 : decode cX5_serves 29 = .ok (.ifCond .eq 24, 3) := by decide +kernel
theorem dX5_serves_32 : decode cX5_serves 32 = .ok (.aload_n 0, 1) := by decide +kernel
theorem dX5_serves_33 : decode cX5_serves 33 = .ok (.iload_n 3, 1) := by decide +kernel
theorem dX5_serves_34 : decode cX5_serves 34 = .ok (.iload_n 1, 1) := by decide +kernel
theorem dX5_serves_35 : decode cX5_serves 35 = .ok (.invokevirtual 139, 3) := by decide +kernel
theorem dX5_serves_38 : decode cX5_serves 38 = .ok (.ifCond .ne 12, 3) := by decide +kernel
theorem dX5_serves_41 : decode cX5_serves 41 = .ok (.aload_n 0, 1) := by decide +kernel
theorem dX5_serves_42 : decode cX5_serves 42 = .ok (.iload_n 1, 1) := by decide +kernel
theorem dX5_serves_43 : decode cX5_serves 43 = .ok (.iload_n 3, 1) := by decide +kernel
theorem dX5_serves_44 : decode cX5_serves 44 = .ok (.invokevirtual 139, 3) := by decide +kernel
theorem dX5_serves_47 : decode cX5_serves 47 = .ok (.ifCond .eq 6, 3) := by decide +kernel
theorem dX5_serves_50 : decode cX5_serves 50 = .ok (.iinc 2 1, 3) := by decide +kernel
theorem dX5_serves_53 : decode cX5_serves 53 = .ok (.iinc 3 1, 3) := by decide +kernel
theorem dX5_serves_56 : decode cX5_serves 56 = .ok (.goto (-52), 3) := by decide +kernel
theorem dX5_serves_59 : decode cX5_serves 59 = .ok (.iload_n 2, 1) := by decide +kernel
theorem dX5_serves_60 : decode cX5_serves 60 = .ok (.ireturn, 1) := by decide +kernel
theorem dX5_seekNext_0 : decode cX5_seekNext 0 = .ok (.aload_n 0, 1) := by decide +kernel
theorem dX5_seekNext_1 : decode cX5_seekNext 1 = .ok (.bipush (-9), 2) := by decide +kernel
theorem dX5_seekNext_3 : decode cX5_seekNext 3 = .ok (.putfield 41, 3) := by decide +kernel
theorem dX5_seekNext_6 : decode cX5_seekNext 6 = .ok (.aload_n 0, 1) := by decide +kernel
theorem dX5_seekNext_7 : decode cX5_seekNext 7 = .ok (.iconst (-1), 1) := by decide +kernel
theorem dX5_seekNext_8 : decode cX5_seekNext 8 = .ok (.putfield 44, 3) := by decide +kernel
theorem dX5_seekNext_11 : decode cX5_seekNext 11 = .ok (.iconst 1, 1) := by decide +kernel
theorem dX5_seekNext_12 : decode cX5_seekNext 12 = .ok (.istore_n 1, 1) := by decide +kernel
theorem dX5_seekNext_13 : decode cX5_seekNext 13 = .ok (.iload_n 1, 1) := by decide +kernel
theorem dX5_seekNext_14 : decode cX5_seekNext 14 = .ok (.bipush 6, 2) := by decide +kernel
theorem dX5_seekNext_16 : decode cX5_seekNext 16 = .ok (.if_icmp .gt 64, 3) := by decide +kernel
theorem dX5_seekNext_19 : decode cX5_seekNext 19 = .ok (.iconst 0, 1) := by decide +kernel
theorem dX5_seekNext_20 : decode cX5_seekNext 20 = .ok (.istore_n 2, 1) := by decide +kernel
theorem dX5_seekNext_21 : decode cX5_seekNext 21 = .ok (.iload_n 2, 1) := by decide +kernel
theorem dX5_seekNext_22 : decode cX5_seekNext 22 = .ok (.aload_n 0, 1) := by decide +kernel
theorem dX5_seekNext_23 : decode cX5_seekNext 23 = .ok (.getfield 55, 3) := by decide +kernel
theorem dX5_seekNext_26 : decode cX5_seekNext 26 = .ok (.getfield 67, 3) := by decide +kernel
theorem dX5_seekNext_29 : decode cX5_seekNext 29 = .ok (.if_icmp .ge 45, 3) := by decide +kernel
theorem dX5_seekNext_32 : decode cX5_seekNext 32 = .ok (.iconst 0, 1) := by decide +kernel
theorem dX5_seekNext_33 : decode cX5_seekNext 33 = .ok (.istore_n 3, 1) := by decide +kernel
theorem dX5_seekNext_34 : decode cX5_seekNext 34 = .ok (.iload_n 3, 1) := by decide +kernel
theorem dX5_seekNext_35 : decode cX5_seekNext 35 = .ok (.aload_n 0, 1) := by decide +kernel
theorem dX5_seekNext_36 : decode cX5_seekNext 36 = .ok (.getfield 55, 3) := by decide +kernel
theorem dX5_seekNext_39 : decode cX5_seekNext 39 = .ok (.getfield 67, 3) := by decide +kernel
theorem dX5_seekNext_42 : decode cX5_seekNext 42 = .ok (.if_icmp .ge 26, 3) := by decide +kernel
theorem dX5_seekNext_45 : decode cX5_seekNext 45 = .ok (.aload_n 0, 1) := by decide +kernel
theorem dX5_seekNext_46 : decode cX5_seekNext 46 = .ok (.iload_n 1, 1) := by decide +kernel
theorem dX5_seekNext_47 : decode cX5_seekNext 47 = .ok (.iload_n 2, 1) := by decide +kernel
theorem dX5_seekNext_48 : decode cX5_seekNext 48 = .ok (.iload_n 3, 1) := by decide +kernel
theorem dX5_seekNext_49 : decode cX5_seekNext 49 = .ok (.invokevirtual 142, 3) := by decide +kernel
theorem dX5_seekNext_52 : decode cX5_seekNext 52 = .ok (.ifCond .eq 10, 3) := by decide +kernel
theorem dX5_seekNext_55 : decode cX5_seekNext 55 = .ok (.aload_n 0, 1) := by decide +kernel
theorem dX5_seekNext_56 : decode cX5_seekNext 56 = .ok (.iload_n 1, 1) := by decide +kernel
theorem dX5_seekNext_57 : decode cX5_seekNext 57 = .ok (.iload_n 2, 1) := by decide +kernel
theorem dX5_seekNext_58 : decode cX5_seekNext 58 = .ok (.iload_n 3, 1) := by decide +kernel
theorem dX5_seekNext_59 : decode cX5_seekNext 59 = .ok (.invokevirtual 146, 3) := by decide +kernel
theorem dX5_seekNext_62 : decode cX5_seekNext 62 = .ok (.iinc 3 1, 3) := by decide +kernel
theorem dX5_seekNext_65 : decode cX5_seekNext 65 = .ok (.goto (-31), 3) := by decide +kernel
theorem dX5_seekNext_68 : decode cX5_seekNext 68 = .ok (.iinc 2 1, 3) := by decide +kernel
theorem dX5_seekNext_71 : decode cX5_seekNext 71 = .ok (.goto (-50), 3) := by decide +kernel
theorem dX5_seekNext_74 : decode cX5_seekNext 74 = .ok (.iinc 1 1, 3) := by decide +kernel
theorem dX5_seekNext_77 : decode cX5_seekNext 77 = .ok (.goto (-64), 3) := by decide +kernel
theorem dX5_seekNext_80 : decode cX5_seekNext 80 = .ok (.aload_n 0, 1) := by decide +kernel
theorem dX5_seekNext_81 : decode cX5_seekNext 81 = .ok (.getfield 41, 3) := by decide +kernel
theorem dX5_seekNext_84 : decode cX5_seekNext 84 = .ok (.ireturn, 1) := by decide +kernel
theorem dX5_mightBeMade_0 : decode cX5_mightBeMade 0 = .ok (.aload_n 0, 1) := by decide +kernel
theorem dX5_mightBeMade_1 : decode cX5_mightBeMade 1 = .ok (.getfield 55, 3) := by decide +kernel
theorem dX5_mightBeMade_4 : decode cX5_mightBeMade 4 = .ok (.getfield 135, 3) := by decide +kernel
theorem dX5_mightBeMade_7 : decode cX5_mightBeMade 7 = .ok (.iload_n 2, 1) := by decide +kernel
theorem dX5_mightBeMade_8 : decode cX5_mightBeMade 8 = .ok (.baload, 1) := by decide +kernel
theorem dX5_mightBeMade_9 : decode cX5_mightBeMade 9 = .ok (.ifCond .eq 36, 3) := by decide +kernel
theorem dX5_mightBeMade_12 : decode cX5_mightBeMade 12 = .ok (.iload_n 1, 1) := by decide +kernel
theorem dX5_mightBeMade_13 : decode cX5_mightBeMade 13 = .ok (.iconst 2, 1) := by decide +kernel
theorem dX5_mightBeMade_14 : decode cX5_mightBeMade 14 = .ok (.if_icmp .ne 23, 3) := by decide +kernel
theorem dX5_mightBeMade_17 : decode cX5_mightBeMade 17 = .ok (.iload_n 3, 1) := by decide +kernel
theorem dX5_mightBeMade_18 : decode cX5_mightBeMade 18 = .ok (.iload_n 2, 1) := by decide +kernel
theorem dX5_mightBeMade_19 : decode cX5_mightBeMade 19 = .ok (.if_icmp .le 26, 3) := by decide +kernel
theorem dX5_mightBeMade_22 : decode cX5_mightBeMade 22 = .ok (.aload_n 0, 1) := by decide +kernel
theorem dX5_mightBeMade_23 : decode cX5_mightBeMade 23 = .ok (.getfield 55, 3) := by decide +kernel
theorem dX5_mightBeMade_26 : decode cX5_mightBeMade 26 = .ok (.getfield 135, 3) := by decide +kernel
theorem dX5_mightBeMade_29 : decode cX5_mightBeMade 29 = .ok (.iload_n 3, 1) := by decide +kernel
theorem dX5_mightBeMade_30 : decode cX5_mightBeMade 30 = .ok (.baload, 1) := by decide +kernel
theorem dX5_mightBeMade_31 : decode cX5_mightBeMade 31 = .ok (.ifCond .eq 14, 3) := by decide +kernel
theorem dX5_mightBeMade_34 : decode cX5_mightBeMade 34 = .ok (.goto 7, 3) := by decide +kernel
theorem dX5_mightBeMade_37 : decode cX5_mightBeMade 37 = .ok (.iload_n 3, 1) := by decide +kernel
theorem dX5_mightBeMade_38 : decode cX5_mightBeMade 38 = .ok (.ifCond .ne 7, 3) := by decide +kernel
theorem dX5_mightBeMade_41 : decode cX5_mightBeMade 41 = .ok (.iconst 1, 1) := by decide +kernel
theorem dX5_mightBeMade_42 : decode cX5_mightBeMade 42 = .ok (.goto 4, 3) := by decide +kernel
theorem dX5_mightBeMade_45 : decode cX5_mightBeMade 45 = .ok (.iconst 0, 1) := by decide +kernel
theorem dX5_mightBeMade_46 : decode cX5_mightBeMade 46 = .ok (.ireturn, 1) := by decide +kernel
theorem dX5_tryNext_0 : decode cX5_tryNext 0 = .ok (.iconst 0, 1) := by decide +kernel
theorem dX5_tryNext_1 : decode cX5_tryNext 1 = .ok (.istore 4, 2) := by decide +kernel
theorem dX5_tryNext_3 : decode cX5_tryNext 3 = .ok (.iconst 0, 1) := by decide +kernel
theorem dX5_tryNext_4 : decode cX5_tryNext 4 = .ok (.istore 5, 2) := by decide +kernel
theorem dX5_tryNext_6 : decode cX5_tryNext 6 = .ok (.iload 5, 2) := by decide +kernel
theorem dX5_tryNext_8 : decode cX5_tryNext 8 = .ok (.aload_n 0, 1) := by decide +kernel
theorem dX5_tryNext_9 : decode cX5_tryNext 9 = .ok (.getfield 18, 3) := by decide +kernel
theorem dX5_tryNext_12 : decode cX5_tryNext 12 = .ok (.if_icmp .ge 68, 3) := by decide +kernel
theorem dX5_tryNext_15 : decode cX5_tryNext 15 = .ok (.iload_n 1, 1) := by decide +kernel
theorem dX5_tryNext_16 : decode cX5_tryNext 16 = .ok (.iconst 2, 1) := by decide +kernel
theorem dX5_tryNext_17 : decode cX5_tryNext 17 = .ok (.if_icmp .ne 13, 3) := by decide +kernel
theorem dX5_tryNext_20 : decode cX5_tryNext 20 = .ok (.aload_n 0, 1) := by decide +kernel
theorem dX5_tryNext_21 : decode cX5_tryNext 21 = .ok (.iload_n 3, 1) := by decide +kernel
theorem dX5_tryNext_22 : decode cX5_tryNext 22 = .ok (.iload 5, 2) := by decide +kernel
theorem dX5_tryNext_24 : decode cX5_tryNext 24 = .ok (.invokevirtual 116, 3) := by decide +kernel
theorem dX5_tryNext_27 : decode cX5_tryNext 27 = .ok (.goto 4, 3) := by decide +kernel
theorem dX5_tryNext_30 : decode cX5_tryNext 30 = .ok (.iconst 0, 1) := by decide +kernel
theorem dX5_tryNext_31 : decode cX5_tryNext 31 = .ok (.istore 6, 2) := by decide +kernel
theorem dX5_tryNext_33 : decode cX5_tryNext 33 = .ok (.aload_n 0, 1) := by decide +kernel
theorem dX5_tryNext_34 : decode cX5_tryNext 34 = .ok (.getfield 38, 3) := by decide +kernel
theorem dX5_tryNext_37 : decode cX5_tryNext 37 = .ok (.iload 5, 2) := by decide +kernel
theorem dX5_tryNext_39 : decode cX5_tryNext 39 = .ok (.iload_n 1, 1) := by decide +kernel
theorem dX5_tryNext_40 : decode cX5_tryNext 40 = .ok (.aload_n 0, 1) := by decide +kernel
theorem dX5_tryNext_41 : decode cX5_tryNext 41 = .ok (.iload 5, 2) := by decide +kernel
theorem dX5_tryNext_43 : decode cX5_tryNext 43 = .ok (.invokevirtual 150, 3) := by decide +kernel
theorem dX5_tryNext_46 : decode cX5_tryNext 46 = .ok (.aload_n 0, 1) := by decide +kernel
theorem dX5_tryNext_47 : decode cX5_tryNext 47 = .ok (.iload_n 2, 1) := by decide +kernel
theorem dX5_tryNext_48 : decode cX5_tryNext 48 = .ok (.iload 5, 2) := by decide +kernel
theorem dX5_tryNext_50 : decode cX5_tryNext 50 = .ok (.invokevirtual 116, 3) := by decide +kernel
theorem dX5_tryNext_53 : decode cX5_tryNext 53 = .ok (.iload 6, 2) := by decide +kernel
theorem dX5_tryNext_55 : decode cX5_tryNext 55 = .ok (.invokestatic 110, 3) := by decide +kernel
theorem dX5_tryNext_58 : decode cX5_tryNext 58 = .ok (.iastore, 1) := by decide +kernel
theorem dX5_tryNext_59 : decode cX5_tryNext 59 = .ok (.iload 4, 2) := by decide +kernel
theorem dX5_tryNext_61 : decode cX5_tryNext 61 = .ok (.aload_n 0, 1) := by decide +kernel
theorem dX5_tryNext_62 : decode cX5_tryNext 62 = .ok (.getfield 38, 3) := by decide +kernel
theorem dX5_tryNext_65 : decode cX5_tryNext 65 = .ok (.iload 5, 2) := by decide +kernel
theorem dX5_tryNext_67 : decode cX5_tryNext 67 = .ok (.iaload, 1) := by decide +kernel
theorem dX5_tryNext_68 : decode cX5_tryNext 68 = .ok (.invokestatic 119, 3) := by decide +kernel
theorem dX5_tryNext_71 : decode cX5_tryNext 71 = .ok (.iadd, 1) := by decide +kernel
theorem dX5_tryNext_72 : decode cX5_tryNext 72 = .ok (.istore 4, 2) := by decide +kernel
theorem dX5_tryNext_74 : decode cX5_tryNext 74 = .ok (.iinc 5 1, 3) := by decide +kernel
theorem dX5_tryNext_77 : decode cX5_tryNext 77 = .ok (.goto (-71), 3) := by decide +kernel
theorem dX5_tryNext_80 : decode cX5_tryNext 80 = .ok (.aload_n 0, 1) := by decide +kernel
theorem dX5_tryNext_81 : decode cX5_tryNext 81 = .ok (.iload 4, 2) := by decide +kernel
theorem dX5_tryNext_83 : decode cX5_tryNext 83 = .ok (.invokevirtual 153, 3) := by decide +kernel
theorem dX5_tryNext_86 : decode cX5_tryNext 86 = .ok (.aload_n 0, 1) := by decide +kernel
theorem dX5_tryNext_87 : decode cX5_tryNext 87 = .ok (.getfield 44, 3) := by decide +kernel
theorem dX5_tryNext_90 : decode cX5_tryNext 90 = .ok (.if_icmp .le 36, 3) := by decide +kernel
theorem dX5_tryNext_93 : decode cX5_tryNext 93 = .ok (.aload_n 0, 1) := by decide +kernel
theorem dX5_tryNext_94 : decode cX5_tryNext 94 = .ok (.invokevirtual 156, 3) := by decide +kernel
theorem dX5_tryNext_97 : decode cX5_tryNext 97 = .ok (.ifCond .eq 29, 3) := by decide +kernel
theorem dX5_tryNext_100 : decode cX5_tryNext 100 = .ok (.aload_n 0, 1) := by decide +kernel
theorem dX5_tryNext_101 : decode cX5_tryNext 101 = .ok (.aload_n 0, 1) := by decide +kernel
theorem dX5_tryNext_102 : decode cX5_tryNext 102 = .ok (.iload 4, 2) := by decide +kernel
theorem dX5_tryNext_104 : decode cX5_tryNext 104 = .ok (.invokevirtual 153, 3) := by decide +kernel
theorem dX5_tryNext_107 : decode cX5_tryNext 107 = .ok (.putfield 44, 3) := by decide +kernel
theorem dX5_tryNext_110 : decode cX5_tryNext 110 = .ok (.aload_n 0, 1) := by decide +kernel
theorem dX5_tryNext_111 : decode cX5_tryNext 111 = .ok (.sipush 10000, 3) := by decide +kernel
theorem dX5_tryNext_114 : decode cX5_tryNext 114 = .ok (.iload_n 1, 1) := by decide +kernel
theorem dX5_tryNext_115 : decode cX5_tryNext 115 = .ok (.imul, 1) := by decide +kernel
theorem dX5_tryNext_116 : decode cX5_tryNext 116 = .ok (.bipush 100, 2) := by decide +kernel
theorem dX5_tryNext_118 : decode cX5_tryNext 118 = .ok (.iload_n 2, 1) := by decide +kernel
theorem dX5_tryNext_119 : decode cX5_tryNext 119 = .ok (.imul, 1) := by decide +kernel
theorem dX5_tryNext_120 : decode cX5_tryNext 120 = .ok (.iadd, 1) := by decide +kernel
theorem dX5_tryNext_121 : decode cX5_tryNext 121 = .ok (.iload_n 3, 1) := by decide +kernel
theorem dX5_tryNext_122 : decode cX5_tryNext 122 = .ok (.iadd, 1) := by decide +kernel
theorem dX5_tryNext_123 : decode cX5_tryNext 123 = .ok (.putfield 41, 3) := by decide +kernel
theorem dX5_tryNext_126 : decode cX5_tryNext 126 = .ok (.return_, 1) := by decide +kernel
theorem dX5_isCandidateNew_0 : decode cX5_isCandidateNew 0 = .ok (.iconst 0, 1) := by decide +kernel
theorem dX5_isCandidateNew_1 : decode cX5_isCandidateNew 1 = .ok (.istore_n 1, 1) := by decide +kernel
theorem dX5_isCandidateNew_2 : decode cX5_isCandidateNew 2 = .ok (.iload_n 1, 1) := by decide +kernel
theorem dX5_isCandidateNew_3 : decode cX5_isCandidateNew 3 = .ok (.aload_n 0, 1) := by decide +kernel
theorem dX5_isCandidateNew_4 : decode cX5_isCandidateNew 4 = .ok (.getfield 55, 3) := by decide +kernel
theorem dX5_isCandidateNew_7 : decode cX5_isCandidateNew 7 = .ok (.getfield 67, 3) := by decide +kernel
theorem dX5_isCandidateNew_10 : decode cX5_isCandidateNew 10 = .ok (.if_icmp .ge 19, 3) := by decide +kernel
theorem dX5_isCandidateNew_13 : decode cX5_isCandidateNew 13 = .ok (.aload_n 0, 1) := by decide +kernel
theorem dX5_isCandidateNew_14 : decode cX5_isCandidateNew 14 = .ok (.iload_n 1, 1) := by decide +kernel
theorem dX5_isCandidateNew_15 : decode cX5_isCandidateNew 15 = .ok (.invokevirtual 160, 3) := by decide +kernel
theorem dX5_isCandidateNew_18 : decode cX5_isCandidateNew 18 = .ok (.ifCond .eq 5, 3) := by decide +kernel
theorem dX5_isCandidateNew_21 : decode cX5_isCandidateNew 21 = .ok (.iconst 0, 1) := by decide +kernel
theorem dX5_isCandidateNew_22 : decode cX5_isCandidateNew 22 = .ok (.ireturn, 1) := by decide +kernel
theorem dX5_isCandidateNew_23 : decode cX5_isCandidateNew 23 = .ok (.iinc 1 1, 3) := by decide +kernel
theorem dX5_isCandidateNew_26 : decode cX5_isCandidateNew 26 = .ok (.goto (-24), 3) := by decide +kernel
theorem dX5_isCandidateNew_29 : decode cX5_isCandidateNew 29 = .ok (.iconst 1, 1) := by decide +kernel
theorem dX5_isCandidateNew_30 : decode cX5_isCandidateNew 30 = .ok (.ireturn, 1) := by decide +kernel
theorem dX5_isCandidate_0 : decode cX5_isCandidate 0 = .ok (.iconst 0, 1) := by decide +kernel
theorem dX5_isCandidate_1 : decode cX5_isCandidate 1 = .ok (.istore_n 2, 1) := by decide +kernel
theorem dX5_isCandidate_2 : decode cX5_isCandidate 2 = .ok (.iload_n 2, 1) := by decide +kernel
theorem dX5_isCandidate_3 : decode cX5_isCandidate 3 = .ok (.aload_n 0, 1) := by decide +kernel
theorem dX5_isCandidate_4 : decode cX5_isCandidate 4 = .ok (.getfield 18, 3) := by decide +kernel
theorem dX5_isCandidate_7 : decode cX5_isCandidate 7 = .ok (.if_icmp .ge 26, 3) := by decide +kernel
theorem dX5_isCandidate_10 : decode cX5_isCandidate 10 = .ok (.aload_n 0, 1) := by decide +kernel
theorem dX5_isCandidate_11 : decode cX5_isCandidate 11 = .ok (.iload_n 1, 1) := by decide +kernel
theorem dX5_isCandidate_12 : decode cX5_isCandidate 12 = .ok (.iload_n 2, 1) := by decide +kernel
theorem dX5_isCandidate_13 : decode cX5_isCandidate 13 = .ok (.invokevirtual 116, 3) := by decide +kernel
theorem dX5_isCandidate_16 : decode cX5_isCandidate 16 = .ok (.aload_n 0, 1) := by decide +kernel
theorem dX5_isCandidate_17 : decode cX5_isCandidate 17 = .ok (.getfield 38, 3) := by decide +kernel
theorem dX5_isCandidate_20 : decode cX5_isCandidate 20 = .ok (.iload_n 2, 1) := by decide +kernel
theorem dX5_isCandidate_21 : decode cX5_isCandidate 21 = .ok (.iaload, 1) := by decide +kernel
theorem dX5_isCandidate_22 : decode cX5_isCandidate 22 = .ok (.if_icmp .eq 5, 3) := by decide +kernel
theorem dX5_isCandidate_25 : decode cX5_isCandidate 25 = .ok (.iconst 0, 1) := by decide +kernel
theorem dX5_isCandidate_26 : decode cX5_isCandidate 26 = .ok (.ireturn, 1) := by decide +kernel
theorem dX5_isCandidate_27 : decode cX5_isCandidate 27 = .ok (.iinc 2 1, 3) := by decide +kernel
theorem dX5_isCandidate_30 : decode cX5_isCandidate 30 = .ok (.goto (-28), 3) := by decide +kernel
theorem dX5_isCandidate_33 : decode cX5_isCandidate 33 = .ok (.iconst 1, 1) := by decide +kernel
theorem dX5_isCandidate_34 : decode cX5_isCandidate 34 = .ok (.ireturn, 1) := by decide +kernel
theorem dX6_init_0 : decode cX6_init 0 = .ok (.aload_n 0, 1) := by decide +kernel
theorem dX6_init_1 : decode cX6_init 1 = .ok (.invokespecial 3, 3) := by decide +kernel
theorem dX6_init_4 : decode cX6_init 4 = .ok (.aload_n 0, 1) := by decide +kernel
theorem dX6_init_5 : decode cX6_init 5 = .ok (.bipush 9, 2) := by decide +kernel
theorem dX6_init_7 : decode cX6_init 7 = .ok (.newarray .int, 2) := by decide +kernel
theorem dX6_init_9 : decode cX6_init 9 = .ok (.putfield 9, 3) := by decide +kernel
theorem dX6_init_12 : decode cX6_init 12 = .ok (.aload_n 0, 1) := by decide +kernel
theorem dX6_init_13 : decode cX6_init 13 = .ok (.bipush 20, 2) := by decide +kernel
theorem dX6_init_15 : decode cX6_init 15 = .ok (.newarray .int, 2) := by decide +kernel
theorem dX6_init_17 : decode cX6_init 17 = .ok (.putfield 17, 3) := by decide +kernel
theorem dX6_init_20 : decode cX6_init 20 = .ok (.aload_n 0, 1) := by decide +kernel
theorem dX6_init_21 : decode cX6_init 21 = .ok (.iconst 1, 1) := by decide +kernel
theorem dX6_init_22 : decode cX6_init 22 = .ok (.putfield 20, 3) := by decide +kernel
theorem dX6_init_25 : decode cX6_init 25 = .ok (.return_, 1) := by decide +kernel
theorem dX6_load_0 : decode cX6_load 0 = .ok (.iload_n 1, 1) := by decide +kernel
theorem dX6_load_1 : decode cX6_load 1 = .ok (.invokestatic 24, 3) := by decide +kernel
theorem dX6_load_4 : decode cX6_load 4 = .ok (.ifCond .ne 4, 3) := by decide +kernel
theorem dX6_load_7 : decode cX6_load 7 = .ok (.return_, 1) := by decide +kernel
theorem dX6_load_8 : decode cX6_load 8 = .ok (.aload_n 0, 1) := by decide +kernel
theorem dX6_load_9 : decode cX6_load 9 = .ok (.iload_n 1, 1) := by decide +kernel
theorem dX6_load_10 : decode cX6_load 10 = .ok (.putfield 20, 3) := by decide +kernel
theorem dX6_load_13 : decode cX6_load 13 = .ok (.iload_n 2, 1) := by decide +kernel
theorem dX6_load_14 : decode cX6_load 14 = .ok (.istore_n 3, 1) := by decide +kernel
theorem dX6_load_15 : decode cX6_load 15 = .ok (.iload_n 1, 1) := by decide +kernel
theorem dX6_load_16 : decode cX6_load 16 = .ok (.iload_n 1, 1) := by decide +kernel
theorem dX6_load_17 : decode cX6_load 17 = .ok (.imul, 1) := by decide +kernel
theorem dX6_load_18 : decode cX6_load 18 = .ok (.iconst 1, 1) := by decide +kernel
theorem dX6_load_19 : decode cX6_load 19 = .ok (.isub, 1) := by decide +kernel
theorem dX6_load_20 : decode cX6_load 20 = .ok (.istore 4, 2) := by decide +kernel
theorem dX6_load_22 : decode cX6_load 22 = .ok (.iload 4, 2) := by decide +kernel
theorem dX6_load_24 : decode cX6_load 24 = .ok (.ifCond .lt 23, 3) := by decide +kernel
theorem dX6_load_27 : decode cX6_load 27 = .ok (.aload_n 0, 1) := by decide +kernel
theorem dX6_load_28 : decode cX6_load 28 = .ok (.getfield 9, 3) := by decide +kernel
theorem dX6_load_31 : decode cX6_load 31 = .ok (.iload 4, 2) := by decide +kernel
theorem dX6_load_33 : decode cX6_load 33 = .ok (.iload_n 3, 1) := by decide +kernel

theorem dX9_want_9 : decode cX9_want 9 = .ok (.getfield 35, 3) := by decide +kernel
theorem dX9_want_12 : decode cX9_want 12 = .ok (.iload_n 3, 1) := by decide +kernel
theorem dX9_want_13 : decode cX9_want 13 = .ok (.iload_n 3, 1) := by decide +kernel
theorem dX9_want_14 : decode cX9_want 14 = .ok (.iload_n 1, 1) := by decide +kernel
theorem dX9_want_15 : decode cX9_want 15 = .ok (.if_icmp .eq 8, 3) := by decide +kernel
theorem dX9_want_18 : decode cX9_want 18 = .ok (.iload_n 3, 1) := by decide +kernel
theorem dX9_want_19 : decode cX9_want 19 = .ok (.iload_n 2, 1) := by decide +kernel
theorem dX9_want_20 : decode cX9_want 20 = .ok (.if_icmp .ne 7, 3) := by decide +kernel
theorem dX9_want_23 : decode cX9_want 23 = .ok (.iconst 1, 1) := by decide +kernel
theorem dX9_want_24 : decode cX9_want 24 = .ok (.goto 4, 3) := by decide +kernel
theorem dX9_want_27 : decode cX9_want 27 = .ok (.iconst 0, 1) := by decide +kernel
theorem dX9_want_28 : decode cX9_want 28 = .ok (.bastore, 1) := by decide +kernel
theorem dX9_want_29 : decode cX9_want 29 = .ok (.iinc 3 1, 3) := by decide +kernel
theorem dX9_want_32 : decode cX9_want 32 = .ok (.goto (-30), 3) := by decide +kernel
theorem dX9_want_35 : decode cX9_want 35 = .ok (.aload_n 0, 1) := by decide +kernel
theorem dX9_want_36 : decode cX9_want 36 = .ok (.getfield 7, 3) := by decide +kernel
theorem dX9_want_39 : decode cX9_want 39 = .ok (.iconst 1, 1) := by decide +kernel
theorem dX9_want_40 : decode cX9_want 40 = .ok (.isub, 1) := by decide +kernel
theorem dX9_want_41 : decode cX9_want 41 = .ok (.istore_n 3, 1) := by decide +kernel
theorem dX9_want_42 : decode cX9_want 42 = .ok (.iload_n 3, 1) := by decide +kernel
theorem dX9_want_43 : decode cX9_want 43 = .ok (.iconst 2, 1) := by decide +kernel
theorem dX9_want_44 : decode cX9_want 44 = .ok (.if_icmp .le 42, 3) := by decide +kernel
theorem dX9_want_47 : decode cX9_want 47 = .ok (.aload_n 0, 1) := by decide +kernel
theorem dX9_want_48 : decode cX9_want 48 = .ok (.getfield 35, 3) := by decide +kernel
theorem dX9_want_51 : decode cX9_want 51 = .ok (.iload_n 3, 1) := by decide +kernel
theorem dX9_want_52 : decode cX9_want 52 = .ok (.baload, 1) := by decide +kernel
theorem dX9_want_53 : decode cX9_want 53 = .ok (.ifCond .eq 27, 3) := by decide +kernel
theorem dX9_want_56 : decode cX9_want 56 = .ok (.aload_n 0, 1) := by decide +kernel
theorem dX9_want_57 : decode cX9_want 57 = .ok (.getfield 35, 3) := by decide +kernel
theorem dX9_want_60 : decode cX9_want 60 = .ok (.aload_n 0, 1) := by decide +kernel
theorem dX9_want_61 : decode cX9_want 61 = .ok (.getfield 13, 3) := by decide +kernel
theorem dX9_want_64 : decode cX9_want 64 = .ok (.iload_n 3, 1) := by decide +kernel
theorem dX9_want_65 : decode cX9_want 65 = .ok (.iaload, 1) := by decide +kernel
theorem dX9_want_66 : decode cX9_want 66 = .ok (.iconst 1, 1) := by decide +kernel
theorem dX9_want_67 : decode cX9_want 67 = .ok (.bastore, 1) := by decide +kernel
theorem dX9_want_68 : decode cX9_want 68 = .ok (.aload_n 0, 1) := by decide +kernel
theorem dX9_want_69 : decode cX9_want 69 = .ok (.getfield 35, 3) := by decide +kernel
theorem dX9_want_72 : decode cX9_want 72 = .ok (.aload_n 0, 1) := by decide +kernel
theorem dX9_want_73 : decode cX9_want 73 = .ok (.getfield 17, 3) := by decide +kernel
theorem dX9_want_76 : decode cX9_want 76 = .ok (.iload_n 3, 1) := by decide +kernel
theorem dX9_want_77 : decode cX9_want 77 = .ok (.iaload, 1) := by decide +kernel
theorem dX9_want_78 : decode cX9_want 78 = .ok (.iconst 1, 1) := by decide +kernel
theorem dX9_want_79 : decode cX9_want 79 = .ok (.bastore, 1) := by decide +kernel
theorem dX9_want_80 : decode cX9_want 80 = .ok (.iinc 3 (-1), 3) := by decide +kernel
theorem dX9_want_83 : decode cX9_want 83 = .ok (.goto (-41), 3) := by decide +kernel
theorem dX9_want_86 : decode cX9_want 86 = .ok (.return_, 1) := by decide +kernel
theorem dX9_isSame_0 : decode cX9_isSame 0 = .ok (.aload_n 0, 1) := by decide +kernel
theorem dX9_isSame_1 : decode cX9_isSame 1 = .ok (.getfield 32, 3) := by decide +kernel
theorem dX9_isSame_4 : decode cX9_isSame 4 = .ok (.iconst 0, 1) := by decide +kernel
theorem dX9_isSame_5 : decode cX9_isSame 5 = .ok (.iload_n 3, 1) := by decide +kernel
theorem dX9_isSame_6 : decode cX9_isSame 6 = .ok (.iastore, 1) := by decide +kernel
theorem dX9_isSame_7 : decode cX9_isSame 7 = .ok (.aload_n 0, 1) := by decide +kernel
theorem dX9_isSame_8 : decode cX9_isSame 8 = .ok (.getfield 32, 3) := by decide +kernel
theorem dX9_isSame_11 : decode cX9_isSame 11 = .ok (.iconst 1, 1) := by decide +kernel
theorem dX9_isSame_12 : decode cX9_isSame 12 = .ok (.iload 4, 2) := by decide +kernel
theorem dX9_isSame_14 : decode cX9_isSame 14 = .ok (.iastore, 1) := by decide +kernel
theorem dX9_isSame_15 : decode cX9_isSame 15 = .ok (.aload_n 0, 1) := by decide +kernel
theorem dX9_isSame_16 : decode cX9_isSame 16 = .ok (.getfield 32, 3) := by decide +kernel
theorem dX9_isSame_19 : decode cX9_isSame 19 = .ok (.iconst 2, 1) := by decide +kernel
theorem dX9_isSame_20 : decode cX9_isSame 20 = .ok (.iload 5, 2) := by decide +kernel
theorem dX9_isSame_22 : decode cX9_isSame 22 = .ok (.iastore, 1) := by decide +kernel
theorem dX9_isSame_23 : decode cX9_isSame 23 = .ok (.iload_n 1, 1) := by decide +kernel
theorem dX9_isSame_24 : decode cX9_isSame 24 = .ok (.iload_n 2, 1) := by decide +kernel
theorem dX9_isSame_25 : decode cX9_isSame 25 = .ok (.if_icmp .le 7, 3) := by decide +kernel
theorem dX9_isSame_28 : decode cX9_isSame 28 = .ok (.iload_n 1, 1) := by decide +kernel
theorem dX9_isSame_29 : decode cX9_isSame 29 = .ok (.goto 4, 3) := by decide +kernel
theorem dX9_isSame_32 : decode cX9_isSame 32 = .ok (.iload_n 2, 1) := by decide +kernel
theorem dX9_isSame_33 : decode cX9_isSame 33 = .ok (.istore 6, 2) := by decide +kernel
theorem dX9_isSame_35 : decode cX9_isSame 35 = .ok (.iconst 3, 1) := by decide +kernel
theorem dX9_isSame_36 : decode cX9_isSame 36 = .ok (.istore 7, 2) := by decide +kernel
theorem dX9_isSame_38 : decode cX9_isSame 38 = .ok (.iload 7, 2) := by decide +kernel
theorem dX9_isSame_40 : decode cX9_isSame 40 = .ok (.iload 6, 2) := by decide +kernel
theorem dX9_isSame_42 : decode cX9_isSame 42 = .ok (.if_icmp .gt 61, 3) := by decide +kernel
theorem dX9_isSame_45 : decode cX9_isSame 45 = .ok (.aload_n 0, 1) := by decide +kernel
theorem dX9_isSame_46 : decode cX9_isSame 46 = .ok (.getfield 35, 3) := by decide +kernel
theorem dX9_isSame_49 : decode cX9_isSame 49 = .ok (.iload 7, 2) := by decide +kernel
theorem dX9_isSame_51 : decode cX9_isSame 51 = .ok (.baload, 1) := by decide +kernel
theorem dX9_isSame_52 : decode cX9_isSame 52 = .ok (.ifCond .eq 45, 3) := by decide +kernel
theorem dX9_isSame_55 : decode cX9_isSame 55 = .ok (.aload_n 0, 1) := by decide +kernel
theorem dX9_isSame_56 : decode cX9_isSame 56 = .ok (.getfield 32, 3) := by decide +kernel
theorem dX9_isSame_59 : decode cX9_isSame 59 = .ok (.iload 7, 2) := by decide +kernel
theorem dX9_isSame_61 : decode cX9_isSame 61 = .ok (.aload_n 0, 1) := by decide +kernel
theorem dX9_isSame_62 : decode cX9_isSame 62 = .ok (.getfield 29, 3) := by decide +kernel
theorem dX9_isSame_65 : decode cX9_isSame 65 = .ok (.aload_n 0, 1) := by decide +kernel
theorem dX9_isSame_66 : decode cX9_isSame 66 = .ok (.getfield 124, 3) := by decide +kernel
theorem dX9_isSame_69 : decode cX9_isSame 69 = .ok (.aload_n 0, 1) := by decide +kernel
theorem dX9_isSame_70 : decode cX9_isSame 70 = .ok (.getfield 32, 3) := by decide +kernel
theorem dX9_isSame_73 : decode cX9_isSame 73 = .ok (.aload_n 0, 1) := by decide +kernel
theorem dX9_isSame_74 : decode cX9_isSame 74 = .ok (.getfield 13, 3) := by decide +kernel
theorem dX9_isSame_77 : decode cX9_isSame 77 = .ok (.iload 7, 2) := by decide +kernel
theorem dX9_isSame_79 : decode cX9_isSame 79 = .ok (.iaload, 1) := by decide +kernel
theorem dX9_isSame_80 : decode cX9_isSame 80 = .ok (.iaload, 1) := by decide +kernel
theorem dX9_isSame_81 : decode cX9_isSame 81 = .ok (.imul, 1) := by decide +kernel
theorem dX9_isSame_82 : decode cX9_isSame 82 = .ok (.aload_n 0, 1) := by decide +kernel
theorem dX9_isSame_83 : decode cX9_isSame 83 = .ok (.getfield 32, 3) := by decide +kernel
theorem dX9_isSame_86 : decode cX9_isSame 86 = .ok (.aload_n 0, 1) := by decide +kernel
theorem dX9_isSame_87 : decode cX9_isSame 87 = .ok (.getfield 17, 3) := by decide +kernel
theorem dX9_isSame_90 : decode cX9_isSame 90 = .ok (.iload 7, 2) := by decide +kernel
theorem dX9_isSame_92 : decode cX9_isSame 92 = .ok (.iaload, 1) := by decide +kernel
theorem dX9_isSame_93 : decode cX9_isSame 93 = .ok (.iaload, 1) := by decide +kernel
theorem dX9_isSame_94 : decode cX9_isSame 94 = .ok (.iadd, 1) := by decide +kernel
theorem dX9_isSame_95 : decode cX9_isSame 95 = .ok (.iaload, 1) := by decide +kernel
theorem dX9_isSame_96 : decode cX9_isSame 96 = .ok (.iastore, 1) := by decide +kernel
theorem dX9_isSame_97 : decode cX9_isSame 97 = .ok (.iinc 7 1, 3) := by decide +kernel
theorem dX9_isSame_100 : decode cX9_isSame 100 = .ok (.goto (-62), 3) := by decide +kernel
theorem dX9_isSame_103 : decode cX9_isSame 103 = .ok (.aload_n 0, 1) := by decide +kernel
theorem dX9_isSame_104 : decode cX9_isSame 104 = .ok (.getfield 32, 3) := by decide +kernel
theorem dX9_isSame_107 : decode cX9_isSame 107 = .ok (.iload_n 1, 1) := by decide +kernel
theorem dX9_isSame_108 : decode cX9_isSame 108 = .ok (.iaload, 1) := by decide +kernel
theorem dX9_isSame_109 : decode cX9_isSame 109 = .ok (.aload_n 0, 1) := by decide +kernel
theorem dX9_isSame_110 : decode cX9_isSame 110 = .ok (.getfield 32, 3) := by decide +kernel
theorem dX9_isSame_113 : decode cX9_isSame 113 = .ok (.iload_n 2, 1) := by decide +kernel
theorem dX9_isSame_114 : decode cX9_isSame 114 = .ok (.iaload, 1) := by decide +kernel
theorem dX9_isSame_115 : decode cX9_isSame 115 = .ok (.if_icmp .ne 7, 3) := by decide +kernel
theorem dX9_isSame_118 : decode cX9_isSame 118 = .ok (.iconst 1, 1) := by decide +kernel
theorem dX9_isSame_119 : decode cX9_isSame 119 = .ok (.goto 4, 3) := by decide +kernel
theorem dX9_isSame_122 : decode cX9_isSame 122 = .ok (.iconst 0, 1) := by decide +kernel
theorem dX9_isSame_123 : decode cX9_isSame 123 = .ok (.ireturn, 1) := by decide +kernel
theorem dX9_keepsOne_0 : decode cX9_keepsOne 0 = .ok (.iconst 0, 1) := by decide +kernel
theorem dX9_keepsOne_1 : decode cX9_keepsOne 1 = .ok (.istore_n 3, 1) := by decide +kernel
theorem dX9_keepsOne_2 : decode cX9_keepsOne 2 = .ok (.iload_n 3, 1) := by decide +kernel
theorem dX9_keepsOne_3 : decode cX9_keepsOne 3 = .ok (.aload_n 0, 1) := by decide +kernel
theorem dX9_keepsOne_4 : decode cX9_keepsOne 4 = .ok (.getfield 124, 3) := by decide +kernel
theorem dX9_keepsOne_7 : decode cX9_keepsOne 7 = .ok (.aload_n 0, 1) := by decide +kernel
theorem dX9_keepsOne_8 : decode cX9_keepsOne 8 = .ok (.getfield 124, 3) := by decide +kernel
theorem dX9_keepsOne_11 : decode cX9_keepsOne 11 = .ok (.imul, 1) := by decide +kernel
theorem dX9_keepsOne_12 : decode cX9_keepsOne 12 = .ok (.aload_n 0, 1) := by decide +kernel
theorem dX9_keepsOne_13 : decode cX9_keepsOne 13 = .ok (.getfield 124, 3) := by decide +kernel
theorem dX9_keepsOne_16 : decode cX9_keepsOne 16 = .ok (.imul, 1) := by decide +kernel
theorem dX9_keepsOne_17 : decode cX9_keepsOne 17 = .ok (.if_icmp .ge 48, 3) := by decide +kernel
theorem dX9_keepsOne_20 : decode cX9_keepsOne 20 = .ok (.aload_n 0, 1) := by decide +kernel
theorem dX9_keepsOne_21 : decode cX9_keepsOne 21 = .ok (.iload_n 1, 1) := by decide +kernel
theorem dX9_keepsOne_22 : decode cX9_keepsOne 22 = .ok (.iload_n 2, 1) := by decide +kernel
theorem dX9_keepsOne_23 : decode cX9_keepsOne 23 = .ok (.iload_n 3, 1) := by decide +kernel
theorem dX9_keepsOne_24 : decode cX9_keepsOne 24 = .ok (.aload_n 0, 1) := by decide +kernel
theorem dX9_keepsOne_25 : decode cX9_keepsOne 25 = .ok (.getfield 124, 3) := by decide +kernel
theorem dX9_keepsOne_28 : decode cX9_keepsOne 28 = .ok (.idiv, 1) := by decide +kernel
theorem dX9_keepsOne_29 : decode cX9_keepsOne 29 = .ok (.aload_n 0, 1) := by decide +kernel
theorem dX9_keepsOne_30 : decode cX9_keepsOne 30 = .ok (.getfield 124, 3) := by decide +kernel
theorem dX9_keepsOne_33 : decode cX9_keepsOne 33 = .ok (.idiv, 1) := by decide +kernel
theorem dX9_keepsOne_34 : decode cX9_keepsOne 34 = .ok (.iload_n 3, 1) := by decide +kernel
theorem dX9_keepsOne_35 : decode cX9_keepsOne 35 = .ok (.aload_n 0, 1) := by decide +kernel
theorem dX9_keepsOne_36 : decode cX9_keepsOne 36 = .ok (.getfield 124, 3) := by decide +kernel
theorem dX9_keepsOne_39 : decode cX9_keepsOne 39 = .ok (.idiv, 1) := by decide +kernel
theorem dX9_keepsOne_40 : decode cX9_keepsOne 40 = .ok (.aload_n 0, 1) := by decide +kernel
theorem dX9_keepsOne_41 : decode cX9_keepsOne 41 = .ok (.getfield 124, 3) := by decide +kernel
theorem dX9_keepsOne_44 : decode cX9_keepsOne 44 = .ok (.irem, 1) := by decide +kernel
theorem dX9_keepsOne_45 : decode cX9_keepsOne 45 = .ok (.iload_n 3, 1) := by decide +kernel
theorem dX9_keepsOne_46 : decode cX9_keepsOne 46 = .ok (.aload_n 0, 1) := by decide +kernel
theorem dX9_keepsOne_47 : decode cX9_keepsOne 47 = .ok (.getfield 124, 3) := by decide +kernel
theorem dX9_keepsOne_50 : decode cX9_keepsOne 50 = .ok (.irem, 1) := by decide +kernel
theorem dX9_keepsOne_51 : decode cX9_keepsOne 51 = .ok (.invokevirtual 130, 3) := by decide +kernel
theorem dX9_keepsOne_54 : decode cX9_keepsOne 54 = .ok (.ifCond .ne 5, 3) := by decide +kernel
theorem dX9_keepsOne_57 : decode cX9_keepsOne 57 = .ok (.iconst 0, 1) := by decide +kernel
theorem dX9_keepsOne_58 : decode cX9_keepsOne 58 = .ok (.ireturn, 1) := by decide +kernel
theorem dX9_keepsOne_59 : decode cX9_keepsOne 59 = .ok (.iinc 3 1, 3) := by decide +kernel
theorem dX9_keepsOne_62 : decode cX9_keepsOne 62 = .ok (.goto (-60), 3) := by decide +kernel
theorem dX9_keepsOne_65 : decode cX9_keepsOne 65 = .ok (.iconst 1, 1) := by decide +kernel
theorem dX9_keepsOne_66 : decode cX9_keepsOne 66 = .ok (.ireturn, 1) := by decide +kernel
theorem dX9_layBroken_0 : decode cX9_layBroken 0 = .ok (.iconst 0, 1) := by decide +kernel
theorem dX9_layBroken_1 : decode cX9_layBroken 1 = .ok (.istore 5, 2) := by decide +kernel
theorem dX9_layBroken_3 : decode cX9_layBroken 3 = .ok (.iload 5, 2) := by decide +kernel
theorem dX9_layBroken_5 : decode cX9_layBroken 5 = .ok (.sipush 19700, 3) := by decide +kernel
theorem dX9_layBroken_8 : decode cX9_layBroken 8 = .ok (.if_icmp .ge 14, 3) := by decide +kernel
theorem dX9_layBroken_11 : decode cX9_layBroken 11 = .ok (.aload_n 1, 1) := by decide +kernel
theorem dX9_layBroken_12 : decode cX9_layBroken 12 = .ok (.iload 5, 2) := by decide +kernel
theorem dX9_layBroken_14 : decode cX9_layBroken 14 = .ok (.iconst 0, 1) := by decide +kernel
theorem dX9_layBroken_15 : decode cX9_layBroken 15 = .ok (.iastore, 1) := by decide +kernel
theorem dX9_layBroken_16 : decode cX9_layBroken 16 = .ok (.iinc 5 1, 3) := by decide +kernel
theorem dX9_layBroken_19 : decode cX9_layBroken 19 = .ok (.goto (-16), 3) := by decide +kernel
theorem dX9_layBroken_22 : decode cX9_layBroken 22 = .ok (.iconst 0, 1) := by decide +kernel
theorem dX9_layBroken_23 : decode cX9_layBroken 23 = .ok (.istore 5, 2) := by decide +kernel
theorem dX9_layBroken_25 : decode cX9_layBroken 25 = .ok (.iload 5, 2) := by decide +kernel
theorem dX9_layBroken_27 : decode cX9_layBroken 27 = .ok (.iload 4, 2) := by decide +kernel
theorem dX9_layBroken_29 : decode cX9_layBroken 29 = .ok (.if_icmp .ge 74, 3) := by decide +kernel
theorem dX9_layBroken_32 : decode cX9_layBroken 32 = .ok (.aload_n 0, 1) := by decide +kernel
theorem dX9_layBroken_33 : decode cX9_layBroken 33 = .ok (.aload_n 2, 1) := by decide +kernel
theorem dX9_layBroken_34 : decode cX9_layBroken 34 = .ok (.iload 5, 2) := by decide +kernel
theorem dX9_layBroken_36 : decode cX9_layBroken 36 = .ok (.iaload, 1) := by decide +kernel
theorem dX9_layBroken_37 : decode cX9_layBroken 37 = .ok (.aload_n 3, 1) := by decide +kernel
theorem dX9_layBroken_38 : decode cX9_layBroken 38 = .ok (.iload 5, 2) := by decide +kernel
theorem dX9_layBroken_40 : decode cX9_layBroken 40 = .ok (.iaload, 1) := by decide +kernel
theorem dX9_layBroken_41 : decode cX9_layBroken 41 = .ok (.invokevirtual 134, 3) := by decide +kernel
theorem dX9_layBroken_44 : decode cX9_layBroken 44 = .ok (.iconst 0, 1) := by decide +kernel
theorem dX9_layBroken_45 : decode cX9_layBroken 45 = .ok (.istore 6, 2) := by decide +kernel
theorem dX9_layBroken_47 : decode cX9_layBroken 47 = .ok (.iload 6, 2) := by decide +kernel
theorem dX9_layBroken_49 : decode cX9_layBroken 49 = .ok (.sipush 19700, 3) := by decide +kernel
theorem dX9_layBroken_52 : decode cX9_layBroken 52 = .ok (.if_icmp .ge 45, 3) := by decide +kernel
theorem dX9_layBroken_55 : decode cX9_layBroken 55 = .ok (.aload_n 0, 1) := by decide +kernel
theorem dX9_layBroken_56 : decode cX9_layBroken 56 = .ok (.iload 6, 2) := by decide +kernel
theorem dX9_layBroken_58 : decode cX9_layBroken 58 = .ok (.invokevirtual 138, 3) := by decide +kernel
theorem dX9_layBroken_61 : decode cX9_layBroken 61 = .ok (.aload_n 1, 1) := by decide +kernel
theorem dX9_layBroken_62 : decode cX9_layBroken 62 = .ok (.iload 6, 2) := by decide +kernel
theorem dX9_layBroken_64 : decode cX9_layBroken 64 = .ok (.dup2, 1) := by decide +kernel
theorem dX9_layBroken_65 : decode cX9_layBroken 65 = .ok (.iaload, 1) := by decide +kernel
theorem dX9_layBroken_66 : decode cX9_layBroken 66 = .ok (.aload_n 0, 1) := by decide +kernel
theorem dX9_layBroken_67 : decode cX9_layBroken 67 = .ok (.aload_n 2, 1) := by decide +kernel
theorem dX9_layBroken_68 : decode cX9_layBroken 68 = .ok (.iload 5, 2) := by decide +kernel
theorem dX9_layBroken_70 : decode cX9_layBroken 70 = .ok (.iaload, 1) := by decide +kernel
theorem dX9_layBroken_71 : decode cX9_layBroken 71 = .ok (.aload_n 3, 1) := by decide +kernel
theorem dX9_layBroken_72 : decode cX9_layBroken 72 = .ok (.iload 5, 2) := by decide +kernel
theorem dX9_layBroken_74 : decode cX9_layBroken 74 = .ok (.iaload, 1) := by decide +kernel
theorem dX9_layBroken_75 : decode cX9_layBroken 75 = .ok (.invokevirtual 142, 3) := by decide +kernel
theorem dX9_layBroken_78 : decode cX9_layBroken 78 = .ok (.ifCond .eq 7, 3) := by decide +kernel
theorem dX9_layBroken_81 : decode cX9_layBroken 81 = .ok (.iconst 0, 1) := by decide +kernel
theorem dX9_layBroken_82 : decode cX9_layBroken 82 = .ok (.goto 7, 3) := by decide +kernel
theorem dX9_layBroken_85 : decode cX9_layBroken 85 = .ok (.iconst 1, 1) := by decide +kernel
theorem dX9_layBroken_86 : decode cX9_layBroken 86 = .ok (.iload 5, 2) := by decide +kernel
theorem dX9_layBroken_88 : decode cX9_layBroken 88 = .ok (.ishl, 1) := by decide +kernel
theorem dX9_layBroken_89 : decode cX9_layBroken 89 = .ok (.ior, 1) := by decide +kernel
theorem dX9_layBroken_90 : decode cX9_layBroken 90 = .ok (.iastore, 1) := by decide +kernel
theorem dX9_layBroken_91 : decode cX9_layBroken 91 = .ok (.iinc 6 1, 3) := by decide +kernel
theorem dX9_layBroken_94 : decode cX9_layBroken 94 = .ok (.goto (-47), 3) := by decide +kernel
theorem dX9_layBroken_97 : decode cX9_layBroken 97 = .ok (.iinc 5 1, 3) := by decide +kernel
theorem dX9_layBroken_100 : decode cX9_layBroken 100 = .ok (.goto (-75), 3) := by decide +kernel
theorem dX9_layBroken_103 : decode cX9_layBroken 103 = .ok (.return_, 1) := by decide +kernel
theorem dX9_renamed_0 : decode cX9_renamed 0 = .ok (.aload_n 0, 1) := by decide +kernel
theorem dX9_renamed_1 : decode cX9_renamed 1 = .ok (.getfield 45, 3) := by decide +kernel
theorem dX9_renamed_4 : decode cX9_renamed 4 = .ok (.iconst 0, 1) := by decide +kernel
theorem dX9_renamed_5 : decode cX9_renamed 5 = .ok (.aload_n 0, 1) := by decide +kernel
theorem dX9_renamed_6 : decode cX9_renamed 6 = .ok (.getfield 124, 3) := by decide +kernel
theorem dX9_renamed_9 : decode cX9_renamed 9 = .ok (.iconst 3, 1) := by decide +kernel
theorem dX9_renamed_10 : decode cX9_renamed 10 = .ok (.if_icmp .ne 9, 3) := by decide +kernel
theorem dX9_renamed_13 : decode cX9_renamed 13 = .ok (.iload_n 1, 1) := by decide +kernel
theorem dX9_renamed_14 : decode cX9_renamed 14 = .ok (.iconst 2, 1) := by decide +kernel
theorem dX9_renamed_15 : decode cX9_renamed 15 = .ok (.idiv, 1) := by decide +kernel
theorem dX9_renamed_16 : decode cX9_renamed 16 = .ok (.goto 6, 3) := by decide +kernel
theorem dX9_renamed_19 : decode cX9_renamed 19 = .ok (.iload_n 1, 1) := by decide +kernel
theorem dX9_renamed_20 : decode cX9_renamed 20 = .ok (.iconst 2, 1) := by decide +kernel
theorem dX9_renamed_21 : decode cX9_renamed 21 = .ok (.irem, 1) := by decide +kernel
theorem dX9_renamed_22 : decode cX9_renamed 22 = .ok (.iastore, 1) := by decide +kernel
theorem dX9_renamed_23 : decode cX9_renamed 23 = .ok (.aload_n 0, 1) := by decide +kernel
theorem dX9_renamed_24 : decode cX9_renamed 24 = .ok (.getfield 45, 3) := by decide +kernel
theorem dX9_renamed_27 : decode cX9_renamed 27 = .ok (.iconst 1, 1) := by decide +kernel
theorem dX9_renamed_28 : decode cX9_renamed 28 = .ok (.aload_n 0, 1) := by decide +kernel
theorem dX9_renamed_29 : decode cX9_renamed 29 = .ok (.getfield 124, 3) := by decide +kernel
theorem dX9_renamed_32 : decode cX9_renamed 32 = .ok (.iconst 3, 1) := by decide +kernel
theorem dX9_renamed_33 : decode cX9_renamed 33 = .ok (.if_icmp .ne 35, 3) := by decide +kernel
theorem dX9_renamed_36 : decode cX9_renamed 36 = .ok (.iload_n 1, 1) := by decide +kernel
theorem dX9_renamed_37 : decode cX9_renamed 37 = .ok (.iconst 2, 1) := by decide +kernel
theorem dX9_renamed_38 : decode cX9_renamed 38 = .ok (.irem, 1) := by decide +kernel
theorem dX9_renamed_39 : decode cX9_renamed 39 = .ok (.ifCond .ne 16, 3) := by decide +kernel
theorem dX9_renamed_42 : decode cX9_renamed 42 = .ok (.aload_n 0, 1) := by decide +kernel
theorem dX9_renamed_43 : decode cX9_renamed 43 = .ok (.getfield 45, 3) := by decide +kernel
theorem dX9_renamed_46 : decode cX9_renamed 46 = .ok (.iconst 0, 1) := by decide +kernel
theorem dX9_renamed_47 : decode cX9_renamed 47 = .ok (.iaload, 1) := by decide +kernel
theorem dX9_renamed_48 : decode cX9_renamed 48 = .ok (.iconst 1, 1) := by decide +kernel
theorem dX9_renamed_49 : decode cX9_renamed 49 = .ok (.iadd, 1) := by decide +kernel
theorem dX9_renamed_50 : decode cX9_renamed 50 = .ok (.iconst 3, 1) := by decide +kernel
theorem dX9_renamed_51 : decode cX9_renamed 51 = .ok (.irem, 1) := by decide +kernel
theorem dX9_renamed_52 : decode cX9_renamed 52 = .ok (.goto 21, 3) := by decide +kernel
theorem dX9_renamed_55 : decode cX9_renamed 55 = .ok (.aload_n 0, 1) := by decide +kernel
theorem dX9_renamed_56 : decode cX9_renamed 56 = .ok (.getfield 45, 3) := by decide +kernel
theorem dX9_renamed_59 : decode cX9_renamed 59 = .ok (.iconst 0, 1) := by decide +kernel
theorem dX9_renamed_60 : decode cX9_renamed 60 = .ok (.iaload, 1) := by decide +kernel
theorem dX9_renamed_61 : decode cX9_renamed 61 = .ok (.iconst 2, 1) := by decide +kernel
theorem dX9_renamed_62 : decode cX9_renamed 62 = .ok (.iadd, 1) := by decide +kernel
theorem dX9_renamed_63 : decode cX9_renamed 63 = .ok (.iconst 3, 1) := by decide +kernel
theorem dX9_renamed_64 : decode cX9_renamed 64 = .ok (.irem, 1) := by decide +kernel
theorem dX9_renamed_65 : decode cX9_renamed 65 = .ok (.goto 8, 3) := by decide +kernel
theorem dX9_renamed_68 : decode cX9_renamed 68 = .ok (.iconst 1, 1) := by decide +kernel
theorem dX9_renamed_69 : decode cX9_renamed 69 = .ok (.iload_n 1, 1) := by decide +kernel
theorem dX9_renamed_70 : decode cX9_renamed 70 = .ok (.iconst 2, 1) := by decide +kernel
theorem dX9_renamed_71 : decode cX9_renamed 71 = .ok (.irem, 1) := by decide +kernel
theorem dX9_renamed_72 : decode cX9_renamed 72 = .ok (.isub, 1) := by decide +kernel
theorem dX9_renamed_73 : decode cX9_renamed 73 = .ok (.iastore, 1) := by decide +kernel
theorem dX9_renamed_74 : decode cX9_renamed 74 = .ok (.aload_n 0, 1) := by decide +kernel
theorem dX9_renamed_75 : decode cX9_renamed 75 = .ok (.getfield 45, 3) := by decide +kernel
theorem dX9_renamed_78 : decode cX9_renamed 78 = .ok (.iconst 2, 1) := by decide +kernel
theorem dX9_renamed_79 : decode cX9_renamed 79 = .ok (.iconst 3, 1) := by decide +kernel
theorem dX9_renamed_80 : decode cX9_renamed 80 = .ok (.aload_n 0, 1) := by decide +kernel
theorem dX9_renamed_81 : decode cX9_renamed 81 = .ok (.getfield 45, 3) := by decide +kernel
theorem dX9_renamed_84 : decode cX9_renamed 84 = .ok (.iconst 0, 1) := by decide +kernel
theorem dX9_renamed_85 : decode cX9_renamed 85 = .ok (.iaload, 1) := by decide +kernel
theorem dX9_renamed_86 : decode cX9_renamed 86 = .ok (.isub, 1) := by decide +kernel
theorem dX9_renamed_87 : decode cX9_renamed 87 = .ok (.aload_n 0, 1) := by decide +kernel
theorem dX9_renamed_88 : decode cX9_renamed 88 = .ok (.getfield 45, 3) := by decide +kernel
theorem dX9_renamed_91 : decode cX9_renamed 91 = .ok (.iconst 1, 1) := by decide +kernel
theorem dX9_renamed_92 : decode cX9_renamed 92 = .ok (.iaload, 1) := by decide +kernel
theorem dX9_renamed_93 : decode cX9_renamed 93 = .ok (.isub, 1) := by decide +kernel
theorem dX9_renamed_94 : decode cX9_renamed 94 = .ok (.iastore, 1) := by decide +kernel
theorem dX9_renamed_95 : decode cX9_renamed 95 = .ok (.iconst 0, 1) := by decide +kernel
theorem dX9_renamed_96 : decode cX9_renamed 96 = .ok (.istore_n 2, 1) := by decide +kernel
theorem dX9_renamed_97 : decode cX9_renamed 97 = .ok (.iconst 0, 1) := by decide +kernel
theorem dX9_renamed_98 : decode cX9_renamed 98 = .ok (.istore_n 3, 1) := by decide +kernel
theorem dX9_renamed_99 : decode cX9_renamed 99 = .ok (.iload_n 3, 1) := by decide +kernel
theorem dX9_renamed_100 : decode cX9_renamed 100 = .ok (.aload_n 0, 1) := by decide +kernel
theorem dX9_renamed_101 : decode cX9_renamed 101 = .ok (.getfield 124, 3) := by decide +kernel
theorem dX9_renamed_104 : decode cX9_renamed 104 = .ok (.aload_n 0, 1) := by decide +kernel
theorem dX9_renamed_105 : decode cX9_renamed 105 = .ok (.getfield 124, 3) := by decide +kernel
theorem dX9_renamed_108 : decode cX9_renamed 108 = .ok (.imul, 1) := by decide +kernel
theorem dX9_renamed_109 : decode cX9_renamed 109 = .ok (.if_icmp .ge 61, 3) := by decide +kernel
theorem dX9_renamed_112 : decode cX9_renamed 112 = .ok (.aload_n 0, 1) := by decide +kernel
theorem dX9_renamed_113 : decode cX9_renamed 113 = .ok (.iload_n 3, 1) := by decide +kernel
theorem dX9_renamed_114 : decode cX9_renamed 114 = .ok (.aload_n 0, 1) := by decide +kernel
theorem dX9_renamed_115 : decode cX9_renamed 115 = .ok (.getfield 124, 3) := by decide +kernel
theorem dX9_renamed_118 : decode cX9_renamed 118 = .ok (.idiv, 1) := by decide +kernel
theorem dX9_renamed_119 : decode cX9_renamed 119 = .ok (.invokevirtual 146, 3) := by decide +kernel
theorem dX9_renamed_122 : decode cX9_renamed 122 = .ok (.istore 4, 2) := by decide +kernel
theorem dX9_renamed_124 : decode cX9_renamed 124 = .ok (.aload_n 0, 1) := by decide +kernel
theorem dX9_renamed_125 : decode cX9_renamed 125 = .ok (.iload_n 3, 1) := by decide +kernel
theorem dX9_renamed_126 : decode cX9_renamed 126 = .ok (.aload_n 0, 1) := by decide +kernel
theorem dX9_renamed_127 : decode cX9_renamed 127 = .ok (.getfield 124, 3) := by decide +kernel
theorem dX9_renamed_130 : decode cX9_renamed 130 = .ok (.irem, 1) := by decide +kernel
theorem dX9_renamed_131 : decode cX9_renamed 131 = .ok (.invokevirtual 146, 3) := by decide +kernel
theorem dX9_renamed_134 : decode cX9_renamed 134 = .ok (.istore 5, 2) := by decide +kernel
theorem dX9_renamed_136 : decode cX9_renamed 136 = .ok (.iload_n 2, 1) := by decide +kernel
theorem dX9_renamed_137 : decode cX9_renamed 137 = .ok (.aload_n 0, 1) := by decide +kernel
theorem dX9_renamed_138 : decode cX9_renamed 138 = .ok (.getfield 124, 3) := by decide +kernel
theorem dX9_renamed_141 : decode cX9_renamed 141 = .ok (.imul, 1) := by decide +kernel
theorem dX9_renamed_142 : decode cX9_renamed 142 = .ok (.aload_n 0, 1) := by decide +kernel
theorem dX9_renamed_143 : decode cX9_renamed 143 = .ok (.getfield 45, 3) := by decide +kernel
theorem dX9_renamed_146 : decode cX9_renamed 146 = .ok (.aload_n 0, 1) := by decide +kernel
theorem dX9_renamed_147 : decode cX9_renamed 147 = .ok (.getfield 29, 3) := by decide +kernel
theorem dX9_renamed_150 : decode cX9_renamed 150 = .ok (.aload_n 0, 1) := by decide +kernel
theorem dX9_renamed_151 : decode cX9_renamed 151 = .ok (.getfield 124, 3) := by decide +kernel
theorem dX9_renamed_154 : decode cX9_renamed 154 = .ok (.iload 4, 2) := by decide +kernel
theorem dX9_renamed_156 : decode cX9_renamed 156 = .ok (.imul, 1) := by decide +kernel
theorem dX9_renamed_157 : decode cX9_renamed 157 = .ok (.iload 5, 2) := by decide +kernel
theorem dX9_renamed_159 : decode cX9_renamed 159 = .ok (.iadd, 1) := by decide +kernel
theorem dX9_renamed_160 : decode cX9_renamed 160 = .ok (.iaload, 1) := by decide +kernel
theorem dX9_renamed_161 : decode cX9_renamed 161 = .ok (.iaload, 1) := by decide +kernel
theorem dX9_renamed_162 : decode cX9_renamed 162 = .ok (.iadd, 1) := by decide +kernel
theorem dX9_renamed_163 : decode cX9_renamed 163 = .ok (.istore_n 2, 1) := by decide +kernel
theorem dX9_renamed_164 : decode cX9_renamed 164 = .ok (.iinc 3 1, 3) := by decide +kernel
theorem dX9_renamed_167 : decode cX9_renamed 167 = .ok (.goto (-68), 3) := by decide +kernel
theorem dX9_renamed_170 : decode cX9_renamed 170 = .ok (.iload_n 2, 1) := by decide +kernel
theorem dX9_renamed_171 : decode cX9_renamed 171 = .ok (.ireturn, 1) := by decide +kernel
theorem dX9_oldName_0 : decode cX9_oldName 0 = .ok (.aload_n 0, 1) := by decide +kernel
theorem dX9_oldName_1 : decode cX9_oldName 1 = .ok (.getfield 45, 3) := by decide +kernel
theorem dX9_oldName_4 : decode cX9_oldName 4 = .ok (.iconst 0, 1) := by decide +kernel
theorem dX9_oldName_5 : decode cX9_oldName 5 = .ok (.iaload, 1) := by decide +kernel
theorem dX9_oldName_6 : decode cX9_oldName 6 = .ok (.iload_n 1, 1) := by decide +kernel
theorem dX9_oldName_7 : decode cX9_oldName 7 = .ok (.if_icmp .ne 7, 3) := by decide +kernel
theorem dX9_oldName_10 : decode cX9_oldName 10 = .ok (.iconst 0, 1) := by decide +kernel
theorem dX9_oldName_11 : decode cX9_oldName 11 = .ok (.goto 18, 3) := by decide +kernel
theorem dX9_oldName_14 : decode cX9_oldName 14 = .ok (.aload_n 0, 1) := by decide +kernel
theorem dX9_oldName_15 : decode cX9_oldName 15 = .ok (.getfield 45, 3) := by decide +kernel
theorem dX9_oldName_18 : decode cX9_oldName 18 = .ok (.iconst 1, 1) := by decide +kernel
theorem dX9_oldName_19 : decode cX9_oldName 19 = .ok (.iaload, 1) := by decide +kernel
theorem dX9_oldName_20 : decode cX9_oldName 20 = .ok (.iload_n 1, 1) := by decide +kernel
theorem dX9_oldName_21 : decode cX9_oldName 21 = .ok (.if_icmp .ne 7, 3) := by decide +kernel
theorem dX9_oldName_24 : decode cX9_oldName 24 = .ok (.iconst 1, 1) := by decide +kernel
theorem dX9_oldName_25 : decode cX9_oldName 25 = .ok (.goto 4, 3) := by decide +kernel
theorem dX9_oldName_28 : decode cX9_oldName 28 = .ok (.iconst 2, 1) := by decide +kernel
theorem dX9_oldName_29 : decode cX9_oldName 29 = .ok (.ireturn, 1) := by decide +kernel
theorem dX9_leastName_0 : decode cX9_leastName 0 = .ok (.aload_n 0, 1) := by decide +kernel
theorem dX9_leastName_1 : decode cX9_leastName 1 = .ok (.getfield 124, 3) := by decide +kernel
theorem dX9_leastName_4 : decode cX9_leastName 4 = .ok (.iconst 1, 1) := by decide +kernel
theorem dX9_leastName_5 : decode cX9_leastName 5 = .ok (.if_icmp .ne 5, 3) := by decide +kernel
theorem dX9_leastName_8 : decode cX9_leastName 8 = .ok (.iconst 0, 1) := by decide +kernel
theorem dX9_leastName_9 : decode cX9_leastName 9 = .ok (.ireturn, 1) := by decide +kernel
theorem dX9_leastName_10 : decode cX9_leastName 10 = .ok (.ldc 149, 2) := by decide +kernel
theorem dX9_leastName_12 : decode cX9_leastName 12 = .ok (.istore_n 1, 1) := by decide +kernel
theorem dX9_leastName_13 : decode cX9_leastName 13 = .ok (.iconst 0, 1) := by decide +kernel
theorem dX9_leastName_14 : decode cX9_leastName 14 = .ok (.istore_n 2, 1) := by decide +kernel
theorem dX9_leastName_15 : decode cX9_leastName 15 = .ok (.iload_n 2, 1) := by decide +kernel
theorem dX9_leastName_16 : decode cX9_leastName 16 = .ok (.aload_n 0, 1) := by decide +kernel
theorem dX9_leastName_17 : decode cX9_leastName 17 = .ok (.getfield 124, 3) := by decide +kernel
theorem dX9_leastName_20 : decode cX9_leastName 20 = .ok (.iconst 2, 1) := by decide +kernel
theorem dX9_leastName_21 : decode cX9_leastName 21 = .ok (.if_icmp .ne 7, 3) := by decide +kernel
theorem dX9_leastName_24 : decode cX9_leastName 24 = .ok (.iconst 2, 1) := by decide +kernel
theorem dX9_leastName_25 : decode cX9_leastName 25 = .ok (.goto 5, 3) := by decide +kernel
theorem dX9_leastName_28 : decode cX9_leastName 28 = .ok (.bipush 6, 2) := by decide +kernel
theorem dX9_leastName_30 : decode cX9_leastName 30 = .ok (.if_icmp .ge 26, 3) := by decide +kernel
theorem dX9_leastName_33 : decode cX9_leastName 33 = .ok (.aload_n 0, 1) := by decide +kernel
theorem dX9_leastName_34 : decode cX9_leastName 34 = .ok (.iload_n 2, 1) := by decide +kernel
theorem dX9_leastName_35 : decode cX9_leastName 35 = .ok (.invokevirtual 150, 3) := by decide +kernel
theorem dX9_leastName_38 : decode cX9_leastName 38 = .ok (.istore_n 3, 1) := by decide +kernel
theorem dX9_leastName_39 : decode cX9_leastName 39 = .ok (.iload_n 3, 1) := by decide +kernel
theorem dX9_leastName_40 : decode cX9_leastName 40 = .ok (.iload_n 1, 1) := by decide +kernel
theorem dX9_leastName_41 : decode cX9_leastName 41 = .ok (.if_icmp .ge 7, 3) := by decide +kernel
theorem dX9_leastName_44 : decode cX9_leastName 44 = .ok (.iload_n 3, 1) := by decide +kernel
theorem dX9_leastName_45 : decode cX9_leastName 45 = .ok (.goto 4, 3) := by decide +kernel
theorem dX9_leastName_48 : decode cX9_leastName 48 = .ok (.iload_n 1, 1) := by decide +kernel
theorem dX9_leastName_49 : decode cX9_leastName 49 = .ok (.istore_n 1, 1) := by decide +kernel
theorem dX9_leastName_50 : decode cX9_leastName 50 = .ok (.iinc 2 1, 3) := by decide +kernel
theorem dX9_leastName_53 : decode cX9_leastName 53 = .ok (.goto (-38), 3) := by decide +kernel
theorem dX9_leastName_56 : decode cX9_leastName 56 = .ok (.iload_n 1, 1) := by decide +kernel
theorem dX9_leastName_57 : decode cX9_leastName 57 = .ok (.ireturn, 1) := by decide +kernel
theorem dX9_layAll_0 : decode cX9_layAll 0 = .ok (.aload_n 0, 1) := by decide +kernel
theorem dX9_layAll_1 : decode cX9_layAll 1 = .ok (.getfield 116, 3) := by decide +kernel
theorem dX9_layAll_4 : decode cX9_layAll 4 = .ok (.ifCond .eq 4, 3) := by decide +kernel
theorem dX9_layAll_7 : decode cX9_layAll 7 = .ok (.return_, 1) := by decide +kernel
theorem dX9_layAll_8 : decode cX9_layAll 8 = .ok (.aload_n 0, 1) := by decide +kernel
theorem dX9_layAll_9 : decode cX9_layAll 9 = .ok (.aload_n 0, 1) := by decide +kernel
theorem dX9_layAll_10 : decode cX9_layAll 10 = .ok (.getfield 39, 3) := by decide +kernel
theorem dX9_layAll_13 : decode cX9_layAll 13 = .ok (.aload_n 0, 1) := by decide +kernel
theorem dX9_layAll_14 : decode cX9_layAll 14 = .ok (.getfield 23, 3) := by decide +kernel
theorem dX9_layAll_17 : decode cX9_layAll 17 = .ok (.aload_n 0, 1) := by decide +kernel
theorem dX9_layAll_18 : decode cX9_layAll 18 = .ok (.getfield 26, 3) := by decide +kernel
theorem dX9_layAll_21 : decode cX9_layAll 21 = .ok (.aload_n 0, 1) := by decide +kernel
theorem dX9_layAll_22 : decode cX9_layAll 22 = .ok (.getfield 113, 3) := by decide +kernel
theorem dX9_layAll_25 : decode cX9_layAll 25 = .ok (.invokevirtual 153, 3) := by decide +kernel
theorem dX9_layAll_28 : decode cX9_layAll 28 = .ok (.aload_n 0, 1) := by decide +kernel
theorem dX9_layAll_29 : decode cX9_layAll 29 = .ok (.iconst 0, 1) := by decide +kernel
theorem dX9_layAll_30 : decode cX9_layAll 30 = .ok (.putfield 157, 3) := by decide +kernel
theorem dX9_layAll_33 : decode cX9_layAll 33 = .ok (.iconst 0, 1) := by decide +kernel
theorem dX9_layAll_34 : decode cX9_layAll 34 = .ok (.istore_n 1, 1) := by decide +kernel
theorem dX9_layAll_35 : decode cX9_layAll 35 = .ok (.iload_n 1, 1) := by decide +kernel
theorem dX9_layAll_36 : decode cX9_layAll 36 = .ok (.sipush 19700, 3) := by decide +kernel
theorem dX9_layAll_39 : decode cX9_layAll 39 = .ok (.if_icmp .ge 59, 3) := by decide +kernel
theorem dX9_layAll_42 : decode cX9_layAll 42 = .ok (.aload_n 0, 1) := by decide +kernel
theorem dX9_layAll_43 : decode cX9_layAll 43 = .ok (.getfield 39, 3) := by decide +kernel
theorem dX9_layAll_46 : decode cX9_layAll 46 = .ok (.iload_n 1, 1) := by decide +kernel
theorem dX9_layAll_47 : decode cX9_layAll 47 = .ok (.iaload, 1) := by decide +kernel
theorem dX9_layAll_48 : decode cX9_layAll 48 = .ok (.ifCond .ne 44, 3) := by decide +kernel
theorem dX9_layAll_51 : decode cX9_layAll 51 = .ok (.aload_n 0, 1) := by decide +kernel
theorem dX9_layAll_52 : decode cX9_layAll 52 = .ok (.iload_n 1, 1) := by decide +kernel
theorem dX9_layAll_53 : decode cX9_layAll 53 = .ok (.invokevirtual 138, 3) := by decide +kernel
theorem dX9_layAll_56 : decode cX9_layAll 56 = .ok (.aload_n 0, 1) := by decide +kernel
theorem dX9_layAll_57 : decode cX9_layAll 57 = .ok (.invokevirtual 160, 3) := by decide +kernel
theorem dX9_layAll_60 : decode cX9_layAll 60 = .ok (.iload_n 1, 1) := by decide +kernel
theorem dX9_layAll_61 : decode cX9_layAll 61 = .ok (.aload_n 0, 1) := by decide +kernel
theorem dX9_layAll_62 : decode cX9_layAll 62 = .ok (.getfield 124, 3) := by decide +kernel
theorem dX9_layAll_65 : decode cX9_layAll 65 = .ok (.invokestatic 127, 3) := by decide +kernel
theorem dX9_layAll_68 : decode cX9_layAll 68 = .ok (.isub, 1) := by decide +kernel
theorem dX9_layAll_69 : decode cX9_layAll 69 = .ok (.if_icmp .ne 23, 3) := by decide +kernel
theorem dX9_layAll_72 : decode cX9_layAll 72 = .ok (.aload_n 0, 1) := by decide +kernel
theorem dX9_layAll_73 : decode cX9_layAll 73 = .ok (.getfield 48, 3) := by decide +kernel
theorem dX9_layAll_76 : decode cX9_layAll 76 = .ok (.aload_n 0, 1) := by decide +kernel
theorem dX9_layAll_77 : decode cX9_layAll 77 = .ok (.getfield 157, 3) := by decide +kernel
theorem dX9_layAll_80 : decode cX9_layAll 80 = .ok (.iload_n 1, 1) := by decide +kernel
theorem dX9_layAll_81 : decode cX9_layAll 81 = .ok (.iastore, 1) := by decide +kernel
theorem dX9_layAll_82 : decode cX9_layAll 82 = .ok (.aload_n 0, 1) := by decide +kernel
theorem dX9_layAll_83 : decode cX9_layAll 83 = .ok (.dup, 1) := by decide +kernel
theorem dX9_layAll_84 : decode cX9_layAll 84 = .ok (.getfield 157, 3) := by decide +kernel
theorem dX9_layAll_87 : decode cX9_layAll 87 = .ok (.iconst 1, 1) := by decide +kernel
theorem dX9_layAll_88 : decode cX9_layAll 88 = .ok (.iadd, 1) := by decide +kernel
theorem dX9_layAll_89 : decode cX9_layAll 89 = .ok (.putfield 157, 3) := by decide +kernel
theorem dX9_layAll_92 : decode cX9_layAll 92 = .ok (.iinc 1 1, 3) := by decide +kernel
theorem dX9_layAll_95 : decode cX9_layAll 95 = .ok (.goto (-60), 3) := by decide +kernel
theorem dX9_layAll_98 : decode cX9_layAll 98 = .ok (.aload_n 0, 1) := by decide +kernel
theorem dX9_layAll_99 : decode cX9_layAll 99 = .ok (.iconst 1, 1) := by decide +kernel
theorem dX9_layAll_100 : decode cX9_layAll 100 = .ok (.putfield 116, 3) := by decide +kernel
theorem dX9_layAll_103 : decode cX9_layAll 103 = .ok (.aload_n 0, 1) := by decide +kernel
theorem dX9_layAll_104 : decode cX9_layAll 104 = .ok (.iconst 0, 1) := by decide +kernel
theorem dX9_layAll_105 : decode cX9_layAll 105 = .ok (.putfield 164, 3) := by decide +kernel
theorem dX9_layAll_108 : decode cX9_layAll 108 = .ok (.return_, 1) := by decide +kernel
theorem dX9_isSize_0 : decode cX9_isSize 0 = .ok (.iload_n 0, 1) := by decide +kernel
theorem dX9_isSize_1 : decode cX9_isSize 1 = .ok (.i2l, 1) := by decide +kernel
theorem dX9_isSize_2 : decode cX9_isSize 2 = .ok (.lconst 1, 1) := by decide +kernel
theorem dX9_isSize_3 : decode cX9_isSize 3 = .ok (.ldc2_w 167, 3) := by decide +kernel
theorem dX9_isSize_6 : decode cX9_isSize 6 = .ok (.invokestatic 105, 3) := by decide +kernel
theorem dX9_isSize_9 : decode cX9_isSize 9 = .ok (.ireturn, 1) := by decide +kernel
theorem dX9_isWorldOf_0 : decode cX9_isWorldOf 0 = .ok (.iload_n 0, 1) := by decide +kernel
theorem dX9_isWorldOf_1 : decode cX9_isWorldOf 1 = .ok (.invokestatic 169, 3) := by decide +kernel
theorem dX9_isWorldOf_4 : decode cX9_isWorldOf 4 = .ok (.ifCond .eq 23, 3) := by decide +kernel
theorem dX9_isWorldOf_7 : decode cX9_isWorldOf 7 = .ok (.iload_n 1, 1) := by decide +kernel
theorem dX9_isWorldOf_8 : decode cX9_isWorldOf 8 = .ok (.i2l, 1) := by decide +kernel
theorem dX9_isWorldOf_9 : decode cX9_isWorldOf 9 = .ok (.lconst 0, 1) := by decide +kernel
theorem dX9_isWorldOf_10 : decode cX9_isWorldOf 10 = .ok (.iload_n 0, 1) := by decide +kernel
theorem dX9_isWorldOf_11 : decode cX9_isWorldOf 11 = .ok (.invokestatic 172, 3) := by decide +kernel
theorem dX9_isWorldOf_14 : decode cX9_isWorldOf 14 = .ok (.iconst 1, 1) := by decide +kernel
theorem dX9_isWorldOf_15 : decode cX9_isWorldOf 15 = .ok (.isub, 1) := by decide +kernel
theorem dX9_isWorldOf_16 : decode cX9_isWorldOf 16 = .ok (.i2l, 1) := by decide +kernel
theorem dX9_isWorldOf_17 : decode cX9_isWorldOf 17 = .ok (.invokestatic 105, 3) := by decide +kernel
theorem dX9_isWorldOf_20 : decode cX9_isWorldOf 20 = .ok (.ifCond .eq 7, 3) := by decide +kernel
theorem dX9_isWorldOf_23 : decode cX9_isWorldOf 23 = .ok (.iconst 1, 1) := by decide +kernel
theorem dX9_isWorldOf_24 : decode cX9_isWorldOf 24 = .ok (.goto 4, 3) := by decide +kernel
theorem dX9_isWorldOf_27 : decode cX9_isWorldOf 27 = .ok (.iconst 0, 1) := by decide +kernel
theorem dX9_isWorldOf_28 : decode cX9_isWorldOf 28 = .ok (.ireturn, 1) := by decide +kernel
theorem dX9_worlds_0 : decode cX9_worlds 0 = .ok (.iload_n 1, 1) := by decide +kernel
theorem dX9_worlds_1 : decode cX9_worlds 1 = .ok (.invokestatic 169, 3) := by decide +kernel
theorem dX9_worlds_4 : decode cX9_worlds 4 = .ok (.ifCond .ne 6, 3) := by decide +kernel
theorem dX9_worlds_7 : decode cX9_worlds 7 = .ok (.bipush (-2), 2) := by decide +kernel
theorem dX9_worlds_9 : decode cX9_worlds 9 = .ok (.ireturn, 1) := by decide +kernel
theorem dX9_worlds_10 : decode cX9_worlds 10 = .ok (.aload_n 0, 1) := by decide +kernel
theorem dX9_worlds_11 : decode cX9_worlds 11 = .ok (.invokevirtual 175, 3) := by decide +kernel
theorem dX9_worlds_14 : decode cX9_worlds 14 = .ok (.iconst 0, 1) := by decide +kernel
theorem dX9_worlds_15 : decode cX9_worlds 15 = .ok (.istore_n 3, 1) := by decide +kernel
theorem dX9_worlds_16 : decode cX9_worlds 16 = .ok (.iload_n 1, 1) := by decide +kernel
theorem dX9_worlds_17 : decode cX9_worlds 17 = .ok (.invokestatic 127, 3) := by decide +kernel
theorem dX9_worlds_20 : decode cX9_worlds 20 = .ok (.istore 4, 2) := by decide +kernel
theorem dX9_worlds_22 : decode cX9_worlds 22 = .ok (.iload 4, 2) := by decide +kernel
theorem dX9_worlds_24 : decode cX9_worlds 24 = .ok (.iload_n 1, 1) := by decide +kernel
theorem dX9_worlds_25 : decode cX9_worlds 25 = .ok (.invokestatic 127, 3) := by decide +kernel
theorem dX9_worlds_28 : decode cX9_worlds 28 = .ok (.iload_n 1, 1) := by decide +kernel
theorem dX9_worlds_29 : decode cX9_worlds 29 = .ok (.invokestatic 172, 3) := by decide +kernel
theorem dX9_worlds_32 : decode cX9_worlds 32 = .ok (.iadd, 1) := by decide +kernel
theorem dX9_worlds_33 : decode cX9_worlds 33 = .ok (.if_icmp .ge 31, 3) := by decide +kernel
theorem dX9_worlds_36 : decode cX9_worlds 36 = .ok (.iload_n 2, 1) := by decide +kernel
theorem dX9_worlds_37 : decode cX9_worlds 37 = .ok (.ifCond .ne 27, 3) := by decide +kernel
theorem dX9_worlds_40 : decode cX9_worlds 40 = .ok (.iload_n 3, 1) := by decide +kernel
theorem dX9_worlds_41 : decode cX9_worlds 41 = .ok (.aload_n 0, 1) := by decide +kernel
theorem dX9_worlds_42 : decode cX9_worlds 42 = .ok (.getfield 39, 3) := by decide +kernel
theorem dX9_worlds_45 : decode cX9_worlds 45 = .ok (.iload 4, 2) := by decide +kernel
theorem dX9_worlds_47 : decode cX9_worlds 47 = .ok (.iaload, 1) := by decide +kernel
theorem dX9_worlds_48 : decode cX9_worlds 48 = .ok (.ifCond .ne 7, 3) := by decide +kernel
theorem dX9_worlds_51 : decode cX9_worlds 51 = .ok (.iconst 1, 1) := by decide +kernel
theorem dX9_worlds_52 : decode cX9_worlds 52 = .ok (.goto 4, 3) := by decide +kernel
theorem dX9_worlds_55 : decode cX9_worlds 55 = .ok (.iconst 0, 1) := by decide +kernel
theorem dX9_worlds_56 : decode cX9_worlds 56 = .ok (.iadd, 1) := by decide +kernel
theorem dX9_worlds_57 : decode cX9_worlds 57 = .ok (.istore_n 3, 1) := by decide +kernel
theorem dX9_worlds_58 : decode cX9_worlds 58 = .ok (.iinc 4 1, 3) := by decide +kernel
theorem dX9_worlds_61 : decode cX9_worlds 61 = .ok (.goto (-39), 3) := by decide +kernel
theorem dX9_worlds_64 : decode cX9_worlds 64 = .ok (.iconst 0, 1) := by decide +kernel
theorem dX9_worlds_65 : decode cX9_worlds 65 = .ok (.istore 4, 2) := by decide +kernel
theorem dX9_worlds_67 : decode cX9_worlds 67 = .ok (.iload 4, 2) := by decide +kernel
theorem dX9_worlds_69 : decode cX9_worlds 69 = .ok (.aload_n 0, 1) := by decide +kernel
theorem dX9_worlds_70 : decode cX9_worlds 70 = .ok (.getfield 157, 3) := by decide +kernel
theorem dX9_worlds_73 : decode cX9_worlds 73 = .ok (.if_icmp .ge 35, 3) := by decide +kernel
theorem dX9_worlds_76 : decode cX9_worlds 76 = .ok (.iload_n 2, 1) := by decide +kernel
theorem dX9_worlds_77 : decode cX9_worlds 77 = .ok (.ifCond .eq 31, 3) := by decide +kernel
theorem dX9_worlds_80 : decode cX9_worlds 80 = .ok (.iload_n 3, 1) := by decide +kernel
theorem dX9_worlds_81 : decode cX9_worlds 81 = .ok (.aload_n 0, 1) := by decide +kernel
theorem dX9_worlds_82 : decode cX9_worlds 82 = .ok (.getfield 48, 3) := by decide +kernel
theorem dX9_worlds_85 : decode cX9_worlds 85 = .ok (.iload 4, 2) := by decide +kernel
theorem dX9_worlds_87 : decode cX9_worlds 87 = .ok (.iaload, 1) := by decide +kernel
theorem dX9_worlds_88 : decode cX9_worlds 88 = .ok (.invokestatic 120, 3) := by decide +kernel
theorem dX9_worlds_91 : decode cX9_worlds 91 = .ok (.iload_n 1, 1) := by decide +kernel
theorem dX9_worlds_92 : decode cX9_worlds 92 = .ok (.if_icmp .ne 7, 3) := by decide +kernel
theorem dX9_worlds_95 : decode cX9_worlds 95 = .ok (.iconst 1, 1) := by decide +kernel
theorem dX9_worlds_96 : decode cX9_worlds 96 = .ok (.goto 4, 3) := by decide +kernel
theorem dX9_worlds_99 : decode cX9_worlds 99 = .ok (.iconst 0, 1) := by decide +kernel
theorem dX9_worlds_100 : decode cX9_worlds 100 = .ok (.iadd, 1) := by decide +kernel
theorem dX9_worlds_101 : decode cX9_worlds 101 = .ok (.istore_n 3, 1) := by decide +kernel
theorem dX9_worlds_102 : decode cX9_worlds 102 = .ok (.iinc 4 1, 3) := by decide +kernel
theorem dX9_worlds_105 : decode cX9_worlds 105 = .ok (.goto (-38), 3) := by decide +kernel
theorem dX9_worlds_108 : decode cX9_worlds 108 = .ok (.iload_n 3, 1) := by decide +kernel
theorem dX9_worlds_109 : decode cX9_worlds 109 = .ok (.ireturn, 1) := by decide +kernel
theorem dX9_number_0 : decode cX9_number 0 = .ok (.iload_n 1, 1) := by decide +kernel
theorem dX9_number_1 : decode cX9_number 1 = .ok (.invokestatic 169, 3) := by decide +kernel
theorem dX9_number_4 : decode cX9_number 4 = .ok (.ifCond .ne 6, 3) := by decide +kernel
theorem dX9_number_7 : decode cX9_number 7 = .ok (.bipush (-2), 2) := by decide +kernel
theorem dX9_number_9 : decode cX9_number 9 = .ok (.ireturn, 1) := by decide +kernel
theorem dX9_number_10 : decode cX9_number 10 = .ok (.aload_n 0, 1) := by decide +kernel
theorem dX9_number_11 : decode cX9_number 11 = .ok (.invokevirtual 175, 3) := by decide +kernel
theorem dX9_number_14 : decode cX9_number 14 = .ok (.iconst 0, 1) := by decide +kernel
theorem dX9_number_15 : decode cX9_number 15 = .ok (.istore_n 3, 1) := by decide +kernel
theorem dX9_number_16 : decode cX9_number 16 = .ok (.iconst 0, 1) := by decide +kernel
theorem dX9_number_17 : decode cX9_number 17 = .ok (.istore 4, 2) := by decide +kernel
theorem dX9_number_19 : decode cX9_number 19 = .ok (.iload 4, 2) := by decide +kernel
theorem dX9_number_21 : decode cX9_number 21 = .ok (.aload_n 0, 1) := by decide +kernel
theorem dX9_number_22 : decode cX9_number 22 = .ok (.getfield 157, 3) := by decide +kernel
theorem dX9_number_25 : decode cX9_number 25 = .ok (.if_icmp .ge 44, 3) := by decide +kernel
theorem dX9_number_28 : decode cX9_number 28 = .ok (.aload_n 0, 1) := by decide +kernel
theorem dX9_number_29 : decode cX9_number 29 = .ok (.getfield 48, 3) := by decide +kernel
theorem dX9_number_32 : decode cX9_number 32 = .ok (.iload 4, 2) := by decide +kernel
theorem dX9_number_34 : decode cX9_number 34 = .ok (.iaload, 1) := by decide +kernel
theorem dX9_number_35 : decode cX9_number 35 = .ok (.invokestatic 120, 3) := by decide +kernel
theorem dX9_number_38 : decode cX9_number 38 = .ok (.iload_n 1, 1) := by decide +kernel
theorem dX9_number_39 : decode cX9_number 39 = .ok (.if_icmp .ne 24, 3) := by decide +kernel
theorem dX9_number_42 : decode cX9_number 42 = .ok (.iload_n 3, 1) := by decide +kernel
theorem dX9_number_43 : decode cX9_number 43 = .ok (.iload_n 2, 1) := by decide +kernel
theorem dX9_number_44 : decode cX9_number 44 = .ok (.if_icmp .ne 16, 3) := by decide +kernel
theorem dX9_number_47 : decode cX9_number 47 = .ok (.aload_n 0, 1) := by decide +kernel
theorem dX9_number_48 : decode cX9_number 48 = .ok (.getfield 48, 3) := by decide +kernel
theorem dX9_number_51 : decode cX9_number 51 = .ok (.iload 4, 2) := by decide +kernel
theorem dX9_number_53 : decode cX9_number 53 = .ok (.iaload, 1) := by decide +kernel
theorem dX9_number_54 : decode cX9_number 54 = .ok (.iload_n 1, 1) := by decide +kernel
theorem dX9_number_55 : decode cX9_number 55 = .ok (.invokestatic 127, 3) := by decide +kernel
theorem dX9_number_58 : decode cX9_number 58 = .ok (.isub, 1) := by decide +kernel
theorem dX9_number_59 : decode cX9_number 59 = .ok (.ireturn, 1) := by decide +kernel
theorem dX9_number_60 : decode cX9_number 60 = .ok (.iinc 3 1, 3) := by decide +kernel
theorem dX9_number_63 : decode cX9_number 63 = .ok (.iinc 4 1, 3) := by decide +kernel
theorem dX9_number_66 : decode cX9_number 66 = .ok (.goto (-47), 3) := by decide +kernel
theorem dX9_number_69 : decode cX9_number 69 = .ok (.bipush (-9), 2) := by decide +kernel
theorem dX9_number_71 : decode cX9_number 71 = .ok (.ireturn, 1) := by decide +kernel
theorem dX9_keeps_0 : decode cX9_keeps 0 = .ok (.iload_n 1, 1) := by decide +kernel
theorem dX9_keeps_1 : decode cX9_keeps 1 = .ok (.iload_n 2, 1) := by decide +kernel
theorem dX9_keeps_2 : decode cX9_keeps 2 = .ok (.invokestatic 178, 3) := by decide +kernel
theorem dX9_keeps_5 : decode cX9_keeps 5 = .ok (.ifCond .ne 6, 3) := by decide +kernel
theorem dX9_keeps_8 : decode cX9_keeps 8 = .ok (.bipush (-2), 2) := by decide +kernel
theorem dX9_keeps_10 : decode cX9_keeps 10 = .ok (.ireturn, 1) := by decide +kernel
theorem dX9_keeps_11 : decode cX9_keeps 11 = .ok (.aload_n 0, 1) := by decide +kernel
theorem dX9_keeps_12 : decode cX9_keeps 12 = .ok (.invokevirtual 175, 3) := by decide +kernel
theorem dX9_keeps_15 : decode cX9_keeps 15 = .ok (.aload_n 0, 1) := by decide +kernel
theorem dX9_keeps_16 : decode cX9_keeps 16 = .ok (.getfield 39, 3) := by decide +kernel
theorem dX9_keeps_19 : decode cX9_keeps 19 = .ok (.iload_n 1, 1) := by decide +kernel
theorem dX9_keeps_20 : decode cX9_keeps 20 = .ok (.invokestatic 127, 3) := by decide +kernel
theorem dX9_keeps_23 : decode cX9_keeps 23 = .ok (.iload_n 2, 1) := by decide +kernel
theorem dX9_keeps_24 : decode cX9_keeps 24 = .ok (.iadd, 1) := by decide +kernel
theorem dX9_keeps_25 : decode cX9_keeps 25 = .ok (.iaload, 1) := by decide +kernel
theorem dX9_keeps_26 : decode cX9_keeps 26 = .ok (.ifCond .ne 7, 3) := by decide +kernel
theorem dX9_keeps_29 : decode cX9_keeps 29 = .ok (.iconst 1, 1) := by decide +kernel
theorem dX9_keeps_30 : decode cX9_keeps 30 = .ok (.goto 4, 3) := by decide +kernel
theorem dX9_keeps_33 : decode cX9_keeps 33 = .ok (.iconst 0, 1) := by decide +kernel
theorem dX9_keeps_34 : decode cX9_keeps 34 = .ok (.ireturn, 1) := by decide +kernel
theorem dX9_breaks_0 : decode cX9_breaks 0 = .ok (.iload_n 1, 1) := by decide +kernel
theorem dX9_breaks_1 : decode cX9_breaks 1 = .ok (.iload_n 2, 1) := by decide +kernel
theorem dX9_breaks_2 : decode cX9_breaks 2 = .ok (.invokestatic 178, 3) := by decide +kernel
theorem dX9_breaks_5 : decode cX9_breaks 5 = .ok (.ifCond .ne 6, 3) := by decide +kernel
theorem dX9_breaks_8 : decode cX9_breaks 8 = .ok (.bipush (-2), 2) := by decide +kernel
theorem dX9_breaks_10 : decode cX9_breaks 10 = .ok (.ireturn, 1) := by decide +kernel
theorem dX9_breaks_11 : decode cX9_breaks 11 = .ok (.aload_n 0, 1) := by decide +kernel
theorem dX9_breaks_12 : decode cX9_breaks 12 = .ok (.invokevirtual 175, 3) := by decide +kernel
theorem dX9_breaks_15 : decode cX9_breaks 15 = .ok (.iconst 0, 1) := by decide +kernel
theorem dX9_breaks_16 : decode cX9_breaks 16 = .ok (.istore_n 3, 1) := by decide +kernel
theorem dX9_breaks_17 : decode cX9_breaks 17 = .ok (.iload_n 3, 1) := by decide +kernel
theorem dX9_breaks_18 : decode cX9_breaks 18 = .ok (.aload_n 0, 1) := by decide +kernel
theorem dX9_breaks_19 : decode cX9_breaks 19 = .ok (.getfield 113, 3) := by decide +kernel
theorem dX9_breaks_22 : decode cX9_breaks 22 = .ok (.if_icmp .ge 30, 3) := by decide +kernel
theorem dX9_breaks_25 : decode cX9_breaks 25 = .ok (.aload_n 0, 1) := by decide +kernel
theorem dX9_breaks_26 : decode cX9_breaks 26 = .ok (.getfield 39, 3) := by decide +kernel
theorem dX9_breaks_29 : decode cX9_breaks 29 = .ok (.iload_n 1, 1) := by decide +kernel
theorem dX9_breaks_30 : decode cX9_breaks 30 = .ok (.invokestatic 127, 3) := by decide +kernel
theorem dX9_breaks_33 : decode cX9_breaks 33 = .ok (.iload_n 2, 1) := by decide +kernel
theorem dX9_breaks_34 : decode cX9_breaks 34 = .ok (.iadd, 1) := by decide +kernel
theorem dX9_breaks_35 : decode cX9_breaks 35 = .ok (.iaload, 1) := by decide +kernel
theorem dX9_breaks_36 : decode cX9_breaks 36 = .ok (.iload_n 3, 1) := by decide +kernel
theorem dX9_breaks_37 : decode cX9_breaks 37 = .ok (.ishr, 1) := by decide +kernel
theorem dX9_breaks_38 : decode cX9_breaks 38 = .ok (.iconst 1, 1) := by decide +kernel
theorem dX9_breaks_39 : decode cX9_breaks 39 = .ok (.iand, 1) := by decide +kernel
theorem dX9_breaks_40 : decode cX9_breaks 40 = .ok (.iconst 1, 1) := by decide +kernel
theorem dX9_breaks_41 : decode cX9_breaks 41 = .ok (.if_icmp .ne 5, 3) := by decide +kernel
theorem dX9_breaks_44 : decode cX9_breaks 44 = .ok (.iload_n 3, 1) := by decide +kernel
theorem dX9_breaks_45 : decode cX9_breaks 45 = .ok (.ireturn, 1) := by decide +kernel
theorem dX9_breaks_46 : decode cX9_breaks 46 = .ok (.iinc 3 1, 3) := by decide +kernel
theorem dX9_breaks_49 : decode cX9_breaks 49 = .ok (.goto (-32), 3) := by decide +kernel
theorem dX9_breaks_52 : decode cX9_breaks 52 = .ok (.bipush (-9), 2) := by decide +kernel
theorem dX9_breaks_54 : decode cX9_breaks 54 = .ok (.ireturn, 1) := by decide +kernel
theorem dX9_plain_0 : decode cX9_plain 0 = .ok (.iload_n 1, 1) := by decide +kernel
theorem dX9_plain_1 : decode cX9_plain 1 = .ok (.iload_n 2, 1) := by decide +kernel
theorem dX9_plain_2 : decode cX9_plain 2 = .ok (.invokestatic 178, 3) := by decide +kernel
theorem dX9_plain_5 : decode cX9_plain 5 = .ok (.ifCond .ne 6, 3) := by decide +kernel
theorem dX9_plain_8 : decode cX9_plain 8 = .ok (.bipush (-2), 2) := by decide +kernel
theorem dX9_plain_10 : decode cX9_plain 10 = .ok (.ireturn, 1) := by decide +kernel
theorem dX9_plain_11 : decode cX9_plain 11 = .ok (.aload_n 0, 1) := by decide +kernel
theorem dX9_plain_12 : decode cX9_plain 12 = .ok (.iload_n 1, 1) := by decide +kernel
theorem dX9_plain_13 : decode cX9_plain 13 = .ok (.invokestatic 127, 3) := by decide +kernel
theorem dX9_plain_16 : decode cX9_plain 16 = .ok (.iload_n 2, 1) := by decide +kernel
theorem dX9_plain_17 : decode cX9_plain 17 = .ok (.iadd, 1) := by decide +kernel
theorem dX9_plain_18 : decode cX9_plain 18 = .ok (.invokevirtual 138, 3) := by decide +kernel
theorem dX9_plain_21 : decode cX9_plain 21 = .ok (.aload_n 0, 1) := by decide +kernel
theorem dX9_plain_22 : decode cX9_plain 22 = .ok (.invokevirtual 160, 3) := by decide +kernel
theorem dX9_plain_25 : decode cX9_plain 25 = .ok (.ireturn, 1) := by decide +kernel
theorem dX9_onList_0 : decode cX9_onList 0 = .ok (.aload_n 0, 1) := by decide +kernel
theorem dX9_onList_1 : decode cX9_onList 1 = .ok (.getfield 157, 3) := by decide +kernel
theorem dX9_onList_4 : decode cX9_onList 4 = .ok (.bipush 40, 2) := by decide +kernel
theorem dX9_onList_6 : decode cX9_onList 6 = .ok (.if_icmp .ge 10, 3) := by decide +kernel
theorem dX9_onList_9 : decode cX9_onList 9 = .ok (.aload_n 0, 1) := by decide +kernel
theorem dX9_onList_10 : decode cX9_onList 10 = .ok (.getfield 157, 3) := by decide +kernel
theorem dX9_onList_13 : decode cX9_onList 13 = .ok (.goto 5, 3) := by decide +kernel
theorem dX9_onList_16 : decode cX9_onList 16 = .ok (.bipush 40, 2) := by decide +kernel
theorem dX9_onList_18 : decode cX9_onList 18 = .ok (.ireturn, 1) := by decide +kernel
theorem dX9_pairs_0 : decode cX9_pairs 0 = .ok (.iconst 0, 1) := by decide +kernel
theorem dX9_pairs_1 : decode cX9_pairs 1 = .ok (.istore_n 1, 1) := by decide +kernel
theorem dX9_pairs_2 : decode cX9_pairs 2 = .ok (.iconst 0, 1) := by decide +kernel
theorem dX9_pairs_3 : decode cX9_pairs 3 = .ok (.istore_n 2, 1) := by decide +kernel
theorem dX9_pairs_4 : decode cX9_pairs 4 = .ok (.iload_n 2, 1) := by decide +kernel
theorem dX9_pairs_5 : decode cX9_pairs 5 = .ok (.aload_n 0, 1) := by decide +kernel
theorem dX9_pairs_6 : decode cX9_pairs 6 = .ok (.invokevirtual 181, 3) := by decide +kernel
theorem dX9_pairs_9 : decode cX9_pairs 9 = .ok (.if_icmp .ge 32, 3) := by decide +kernel
theorem dX9_pairs_12 : decode cX9_pairs 12 = .ok (.aload_n 0, 1) := by decide +kernel
theorem dX9_pairs_13 : decode cX9_pairs 13 = .ok (.getfield 48, 3) := by decide +kernel
theorem dX9_pairs_16 : decode cX9_pairs 16 = .ok (.iload_n 2, 1) := by decide +kernel
theorem dX9_pairs_17 : decode cX9_pairs 17 = .ok (.iaload, 1) := by decide +kernel
theorem dX9_pairs_18 : decode cX9_pairs 18 = .ok (.invokestatic 120, 3) := by decide +kernel
theorem dX9_pairs_21 : decode cX9_pairs 21 = .ok (.istore_n 3, 1) := by decide +kernel
theorem dX9_pairs_22 : decode cX9_pairs 22 = .ok (.aload_n 0, 1) := by decide +kernel
theorem dX9_pairs_23 : decode cX9_pairs 23 = .ok (.getfield 51, 3) := by decide +kernel
theorem dX9_pairs_26 : decode cX9_pairs 26 = .ok (.iload_n 2, 1) := by decide +kernel
theorem dX9_pairs_27 : decode cX9_pairs 27 = .ok (.iload_n 1, 1) := by decide +kernel
theorem dX9_pairs_28 : decode cX9_pairs 28 = .ok (.iastore, 1) := by decide +kernel
theorem dX9_pairs_29 : decode cX9_pairs 29 = .ok (.iload_n 1, 1) := by decide +kernel
theorem dX9_pairs_30 : decode cX9_pairs 30 = .ok (.iload_n 3, 1) := by decide +kernel
theorem dX9_pairs_31 : decode cX9_pairs 31 = .ok (.iload_n 3, 1) := by decide +kernel
theorem dX9_pairs_32 : decode cX9_pairs 32 = .ok (.imul, 1) := by decide +kernel
theorem dX9_pairs_33 : decode cX9_pairs 33 = .ok (.iadd, 1) := by decide +kernel
theorem dX9_pairs_34 : decode cX9_pairs 34 = .ok (.istore_n 1, 1) := by decide +kernel
theorem dX9_pairs_35 : decode cX9_pairs 35 = .ok (.iinc 2 1, 3) := by decide +kernel
theorem dX9_pairs_38 : decode cX9_pairs 38 = .ok (.goto (-34), 3) := by decide +kernel
theorem dX9_pairs_41 : decode cX9_pairs 41 = .ok (.aload_n 0, 1) := by decide +kernel
theorem dX9_pairs_42 : decode cX9_pairs 42 = .ok (.getfield 51, 3) := by decide +kernel
theorem dX9_pairs_45 : decode cX9_pairs 45 = .ok (.aload_n 0, 1) := by decide +kernel
theorem dX9_pairs_46 : decode cX9_pairs 46 = .ok (.invokevirtual 181, 3) := by decide +kernel
theorem dX9_pairs_49 : decode cX9_pairs 49 = .ok (.iload_n 1, 1) := by decide +kernel
theorem dX9_pairs_50 : decode cX9_pairs 50 = .ok (.iastore, 1) := by decide +kernel
theorem dX9_pairs_51 : decode cX9_pairs 51 = .ok (.iload_n 1, 1) := by decide +kernel
theorem dX9_pairs_52 : decode cX9_pairs 52 = .ok (.ireturn, 1) := by decide +kernel
theorem dX9_list_0 : decode cX9_list 0 = .ok (.iload_n 1, 1) := by decide +kernel
theorem dX9_list_1 : decode cX9_list 1 = .ok (.i2l, 1) := by decide +kernel
theorem dX9_list_2 : decode cX9_list 2 = .ok (.lconst 0, 1) := by decide +kernel
theorem dX9_list_3 : decode cX9_list 3 = .ok (.lconst 1, 1) := by decide +kernel
theorem dX9_list_4 : decode cX9_list 4 = .ok (.invokestatic 105, 3) := by decide +kernel
theorem dX9_list_7 : decode cX9_list 7 = .ok (.ifCond .ne 6, 3) := by decide +kernel
theorem dX9_list_10 : decode cX9_list 10 = .ok (.bipush (-2), 2) := by decide +kernel
theorem dX9_list_12 : decode cX9_list 12 = .ok (.ireturn, 1) := by decide +kernel
theorem dX9_list_13 : decode cX9_list 13 = .ok (.aload_n 0, 1) := by decide +kernel
theorem dX9_list_14 : decode cX9_list 14 = .ok (.invokevirtual 175, 3) := by decide +kernel
theorem dX9_list_17 : decode cX9_list 17 = .ok (.iload_n 1, 1) := by decide +kernel
theorem dX9_list_18 : decode cX9_list 18 = .ok (.ifCond .ne 10, 3) := by decide +kernel
theorem dX9_list_21 : decode cX9_list 21 = .ok (.aload_n 0, 1) := by decide +kernel
theorem dX9_list_22 : decode cX9_list 22 = .ok (.invokevirtual 181, 3) := by decide +kernel
theorem dX9_list_25 : decode cX9_list 25 = .ok (.goto 7, 3) := by decide +kernel
theorem dX9_list_28 : decode cX9_list 28 = .ok (.aload_n 0, 1) := by decide +kernel
theorem dX9_list_29 : decode cX9_list 29 = .ok (.invokevirtual 184, 3) := by decide +kernel
theorem dX9_list_32 : decode cX9_list 32 = .ok (.ireturn, 1) := by decide +kernel
theorem dX9_world_0 : decode cX9_world 0 = .ok (.aload_n 0, 1) := by decide +kernel
theorem dX9_world_1 : decode cX9_world 1 = .ok (.invokevirtual 175, 3) := by decide +kernel
theorem dX9_world_4 : decode cX9_world 4 = .ok (.iload_n 1, 1) := by decide +kernel
theorem dX9_world_5 : decode cX9_world 5 = .ok (.i2l, 1) := by decide +kernel
theorem dX9_world_6 : decode cX9_world 6 = .ok (.lconst 0, 1) := by decide +kernel
theorem dX9_world_7 : decode cX9_world 7 = .ok (.aload_n 0, 1) := by decide +kernel
theorem dX9_world_8 : decode cX9_world 8 = .ok (.invokevirtual 181, 3) := by decide +kernel
theorem dX9_world_11 : decode cX9_world 11 = .ok (.iconst 1, 1) := by decide +kernel
theorem dX9_world_12 : decode cX9_world 12 = .ok (.isub, 1) := by decide +kernel
theorem dX9_world_13 : decode cX9_world 13 = .ok (.i2l, 1) := by decide +kernel
theorem dX9_world_14 : decode cX9_world 14 = .ok (.invokestatic 105, 3) := by decide +kernel
theorem dX9_world_17 : decode cX9_world 17 = .ok (.ifCond .ne 5, 3) := by decide +kernel
theorem dX9_world_20 : decode cX9_world 20 = .ok (.iconst (-1), 1) := by decide +kernel
theorem dX9_world_21 : decode cX9_world 21 = .ok (.ireturn, 1) := by decide +kernel
theorem dX9_world_22 : decode cX9_world 22 = .ok (.aload_n 0, 1) := by decide +kernel
theorem dX9_world_23 : decode cX9_world 23 = .ok (.getfield 48, 3) := by decide +kernel
theorem dX9_world_26 : decode cX9_world 26 = .ok (.iload_n 1, 1) := by decide +kernel
theorem dX9_world_27 : decode cX9_world 27 = .ok (.iaload, 1) := by decide +kernel
theorem dX9_world_28 : decode cX9_world 28 = .ok (.invokestatic 120, 3) := by decide +kernel
theorem dX9_world_31 : decode cX9_world 31 = .ok (.istore_n 3, 1) := by decide +kernel
theorem dX9_world_32 : decode cX9_world 32 = .ok (.iload_n 2, 1) := by decide +kernel
theorem dX9_world_33 : decode cX9_world 33 = .ok (.ifCond .ne 7, 3) := by decide +kernel
theorem dX9_world_36 : decode cX9_world 36 = .ok (.iload_n 3, 1) := by decide +kernel
theorem dX9_world_37 : decode cX9_world 37 = .ok (.goto 24, 3) := by decide +kernel
theorem dX9_world_40 : decode cX9_world 40 = .ok (.iload_n 2, 1) := by decide +kernel
theorem dX9_world_41 : decode cX9_world 41 = .ok (.iconst 1, 1) := by decide +kernel
theorem dX9_world_42 : decode cX9_world 42 = .ok (.if_icmp .ne 17, 3) := by decide +kernel
theorem dX9_world_45 : decode cX9_world 45 = .ok (.aload_n 0, 1) := by decide +kernel
theorem dX9_world_46 : decode cX9_world 46 = .ok (.getfield 48, 3) := by decide +kernel
theorem dX9_world_49 : decode cX9_world 49 = .ok (.iload_n 1, 1) := by decide +kernel
theorem dX9_world_50 : decode cX9_world 50 = .ok (.iaload, 1) := by decide +kernel
theorem dX9_world_51 : decode cX9_world 51 = .ok (.iload_n 3, 1) := by decide +kernel
theorem dX9_world_52 : decode cX9_world 52 = .ok (.invokestatic 127, 3) := by decide +kernel
theorem dX9_world_55 : decode cX9_world 55 = .ok (.isub, 1) := by decide +kernel
theorem dX9_world_56 : decode cX9_world 56 = .ok (.goto 5, 3) := by decide +kernel
theorem dX9_world_59 : decode cX9_world 59 = .ok (.bipush (-2), 2) := by decide +kernel
theorem dX9_world_61 : decode cX9_world 61 = .ok (.ireturn, 1) := by decide +kernel
theorem dX9_isNotion_0 : decode cX9_isNotion 0 = .ok (.iload_n 1, 1) := by decide +kernel
theorem dX9_isNotion_1 : decode cX9_isNotion 1 = .ok (.i2l, 1) := by decide +kernel
theorem dX9_isNotion_2 : decode cX9_isNotion 2 = .ok (.lconst 0, 1) := by decide +kernel
theorem dX9_isNotion_3 : decode cX9_isNotion 3 = .ok (.aload_n 0, 1) := by decide +kernel
theorem dX9_isNotion_4 : decode cX9_isNotion 4 = .ok (.getfield 187, 3) := by decide +kernel
theorem dX9_isNotion_7 : decode cX9_isNotion 7 = .ok (.iconst 1, 1) := by decide +kernel
theorem dX9_isNotion_8 : decode cX9_isNotion 8 = .ok (.isub, 1) := by decide +kernel
theorem dX9_isNotion_9 : decode cX9_isNotion 9 = .ok (.i2l, 1) := by decide +kernel
theorem dX9_isNotion_10 : decode cX9_isNotion 10 = .ok (.invokestatic 105, 3) := by decide +kernel
theorem dX9_isNotion_13 : decode cX9_isNotion 13 = .ok (.ireturn, 1) := by decide +kernel
theorem dX9_make_0 : decode cX9_make 0 = .ok (.iload_n 1, 1) := by decide +kernel
theorem dX9_make_1 : decode cX9_make 1 = .ok (.i2l, 1) := by decide +kernel
theorem dX9_make_2 : decode cX9_make 2 = .ok (.lconst 0, 1) := by decide +kernel
theorem dX9_make_3 : decode cX9_make 3 = .ok (.ldc2_w 190, 3) := by decide +kernel
theorem dX9_make_6 : decode cX9_make 6 = .ok (.invokestatic 105, 3) := by decide +kernel
theorem dX9_make_9 : decode cX9_make 9 = .ok (.ifCond .ne 6, 3) := by decide +kernel
theorem dX9_make_12 : decode cX9_make 12 = .ok (.bipush (-2), 2) := by decide +kernel
theorem dX9_make_14 : decode cX9_make 14 = .ok (.ireturn, 1) := by decide +kernel
theorem dX9_make_15 : decode cX9_make 15 = .ok (.iload_n 1, 1) := by decide +kernel
theorem dX9_make_16 : decode cX9_make 16 = .ok (.ifCond .ne 27, 3) := by decide +kernel
theorem dX9_make_19 : decode cX9_make 19 = .ok (.aload_n 0, 1) := by decide +kernel
theorem dX9_make_20 : decode cX9_make 20 = .ok (.iload_n 2, 1) := by decide +kernel
theorem dX9_make_21 : decode cX9_make 21 = .ok (.invokevirtual 109, 3) := by decide +kernel
theorem dX9_make_24 : decode cX9_make 24 = .ok (.ifCond .eq 15, 3) := by decide +kernel
theorem dX9_make_27 : decode cX9_make 27 = .ok (.aload_n 0, 1) := by decide +kernel
theorem dX9_make_28 : decode cX9_make 28 = .ok (.iload_n 3, 1) := by decide +kernel
theorem dX9_make_29 : decode cX9_make 29 = .ok (.invokevirtual 109, 3) := by decide +kernel
theorem dX9_make_32 : decode cX9_make 32 = .ok (.ifCond .eq 7, 3) := by decide +kernel
theorem dX9_make_35 : decode cX9_make 35 = .ok (.iconst 1, 1) := by decide +kernel
theorem dX9_make_36 : decode cX9_make 36 = .ok (.goto 33, 3) := by decide +kernel
theorem dX9_make_39 : decode cX9_make 39 = .ok (.iconst 0, 1) := by decide +kernel
theorem dX9_make_40 : decode cX9_make 40 = .ok (.goto 29, 3) := by decide +kernel
theorem dX9_make_43 : decode cX9_make 43 = .ok (.aload_n 0, 1) := by decide +kernel
theorem dX9_make_44 : decode cX9_make 44 = .ok (.iload_n 2, 1) := by decide +kernel
theorem dX9_make_45 : decode cX9_make 45 = .ok (.invokevirtual 192, 3) := by decide +kernel
theorem dX9_make_48 : decode cX9_make 48 = .ok (.ifCond .eq 20, 3) := by decide +kernel
theorem dX9_make_51 : decode cX9_make 51 = .ok (.iload_n 1, 1) := by decide +kernel
theorem dX9_make_52 : decode cX9_make 52 = .ok (.iconst 2, 1) := by decide +kernel
theorem dX9_make_53 : decode cX9_make 53 = .ok (.if_icmp .ne 11, 3) := by decide +kernel
theorem dX9_make_56 : decode cX9_make 56 = .ok (.aload_n 0, 1) := by decide +kernel
theorem dX9_make_57 : decode cX9_make 57 = .ok (.iload_n 3, 1) := by decide +kernel
theorem dX9_make_58 : decode cX9_make 58 = .ok (.invokevirtual 192, 3) := by decide +kernel
theorem dX9_make_61 : decode cX9_make 61 = .ok (.ifCond .eq 7, 3) := by decide +kernel
theorem dX9_make_64 : decode cX9_make 64 = .ok (.iconst 1, 1) := by decide +kernel
theorem dX9_make_65 : decode cX9_make 65 = .ok (.goto 4, 3) := by decide +kernel
theorem dX9_make_68 : decode cX9_make 68 = .ok (.iconst 0, 1) := by decide +kernel
theorem dX9_make_69 : decode cX9_make 69 = .ok (.istore 4, 2) := by decide +kernel
theorem dX9_make_71 : decode cX9_make 71 = .ok (.iload 4, 2) := by decide +kernel
theorem dX9_make_73 : decode cX9_make 73 = .ok (.ifCond .ne 5, 3) := by decide +kernel
theorem dX9_make_76 : decode cX9_make 76 = .ok (.iconst (-1), 1) := by decide +kernel
theorem dX9_make_77 : decode cX9_make 77 = .ok (.ireturn, 1) := by decide +kernel
theorem dX9_make_78 : decode cX9_make 78 = .ok (.aload_n 0, 1) := by decide +kernel
theorem dX9_make_79 : decode cX9_make 79 = .ok (.getfield 187, 3) := by decide +kernel
theorem dX9_make_82 : decode cX9_make 82 = .ok (.bipush 12, 2) := by decide +kernel
theorem dX9_make_84 : decode cX9_make 84 = .ok (.if_icmp .ne 6, 3) := by decide +kernel
theorem dX9_make_87 : decode cX9_make 87 = .ok (.bipush (-4), 2) := by decide +kernel
theorem dX9_make_89 : decode cX9_make 89 = .ok (.ireturn, 1) := by decide +kernel
theorem dX9_make_90 : decode cX9_make 90 = .ok (.aload_n 0, 1) := by decide +kernel
theorem dX9_make_91 : decode cX9_make 91 = .ok (.aload_n 0, 1) := by decide +kernel
theorem dX9_make_92 : decode cX9_make 92 = .ok (.getfield 187, 3) := by decide +kernel
theorem dX9_make_95 : decode cX9_make 95 = .ok (.iload_n 1, 1) := by decide +kernel
theorem dX9_make_96 : decode cX9_make 96 = .ok (.iload_n 2, 1) := by decide +kernel
theorem dX9_make_97 : decode cX9_make 97 = .ok (.iload_n 3, 1) := by decide +kernel
theorem dX9_make_98 : decode cX9_make 98 = .ok (.invokevirtual 195, 3) := by decide +kernel
theorem dX9_make_101 : decode cX9_make 101 = .ok (.aload_n 0, 1) := by decide +kernel
theorem dX9_make_102 : decode cX9_make 102 = .ok (.getfield 63, 3) := by decide +kernel
theorem dX9_make_105 : decode cX9_make 105 = .ok (.aload_n 0, 1) := by decide +kernel
theorem dX9_make_106 : decode cX9_make 106 = .ok (.getfield 187, 3) := by decide +kernel
theorem dX9_make_109 : decode cX9_make 109 = .ok (.iconst 0, 1) := by decide +kernel
theorem dX9_make_110 : decode cX9_make 110 = .ok (.bastore, 1) := by decide +kernel
theorem dX9_make_111 : decode cX9_make 111 = .ok (.aload_n 0, 1) := by decide +kernel
theorem dX9_make_112 : decode cX9_make 112 = .ok (.dup, 1) := by decide +kernel
theorem dX9_make_113 : decode cX9_make 113 = .ok (.getfield 187, 3) := by decide +kernel
theorem dX9_make_116 : decode cX9_make 116 = .ok (.iconst 1, 1) := by decide +kernel
theorem dX9_make_117 : decode cX9_make 117 = .ok (.iadd, 1) := by decide +kernel
theorem dX9_make_118 : decode cX9_make 118 = .ok (.putfield 187, 3) := by decide +kernel
theorem dX9_make_121 : decode cX9_make 121 = .ok (.aload_n 0, 1) := by decide +kernel
theorem dX9_make_122 : decode cX9_make 122 = .ok (.getfield 187, 3) := by decide +kernel
theorem dX9_make_125 : decode cX9_make 125 = .ok (.iconst 1, 1) := by decide +kernel
theorem dX9_make_126 : decode cX9_make 126 = .ok (.isub, 1) := by decide +kernel
theorem dX9_make_127 : decode cX9_make 127 = .ok (.ireturn, 1) := by decide +kernel
theorem dX9_set_0 : decode cX9_set 0 = .ok (.aload_n 0, 1) := by decide +kernel
theorem dX9_set_1 : decode cX9_set 1 = .ok (.getfield 54, 3) := by decide +kernel
theorem dX9_set_4 : decode cX9_set 4 = .ok (.iload_n 1, 1) := by decide +kernel
theorem dX9_set_5 : decode cX9_set 5 = .ok (.iload_n 2, 1) := by decide +kernel
theorem dX9_set_6 : decode cX9_set 6 = .ok (.iastore, 1) := by decide +kernel
theorem dX9_set_7 : decode cX9_set 7 = .ok (.aload_n 0, 1) := by decide +kernel
theorem dX9_set_8 : decode cX9_set 8 = .ok (.getfield 57, 3) := by decide +kernel
theorem dX9_set_11 : decode cX9_set 11 = .ok (.iload_n 1, 1) := by decide +kernel
theorem dX9_set_12 : decode cX9_set 12 = .ok (.iload_n 3, 1) := by decide +kernel
theorem dX9_set_13 : decode cX9_set 13 = .ok (.iastore, 1) := by decide +kernel
theorem dX9_set_14 : decode cX9_set 14 = .ok (.aload_n 0, 1) := by decide +kernel
theorem dX9_set_15 : decode cX9_set 15 = .ok (.getfield 60, 3) := by decide +kernel
theorem dX9_set_18 : decode cX9_set 18 = .ok (.iload_n 1, 1) := by decide +kernel
theorem dX9_set_19 : decode cX9_set 19 = .ok (.iload 4, 2) := by decide +kernel
theorem dX9_set_21 : decode cX9_set 21 = .ok (.iastore, 1) := by decide +kernel
theorem dX9_set_22 : decode cX9_set 22 = .ok (.return_, 1) := by decide +kernel
theorem dX9_isSo_0 : decode cX9_isSo 0 = .ok (.bipush 9, 2) := by decide +kernel
theorem dX9_isSo_2 : decode cX9_isSo 2 = .ok (.aload_n 0, 1) := by decide +kernel
theorem dX9_isSo_3 : decode cX9_isSo 3 = .ok (.getfield 57, 3) := by decide +kernel
theorem dX9_isSo_6 : decode cX9_isSo 6 = .ok (.iload_n 1, 1) := by decide +kernel
theorem dX9_isSo_7 : decode cX9_isSo 7 = .ok (.iaload, 1) := by decide +kernel
theorem dX9_isSo_8 : decode cX9_isSo 8 = .ok (.imul, 1) := by decide +kernel
theorem dX9_isSo_9 : decode cX9_isSo 9 = .ok (.istore 4, 2) := by decide +kernel
theorem dX9_isSo_11 : decode cX9_isSo 11 = .ok (.iconst 0, 1) := by decide +kernel
theorem dX9_isSo_12 : decode cX9_isSo 12 = .ok (.istore 5, 2) := by decide +kernel
theorem dX9_isSo_14 : decode cX9_isSo 14 = .ok (.iconst 1, 1) := by decide +kernel
theorem dX9_isSo_15 : decode cX9_isSo 15 = .ok (.istore 6, 2) := by decide +kernel
theorem dX9_isSo_17 : decode cX9_isSo 17 = .ok (.iconst 0, 1) := by decide +kernel
theorem dX9_isSo_18 : decode cX9_isSo 18 = .ok (.istore 7, 2) := by decide +kernel
theorem dX9_isSo_20 : decode cX9_isSo 20 = .ok (.iload 7, 2) := by decide +kernel
theorem dX9_isSo_22 : decode cX9_isSo 22 = .ok (.aload_n 0, 1) := by decide +kernel
theorem dX9_isSo_23 : decode cX9_isSo 23 = .ok (.getfield 124, 3) := by decide +kernel
theorem dX9_isSo_26 : decode cX9_isSo 26 = .ok (.if_icmp .ge 94, 3) := by decide +kernel
theorem dX9_isSo_29 : decode cX9_isSo 29 = .ok (.aload_n 0, 1) := by decide +kernel
theorem dX9_isSo_30 : decode cX9_isSo 30 = .ok (.getfield 54, 3) := by decide +kernel
theorem dX9_isSo_33 : decode cX9_isSo 33 = .ok (.iload_n 1, 1) := by decide +kernel
theorem dX9_isSo_34 : decode cX9_isSo 34 = .ok (.iaload, 1) := by decide +kernel
theorem dX9_isSo_35 : decode cX9_isSo 35 = .ok (.ifCond .ne 26, 3) := by decide +kernel
theorem dX9_isSo_38 : decode cX9_isSo 38 = .ok (.aload_n 0, 1) := by decide +kernel
theorem dX9_isSo_39 : decode cX9_isSo 39 = .ok (.aload_n 0, 1) := by decide +kernel
theorem dX9_isSo_40 : decode cX9_isSo 40 = .ok (.getfield 57, 3) := by decide +kernel
theorem dX9_isSo_43 : decode cX9_isSo 43 = .ok (.iload_n 1, 1) := by decide +kernel
theorem dX9_isSo_44 : decode cX9_isSo 44 = .ok (.iaload, 1) := by decide +kernel
theorem dX9_isSo_45 : decode cX9_isSo 45 = .ok (.aload_n 0, 1) := by decide +kernel
theorem dX9_isSo_46 : decode cX9_isSo 46 = .ok (.getfield 60, 3) := by decide +kernel
theorem dX9_isSo_49 : decode cX9_isSo 49 = .ok (.iload_n 1, 1) := by decide +kernel
theorem dX9_isSo_50 : decode cX9_isSo 50 = .ok (.iaload, 1) := by decide +kernel
theorem dX9_isSo_51 : decode cX9_isSo 51 = .ok (.iload_n 2, 1) := by decide +kernel
theorem dX9_isSo_52 : decode cX9_isSo 52 = .ok (.iload_n 3, 1) := by decide +kernel
theorem dX9_isSo_53 : decode cX9_isSo 53 = .ok (.iload 7, 2) := by decide +kernel
theorem dX9_isSo_55 : decode cX9_isSo 55 = .ok (.invokevirtual 130, 3) := by decide +kernel
theorem dX9_isSo_58 : decode cX9_isSo 58 = .ok (.goto 20, 3) := by decide +kernel
theorem dX9_isSo_61 : decode cX9_isSo 61 = .ok (.aload_n 0, 1) := by decide +kernel
theorem dX9_isSo_62 : decode cX9_isSo 62 = .ok (.getfield 66, 3) := by decide +kernel
theorem dX9_isSo_65 : decode cX9_isSo 65 = .ok (.iload 4, 2) := by decide +kernel
theorem dX9_isSo_67 : decode cX9_isSo 67 = .ok (.aload_n 0, 1) := by decide +kernel
theorem dX9_isSo_68 : decode cX9_isSo 68 = .ok (.getfield 124, 3) := by decide +kernel
theorem dX9_isSo_71 : decode cX9_isSo 71 = .ok (.iload_n 2, 1) := by decide +kernel
theorem dX9_isSo_72 : decode cX9_isSo 72 = .ok (.imul, 1) := by decide +kernel
theorem dX9_isSo_73 : decode cX9_isSo 73 = .ok (.iadd, 1) := by decide +kernel
theorem dX9_isSo_74 : decode cX9_isSo 74 = .ok (.iload 7, 2) := by decide +kernel
theorem dX9_isSo_76 : decode cX9_isSo 76 = .ok (.iadd, 1) := by decide +kernel
theorem dX9_isSo_77 : decode cX9_isSo 77 = .ok (.baload, 1) := by decide +kernel
theorem dX9_isSo_78 : decode cX9_isSo 78 = .ok (.istore 8, 2) := by decide +kernel
theorem dX9_isSo_80 : decode cX9_isSo 80 = .ok (.iload 5, 2) := by decide +kernel
theorem dX9_isSo_82 : decode cX9_isSo 82 = .ok (.ifCond .ne 8, 3) := by decide +kernel
theorem dX9_isSo_85 : decode cX9_isSo 85 = .ok (.iload 8, 2) := by decide +kernel
theorem dX9_isSo_87 : decode cX9_isSo 87 = .ok (.ifCond .eq 7, 3) := by decide +kernel
theorem dX9_isSo_90 : decode cX9_isSo 90 = .ok (.iconst 1, 1) := by decide +kernel
theorem dX9_isSo_91 : decode cX9_isSo 91 = .ok (.goto 4, 3) := by decide +kernel
theorem dX9_isSo_94 : decode cX9_isSo 94 = .ok (.iconst 0, 1) := by decide +kernel
theorem dX9_isSo_95 : decode cX9_isSo 95 = .ok (.istore 5, 2) := by decide +kernel
theorem dX9_isSo_97 : decode cX9_isSo 97 = .ok (.iload 6, 2) := by decide +kernel
theorem dX9_isSo_99 : decode cX9_isSo 99 = .ok (.ifCond .eq 12, 3) := by decide +kernel
theorem dX9_isSo_102 : decode cX9_isSo 102 = .ok (.iload 8, 2) := by decide +kernel
theorem dX9_isSo_104 : decode cX9_isSo 104 = .ok (.ifCond .eq 7, 3) := by decide +kernel
theorem dX9_isSo_107 : decode cX9_isSo 107 = .ok (.iconst 1, 1) := by decide +kernel
theorem dX9_isSo_108 : decode cX9_isSo 108 = .ok (.goto 4, 3) := by decide +kernel
theorem dX9_isSo_111 : decode cX9_isSo 111 = .ok (.iconst 0, 1) := by decide +kernel
theorem dX9_isSo_112 : decode cX9_isSo 112 = .ok (.istore 6, 2) := by decide +kernel
theorem dX9_isSo_114 : decode cX9_isSo 114 = .ok (.iinc 7 1, 3) := by decide +kernel
theorem dX9_isSo_117 : decode cX9_isSo 117 = .ok (.goto (-97), 3) := by decide +kernel
theorem dX9_isSo_120 : decode cX9_isSo 120 = .ok (.aload_n 0, 1) := by decide +kernel
theorem dX9_isSo_121 : decode cX9_isSo 121 = .ok (.getfield 54, 3) := by decide +kernel
theorem dX9_isSo_124 : decode cX9_isSo 124 = .ok (.iload_n 1, 1) := by decide +kernel
theorem dX9_isSo_125 : decode cX9_isSo 125 = .ok (.iaload, 1) := by decide +kernel
theorem dX9_isSo_126 : decode cX9_isSo 126 = .ok (.tableswitch 151 1 6 #[38, 63, 151, 114, 117, 134], 38) := by decide +kernel
theorem dX9_isSo_164 : decode cX9_isSo 164 = .ok (.aload_n 0, 1) := by decide +kernel
theorem dX9_isSo_165 : decode cX9_isSo 165 = .ok (.getfield 66, 3) := by decide +kernel
theorem dX9_isSo_168 : decode cX9_isSo 168 = .ok (.iload 4, 2) := by decide +kernel
theorem dX9_isSo_170 : decode cX9_isSo 170 = .ok (.aload_n 0, 1) := by decide +kernel
theorem dX9_isSo_171 : decode cX9_isSo 171 = .ok (.getfield 124, 3) := by decide +kernel
theorem dX9_isSo_174 : decode cX9_isSo 174 = .ok (.iload_n 2, 1) := by decide +kernel
theorem dX9_isSo_175 : decode cX9_isSo 175 = .ok (.imul, 1) := by decide +kernel
theorem dX9_isSo_176 : decode cX9_isSo 176 = .ok (.iadd, 1) := by decide +kernel
theorem dX9_isSo_177 : decode cX9_isSo 177 = .ok (.iload_n 3, 1) := by decide +kernel
theorem dX9_isSo_178 : decode cX9_isSo 178 = .ok (.iadd, 1) := by decide +kernel
theorem dX9_isSo_179 : decode cX9_isSo 179 = .ok (.baload, 1) := by decide +kernel
theorem dX9_isSo_180 : decode cX9_isSo 180 = .ok (.ifCond .ne 7, 3) := by decide +kernel
theorem dX9_isSo_183 : decode cX9_isSo 183 = .ok (.iconst 1, 1) := by decide +kernel
theorem dX9_isSo_184 : decode cX9_isSo 184 = .ok (.goto 4, 3) := by decide +kernel
theorem dX9_isSo_187 : decode cX9_isSo 187 = .ok (.iconst 0, 1) := by decide +kernel
theorem dX9_isSo_188 : decode cX9_isSo 188 = .ok (.ireturn, 1) := by decide +kernel
theorem dX9_isSo_189 : decode cX9_isSo 189 = .ok (.aload_n 0, 1) := by decide +kernel
theorem dX9_isSo_190 : decode cX9_isSo 190 = .ok (.getfield 66, 3) := by decide +kernel
theorem dX9_isSo_193 : decode cX9_isSo 193 = .ok (.iload 4, 2) := by decide +kernel
theorem dX9_isSo_195 : decode cX9_isSo 195 = .ok (.aload_n 0, 1) := by decide +kernel
theorem dX9_isSo_196 : decode cX9_isSo 196 = .ok (.getfield 124, 3) := by decide +kernel
theorem dX9_isSo_199 : decode cX9_isSo 199 = .ok (.iload_n 2, 1) := by decide +kernel
theorem dX9_isSo_200 : decode cX9_isSo 200 = .ok (.imul, 1) := by decide +kernel
theorem dX9_isSo_201 : decode cX9_isSo 201 = .ok (.iadd, 1) := by decide +kernel
theorem dX9_isSo_202 : decode cX9_isSo 202 = .ok (.iload_n 3, 1) := by decide +kernel
theorem dX9_isSo_203 : decode cX9_isSo 203 = .ok (.iadd, 1) := by decide +kernel
theorem dX9_isSo_204 : decode cX9_isSo 204 = .ok (.baload, 1) := by decide +kernel
theorem dX9_isSo_205 : decode cX9_isSo 205 = .ok (.ifCond .eq 33, 3) := by decide +kernel
theorem dX9_isSo_208 : decode cX9_isSo 208 = .ok (.aload_n 0, 1) := by decide +kernel
theorem dX9_isSo_209 : decode cX9_isSo 209 = .ok (.getfield 66, 3) := by decide +kernel
theorem dX9_isSo_212 : decode cX9_isSo 212 = .ok (.bipush 9, 2) := by decide +kernel
theorem dX9_isSo_214 : decode cX9_isSo 214 = .ok (.aload_n 0, 1) := by decide +kernel
theorem dX9_isSo_215 : decode cX9_isSo 215 = .ok (.getfield 60, 3) := by decide +kernel
theorem dX9_isSo_218 : decode cX9_isSo 218 = .ok (.iload_n 1, 1) := by decide +kernel
theorem dX9_isSo_219 : decode cX9_isSo 219 = .ok (.iaload, 1) := by decide +kernel
theorem dX9_isSo_220 : decode cX9_isSo 220 = .ok (.imul, 1) := by decide +kernel
theorem dX9_isSo_221 : decode cX9_isSo 221 = .ok (.aload_n 0, 1) := by decide +kernel
theorem dX9_isSo_222 : decode cX9_isSo 222 = .ok (.getfield 124, 3) := by decide +kernel
theorem dX9_isSo_225 : decode cX9_isSo 225 = .ok (.iload_n 2, 1) := by decide +kernel
theorem dX9_isSo_226 : decode cX9_isSo 226 = .ok (.imul, 1) := by decide +kernel
theorem dX9_isSo_227 : decode cX9_isSo 227 = .ok (.iadd, 1) := by decide +kernel
theorem dX9_isSo_228 : decode cX9_isSo 228 = .ok (.iload_n 3, 1) := by decide +kernel
theorem dX9_isSo_229 : decode cX9_isSo 229 = .ok (.iadd, 1) := by decide +kernel
theorem dX9_isSo_230 : decode cX9_isSo 230 = .ok (.baload, 1) := by decide +kernel
theorem dX9_isSo_231 : decode cX9_isSo 231 = .ok (.ifCond .eq 7, 3) := by decide +kernel
theorem dX9_isSo_234 : decode cX9_isSo 234 = .ok (.iconst 1, 1) := by decide +kernel
theorem dX9_isSo_235 : decode cX9_isSo 235 = .ok (.goto 4, 3) := by decide +kernel
theorem dX9_isSo_238 : decode cX9_isSo 238 = .ok (.iconst 0, 1) := by decide +kernel
theorem dX9_isSo_239 : decode cX9_isSo 239 = .ok (.ireturn, 1) := by decide +kernel
theorem dX9_isSo_240 : decode cX9_isSo 240 = .ok (.iload 5, 2) := by decide +kernel
theorem dX9_isSo_242 : decode cX9_isSo 242 = .ok (.ireturn, 1) := by decide +kernel
theorem dX9_isSo_243 : decode cX9_isSo 243 = .ok (.aload_n 0, 1) := by decide +kernel
theorem dX9_isSo_244 : decode cX9_isSo 244 = .ok (.getfield 66, 3) := by decide +kernel
theorem dX9_isSo_247 : decode cX9_isSo 247 = .ok (.iload 4, 2) := by decide +kernel
theorem dX9_isSo_249 : decode cX9_isSo 249 = .ok (.aload_n 0, 1) := by decide +kernel
theorem dX9_isSo_250 : decode cX9_isSo 250 = .ok (.getfield 124, 3) := by decide +kernel
theorem dX9_isSo_253 : decode cX9_isSo 253 = .ok (.iload_n 3, 1) := by decide +kernel
theorem dX9_isSo_254 : decode cX9_isSo 254 = .ok (.imul, 1) := by decide +kernel
theorem dX9_isSo_255 : decode cX9_isSo 255 = .ok (.iadd, 1) := by decide +kernel
theorem dX9_isSo_256 : decode cX9_isSo 256 = .ok (.iload_n 2, 1) := by decide +kernel
theorem dX9_isSo_257 : decode cX9_isSo 257 = .ok (.iadd, 1) := by decide +kernel
theorem dX9_isSo_258 : decode cX9_isSo 258 = .ok (.baload, 1) := by decide +kernel
theorem dX9_isSo_259 : decode cX9_isSo 259 = .ok (.ireturn, 1) := by decide +kernel
theorem dX9_isSo_260 : decode cX9_isSo 260 = .ok (.aload_n 0, 1) := by decide +kernel
theorem dX9_isSo_261 : decode cX9_isSo 261 = .ok (.getfield 66, 3) := by decide +kernel
theorem dX9_isSo_264 : decode cX9_isSo 264 = .ok (.iload 4, 2) := by decide +kernel
theorem dX9_isSo_266 : decode cX9_isSo 266 = .ok (.aload_n 0, 1) := by decide +kernel
theorem dX9_isSo_267 : decode cX9_isSo 267 = .ok (.getfield 124, 3) := by decide +kernel
theorem dX9_isSo_270 : decode cX9_isSo 270 = .ok (.iload_n 2, 1) := by decide +kernel
theorem dX9_isSo_271 : decode cX9_isSo 271 = .ok (.imul, 1) := by decide +kernel
theorem dX9_isSo_272 : decode cX9_isSo 272 = .ok (.iadd, 1) := by decide +kernel
theorem dX9_isSo_273 : decode cX9_isSo 273 = .ok (.iload_n 2, 1) := by decide +kernel
theorem dX9_isSo_274 : decode cX9_isSo 274 = .ok (.iadd, 1) := by decide +kernel
theorem dX9_isSo_275 : decode cX9_isSo 275 = .ok (.baload, 1) := by decide +kernel
theorem dX9_isSo_276 : decode cX9_isSo 276 = .ok (.ireturn, 1) := by decide +kernel
theorem dX9_isSo_277 : decode cX9_isSo 277 = .ok (.iload 6, 2) := by decide +kernel
theorem dX9_isSo_279 : decode cX9_isSo 279 = .ok (.ireturn, 1) := by decide +kernel
theorem dX9_layHere_0 : decode cX9_layHere 0 = .ok (.aload_n 0, 1) := by decide +kernel
theorem dX9_layHere_1 : decode cX9_layHere 1 = .ok (.getfield 54, 3) := by decide +kernel
theorem dX9_layHere_4 : decode cX9_layHere 4 = .ok (.iload_n 1, 1) := by decide +kernel
theorem dX9_layHere_5 : decode cX9_layHere 5 = .ok (.iaload, 1) := by decide +kernel
theorem dX9_layHere_6 : decode cX9_layHere 6 = .ok (.ifCond .ne 19, 3) := by decide +kernel
theorem dX9_layHere_9 : decode cX9_layHere 9 = .ok (.aload_n 0, 1) := by decide +kernel
theorem dX9_layHere_10 : decode cX9_layHere 10 = .ok (.aload_n 0, 1) := by decide +kernel
theorem dX9_layHere_11 : decode cX9_layHere 11 = .ok (.getfield 57, 3) := by decide +kernel
theorem dX9_layHere_14 : decode cX9_layHere 14 = .ok (.iload_n 1, 1) := by decide +kernel
theorem dX9_layHere_15 : decode cX9_layHere 15 = .ok (.iaload, 1) := by decide +kernel
theorem dX9_layHere_16 : decode cX9_layHere 16 = .ok (.aload_n 0, 1) := by decide +kernel
theorem dX9_layHere_17 : decode cX9_layHere 17 = .ok (.getfield 60, 3) := by decide +kernel
theorem dX9_layHere_20 : decode cX9_layHere 20 = .ok (.iload_n 1, 1) := by decide +kernel
theorem dX9_layHere_21 : decode cX9_layHere 21 = .ok (.iaload, 1) := by decide +kernel
theorem dX9_layHere_22 : decode cX9_layHere 22 = .ok (.invokevirtual 134, 3) := by decide +kernel
theorem dX9_layHere_25 : decode cX9_layHere 25 = .ok (.iconst 0, 1) := by decide +kernel
theorem dX9_layHere_26 : decode cX9_layHere 26 = .ok (.istore_n 2, 1) := by decide +kernel
theorem dX9_layHere_27 : decode cX9_layHere 27 = .ok (.iload_n 2, 1) := by decide +kernel
theorem dX9_layHere_28 : decode cX9_layHere 28 = .ok (.aload_n 0, 1) := by decide +kernel
theorem dX9_layHere_29 : decode cX9_layHere 29 = .ok (.getfield 124, 3) := by decide +kernel
theorem dX9_layHere_32 : decode cX9_layHere 32 = .ok (.aload_n 0, 1) := by decide +kernel
theorem dX9_layHere_33 : decode cX9_layHere 33 = .ok (.getfield 124, 3) := by decide +kernel
theorem dX9_layHere_36 : decode cX9_layHere 36 = .ok (.imul, 1) := by decide +kernel
theorem dX9_layHere_37 : decode cX9_layHere 37 = .ok (.if_icmp .ge 37, 3) := by decide +kernel
theorem dX9_layHere_40 : decode cX9_layHere 40 = .ok (.aload_n 0, 1) := by decide +kernel
theorem dX9_layHere_41 : decode cX9_layHere 41 = .ok (.getfield 66, 3) := by decide +kernel
theorem dX9_layHere_44 : decode cX9_layHere 44 = .ok (.bipush 9, 2) := by decide +kernel
theorem dX9_layHere_46 : decode cX9_layHere 46 = .ok (.iload_n 1, 1) := by decide +kernel
theorem dX9_layHere_47 : decode cX9_layHere 47 = .ok (.imul, 1) := by decide +kernel

theorem dX9_layHere_48 : decode cX9_layHere 48 = .ok (.iload_n 2, 1) := by decide +kernel
theorem dX9_layHere_49 : decode cX9_layHere 49 = .ok (.iadd, 1) := by decide +kernel
theorem dX9_layHere_50 : decode cX9_layHere 50 = .ok (.aload_n 0, 1) := by decide +kernel
theorem dX9_layHere_51 : decode cX9_layHere 51 = .ok (.iload_n 1, 1) := by decide +kernel
theorem dX9_layHere_52 : decode cX9_layHere 52 = .ok (.iload_n 2, 1) := by decide +kernel
theorem dX9_layHere_53 : decode cX9_layHere 53 = .ok (.aload_n 0, 1) := by decide +kernel
theorem dX9_layHere_54 : decode cX9_layHere 54 = .ok (.getfield 124, 3) := by decide +kernel
theorem dX9_layHere_57 : decode cX9_layHere 57 = .ok (.idiv, 1) := by decide +kernel
theorem dX9_layHere_58 : decode cX9_layHere 58 = .ok (.iload_n 2, 1) := by decide +kernel
theorem dX9_layHere_59 : decode cX9_layHere 59 = .ok (.aload_n 0, 1) := by decide +kernel
theorem dX9_layHere_60 : decode cX9_layHere 60 = .ok (.getfield 124, 3) := by decide +kernel
theorem dX9_layHere_63 : decode cX9_layHere 63 = .ok (.irem, 1) := by decide +kernel
theorem dX9_layHere_64 : decode cX9_layHere 64 = .ok (.invokevirtual 199, 3) := by decide +kernel
theorem dX9_layHere_67 : decode cX9_layHere 67 = .ok (.bastore, 1) := by decide +kernel
theorem dX9_layHere_68 : decode cX9_layHere 68 = .ok (.iinc 2 1, 3) := by decide +kernel
theorem dX9_layHere_71 : decode cX9_layHere 71 = .ok (.goto (-44), 3) := by decide +kernel
theorem dX9_layHere_74 : decode cX9_layHere 74 = .ok (.return_, 1) := by decide +kernel
theorem dX9_layRows_0 : decode cX9_layRows 0 = .ok (.aload_n 0, 1) := by decide +kernel
theorem dX9_layRows_1 : decode cX9_layRows 1 = .ok (.invokevirtual 175, 3) := by decide +kernel
theorem dX9_layRows_4 : decode cX9_layRows 4 = .ok (.aload_n 0, 1) := by decide +kernel
theorem dX9_layRows_5 : decode cX9_layRows 5 = .ok (.invokevirtual 184, 3) := by decide +kernel
theorem dX9_layRows_8 : decode cX9_layRows 8 = .ok (.istore_n 1, 1) := by decide +kernel
theorem dX9_layRows_9 : decode cX9_layRows 9 = .ok (.aload_n 0, 1) := by decide +kernel
theorem dX9_layRows_10 : decode cX9_layRows 10 = .ok (.getfield 164, 3) := by decide +kernel
theorem dX9_layRows_13 : decode cX9_layRows 13 = .ok (.aload_n 0, 1) := by decide +kernel
theorem dX9_layRows_14 : decode cX9_layRows 14 = .ok (.getfield 187, 3) := by decide +kernel
theorem dX9_layRows_17 : decode cX9_layRows 17 = .ok (.iconst 1, 1) := by decide +kernel
theorem dX9_layRows_18 : decode cX9_layRows 18 = .ok (.iadd, 1) := by decide +kernel
theorem dX9_layRows_19 : decode cX9_layRows 19 = .ok (.if_icmp .ne 4, 3) := by decide +kernel
theorem dX9_layRows_22 : decode cX9_layRows 22 = .ok (.return_, 1) := by decide +kernel
theorem dX9_layRows_23 : decode cX9_layRows 23 = .ok (.iconst 0, 1) := by decide +kernel
theorem dX9_layRows_24 : decode cX9_layRows 24 = .ok (.istore_n 2, 1) := by decide +kernel
theorem dX9_layRows_25 : decode cX9_layRows 25 = .ok (.iload_n 2, 1) := by decide +kernel
theorem dX9_layRows_26 : decode cX9_layRows 26 = .ok (.aload_n 0, 1) := by decide +kernel
theorem dX9_layRows_27 : decode cX9_layRows 27 = .ok (.invokevirtual 181, 3) := by decide +kernel
theorem dX9_layRows_30 : decode cX9_layRows 30 = .ok (.if_icmp .ge 95, 3) := by decide +kernel
theorem dX9_layRows_33 : decode cX9_layRows 33 = .ok (.aload_n 0, 1) := by decide +kernel
theorem dX9_layRows_34 : decode cX9_layRows 34 = .ok (.aload_n 0, 1) := by decide +kernel
theorem dX9_layRows_35 : decode cX9_layRows 35 = .ok (.getfield 48, 3) := by decide +kernel
theorem dX9_layRows_38 : decode cX9_layRows 38 = .ok (.iload_n 2, 1) := by decide +kernel
theorem dX9_layRows_39 : decode cX9_layRows 39 = .ok (.iaload, 1) := by decide +kernel
theorem dX9_layRows_40 : decode cX9_layRows 40 = .ok (.invokevirtual 138, 3) := by decide +kernel
theorem dX9_layRows_43 : decode cX9_layRows 43 = .ok (.iconst 0, 1) := by decide +kernel
theorem dX9_layRows_44 : decode cX9_layRows 44 = .ok (.istore_n 3, 1) := by decide +kernel
theorem dX9_layRows_45 : decode cX9_layRows 45 = .ok (.iload_n 3, 1) := by decide +kernel
theorem dX9_layRows_46 : decode cX9_layRows 46 = .ok (.aload_n 0, 1) := by decide +kernel
theorem dX9_layRows_47 : decode cX9_layRows 47 = .ok (.getfield 187, 3) := by decide +kernel
theorem dX9_layRows_50 : decode cX9_layRows 50 = .ok (.if_icmp .ge 69, 3) := by decide +kernel
theorem dX9_layRows_53 : decode cX9_layRows 53 = .ok (.aload_n 0, 1) := by decide +kernel
theorem dX9_layRows_54 : decode cX9_layRows 54 = .ok (.iload_n 3, 1) := by decide +kernel
theorem dX9_layRows_55 : decode cX9_layRows 55 = .ok (.invokevirtual 203, 3) := by decide +kernel
theorem dX9_layRows_58 : decode cX9_layRows 58 = .ok (.iconst 0, 1) := by decide +kernel
theorem dX9_layRows_59 : decode cX9_layRows 59 = .ok (.istore 4, 2) := by decide +kernel
theorem dX9_layRows_61 : decode cX9_layRows 61 = .ok (.iload 4, 2) := by decide +kernel
theorem dX9_layRows_63 : decode cX9_layRows 63 = .ok (.aload_n 0, 1) := by decide +kernel
theorem dX9_layRows_64 : decode cX9_layRows 64 = .ok (.getfield 124, 3) := by decide +kernel
theorem dX9_layRows_67 : decode cX9_layRows 67 = .ok (.aload_n 0, 1) := by decide +kernel
theorem dX9_layRows_68 : decode cX9_layRows 68 = .ok (.getfield 124, 3) := by decide +kernel
theorem dX9_layRows_71 : decode cX9_layRows 71 = .ok (.imul, 1) := by decide +kernel
theorem dX9_layRows_72 : decode cX9_layRows 72 = .ok (.if_icmp .ge 41, 3) := by decide +kernel
theorem dX9_layRows_75 : decode cX9_layRows 75 = .ok (.aload_n 0, 1) := by decide +kernel
theorem dX9_layRows_76 : decode cX9_layRows 76 = .ok (.getfield 69, 3) := by decide +kernel
theorem dX9_layRows_79 : decode cX9_layRows 79 = .ok (.sipush 360, 3) := by decide +kernel
theorem dX9_layRows_82 : decode cX9_layRows 82 = .ok (.iload_n 3, 1) := by decide +kernel
theorem dX9_layRows_83 : decode cX9_layRows 83 = .ok (.imul, 1) := by decide +kernel
theorem dX9_layRows_84 : decode cX9_layRows 84 = .ok (.aload_n 0, 1) := by decide +kernel
theorem dX9_layRows_85 : decode cX9_layRows 85 = .ok (.getfield 51, 3) := by decide +kernel
theorem dX9_layRows_88 : decode cX9_layRows 88 = .ok (.iload_n 2, 1) := by decide +kernel
theorem dX9_layRows_89 : decode cX9_layRows 89 = .ok (.iaload, 1) := by decide +kernel
theorem dX9_layRows_90 : decode cX9_layRows 90 = .ok (.iadd, 1) := by decide +kernel
theorem dX9_layRows_91 : decode cX9_layRows 91 = .ok (.iload 4, 2) := by decide +kernel
theorem dX9_layRows_93 : decode cX9_layRows 93 = .ok (.iadd, 1) := by decide +kernel
theorem dX9_layRows_94 : decode cX9_layRows 94 = .ok (.aload_n 0, 1) := by decide +kernel
theorem dX9_layRows_95 : decode cX9_layRows 95 = .ok (.getfield 66, 3) := by decide +kernel
theorem dX9_layRows_98 : decode cX9_layRows 98 = .ok (.bipush 9, 2) := by decide +kernel
theorem dX9_layRows_100 : decode cX9_layRows 100 = .ok (.iload_n 3, 1) := by decide +kernel
theorem dX9_layRows_101 : decode cX9_layRows 101 = .ok (.imul, 1) := by decide +kernel
theorem dX9_layRows_102 : decode cX9_layRows 102 = .ok (.iload 4, 2) := by decide +kernel
theorem dX9_layRows_104 : decode cX9_layRows 104 = .ok (.iadd, 1) := by decide +kernel
theorem dX9_layRows_105 : decode cX9_layRows 105 = .ok (.baload, 1) := by decide +kernel
theorem dX9_layRows_106 : decode cX9_layRows 106 = .ok (.bastore, 1) := by decide +kernel
theorem dX9_layRows_107 : decode cX9_layRows 107 = .ok (.iinc 4 1, 3) := by decide +kernel
theorem dX9_layRows_110 : decode cX9_layRows 110 = .ok (.goto (-49), 3) := by decide +kernel
theorem dX9_layRows_113 : decode cX9_layRows 113 = .ok (.iinc 3 1, 3) := by decide +kernel
theorem dX9_layRows_116 : decode cX9_layRows 116 = .ok (.goto (-71), 3) := by decide +kernel
theorem dX9_layRows_119 : decode cX9_layRows 119 = .ok (.iinc 2 1, 3) := by decide +kernel
theorem dX9_layRows_122 : decode cX9_layRows 122 = .ok (.goto (-97), 3) := by decide +kernel
theorem dX9_layRows_125 : decode cX9_layRows 125 = .ok (.aload_n 0, 1) := by decide +kernel
theorem dX9_layRows_126 : decode cX9_layRows 126 = .ok (.aload_n 0, 1) := by decide +kernel
theorem dX9_layRows_127 : decode cX9_layRows 127 = .ok (.getfield 187, 3) := by decide +kernel
theorem dX9_layRows_130 : decode cX9_layRows 130 = .ok (.iconst 1, 1) := by decide +kernel
theorem dX9_layRows_131 : decode cX9_layRows 131 = .ok (.iadd, 1) := by decide +kernel
theorem dX9_layRows_132 : decode cX9_layRows 132 = .ok (.putfield 164, 3) := by decide +kernel
theorem dX9_layRows_135 : decode cX9_layRows 135 = .ok (.return_, 1) := by decide +kernel
theorem dX9_yes_0 : decode cX9_yes 0 = .ok (.aload_n 0, 1) := by decide +kernel
theorem dX9_yes_1 : decode cX9_yes 1 = .ok (.invokevirtual 206, 3) := by decide +kernel
theorem dX9_yes_4 : decode cX9_yes 4 = .ok (.aload_n 0, 1) := by decide +kernel
theorem dX9_yes_5 : decode cX9_yes 5 = .ok (.iload_n 1, 1) := by decide +kernel
theorem dX9_yes_6 : decode cX9_yes 6 = .ok (.invokevirtual 192, 3) := by decide +kernel
theorem dX9_yes_9 : decode cX9_yes 9 = .ok (.ifCond .eq 19, 3) := by decide +kernel
theorem dX9_yes_12 : decode cX9_yes 12 = .ok (.iload_n 2, 1) := by decide +kernel
theorem dX9_yes_13 : decode cX9_yes 13 = .ok (.i2l, 1) := by decide +kernel
theorem dX9_yes_14 : decode cX9_yes 14 = .ok (.lconst 0, 1) := by decide +kernel
theorem dX9_yes_15 : decode cX9_yes 15 = .ok (.aload_n 0, 1) := by decide +kernel
theorem dX9_yes_16 : decode cX9_yes 16 = .ok (.invokevirtual 181, 3) := by decide +kernel
theorem dX9_yes_19 : decode cX9_yes 19 = .ok (.iconst 1, 1) := by decide +kernel
theorem dX9_yes_20 : decode cX9_yes 20 = .ok (.isub, 1) := by decide +kernel
theorem dX9_yes_21 : decode cX9_yes 21 = .ok (.i2l, 1) := by decide +kernel
theorem dX9_yes_22 : decode cX9_yes 22 = .ok (.invokestatic 105, 3) := by decide +kernel
theorem dX9_yes_25 : decode cX9_yes 25 = .ok (.ifCond .ne 5, 3) := by decide +kernel
theorem dX9_yes_28 : decode cX9_yes 28 = .ok (.iconst (-1), 1) := by decide +kernel
theorem dX9_yes_29 : decode cX9_yes 29 = .ok (.ireturn, 1) := by decide +kernel
theorem dX9_yes_30 : decode cX9_yes 30 = .ok (.aload_n 0, 1) := by decide +kernel
theorem dX9_yes_31 : decode cX9_yes 31 = .ok (.getfield 48, 3) := by decide +kernel
theorem dX9_yes_34 : decode cX9_yes 34 = .ok (.iload_n 2, 1) := by decide +kernel
theorem dX9_yes_35 : decode cX9_yes 35 = .ok (.iaload, 1) := by decide +kernel
theorem dX9_yes_36 : decode cX9_yes 36 = .ok (.invokestatic 120, 3) := by decide +kernel
theorem dX9_yes_39 : decode cX9_yes 39 = .ok (.istore 5, 2) := by decide +kernel
theorem dX9_yes_41 : decode cX9_yes 41 = .ok (.iload_n 3, 1) := by decide +kernel
theorem dX9_yes_42 : decode cX9_yes 42 = .ok (.i2l, 1) := by decide +kernel
theorem dX9_yes_43 : decode cX9_yes 43 = .ok (.lconst 0, 1) := by decide +kernel
theorem dX9_yes_44 : decode cX9_yes 44 = .ok (.iload 5, 2) := by decide +kernel
theorem dX9_yes_46 : decode cX9_yes 46 = .ok (.iconst 1, 1) := by decide +kernel
theorem dX9_yes_47 : decode cX9_yes 47 = .ok (.isub, 1) := by decide +kernel
theorem dX9_yes_48 : decode cX9_yes 48 = .ok (.i2l, 1) := by decide +kernel
theorem dX9_yes_49 : decode cX9_yes 49 = .ok (.invokestatic 105, 3) := by decide +kernel
theorem dX9_yes_52 : decode cX9_yes 52 = .ok (.ifCond .eq 18, 3) := by decide +kernel
theorem dX9_yes_55 : decode cX9_yes 55 = .ok (.iload 4, 2) := by decide +kernel
theorem dX9_yes_57 : decode cX9_yes 57 = .ok (.i2l, 1) := by decide +kernel
theorem dX9_yes_58 : decode cX9_yes 58 = .ok (.lconst 0, 1) := by decide +kernel
theorem dX9_yes_59 : decode cX9_yes 59 = .ok (.iload 5, 2) := by decide +kernel
theorem dX9_yes_61 : decode cX9_yes 61 = .ok (.iconst 1, 1) := by decide +kernel
theorem dX9_yes_62 : decode cX9_yes 62 = .ok (.isub, 1) := by decide +kernel
theorem dX9_yes_63 : decode cX9_yes 63 = .ok (.i2l, 1) := by decide +kernel
theorem dX9_yes_64 : decode cX9_yes 64 = .ok (.invokestatic 105, 3) := by decide +kernel
theorem dX9_yes_67 : decode cX9_yes 67 = .ok (.ifCond .ne 6, 3) := by decide +kernel
theorem dX9_yes_70 : decode cX9_yes 70 = .ok (.bipush (-2), 2) := by decide +kernel
theorem dX9_yes_72 : decode cX9_yes 72 = .ok (.ireturn, 1) := by decide +kernel
theorem dX9_yes_73 : decode cX9_yes 73 = .ok (.aload_n 0, 1) := by decide +kernel
theorem dX9_yes_74 : decode cX9_yes 74 = .ok (.getfield 69, 3) := by decide +kernel
theorem dX9_yes_77 : decode cX9_yes 77 = .ok (.sipush 360, 3) := by decide +kernel
theorem dX9_yes_80 : decode cX9_yes 80 = .ok (.iload_n 1, 1) := by decide +kernel
theorem dX9_yes_81 : decode cX9_yes 81 = .ok (.imul, 1) := by decide +kernel
theorem dX9_yes_82 : decode cX9_yes 82 = .ok (.aload_n 0, 1) := by decide +kernel
theorem dX9_yes_83 : decode cX9_yes 83 = .ok (.getfield 51, 3) := by decide +kernel
theorem dX9_yes_86 : decode cX9_yes 86 = .ok (.iload_n 2, 1) := by decide +kernel
theorem dX9_yes_87 : decode cX9_yes 87 = .ok (.iaload, 1) := by decide +kernel
theorem dX9_yes_88 : decode cX9_yes 88 = .ok (.iadd, 1) := by decide +kernel
theorem dX9_yes_89 : decode cX9_yes 89 = .ok (.iload 5, 2) := by decide +kernel
theorem dX9_yes_91 : decode cX9_yes 91 = .ok (.iload_n 3, 1) := by decide +kernel
theorem dX9_yes_92 : decode cX9_yes 92 = .ok (.imul, 1) := by decide +kernel
theorem dX9_yes_93 : decode cX9_yes 93 = .ok (.iadd, 1) := by decide +kernel
theorem dX9_yes_94 : decode cX9_yes 94 = .ok (.iload 4, 2) := by decide +kernel
theorem dX9_yes_96 : decode cX9_yes 96 = .ok (.iadd, 1) := by decide +kernel
theorem dX9_yes_97 : decode cX9_yes 97 = .ok (.baload, 1) := by decide +kernel
theorem dX9_yes_98 : decode cX9_yes 98 = .ok (.ifCond .eq 7, 3) := by decide +kernel
theorem dX9_yes_101 : decode cX9_yes 101 = .ok (.iconst 1, 1) := by decide +kernel
theorem dX9_yes_102 : decode cX9_yes 102 = .ok (.goto 4, 3) := by decide +kernel
theorem dX9_yes_105 : decode cX9_yes 105 = .ok (.iconst 0, 1) := by decide +kernel
theorem dX9_yes_106 : decode cX9_yes 106 = .ok (.ireturn, 1) := by decide +kernel
theorem dX9_manyOf_0 : decode cX9_manyOf 0 = .ok (.iconst 0, 1) := by decide +kernel
theorem dX9_manyOf_1 : decode cX9_manyOf 1 = .ok (.istore_n 2, 1) := by decide +kernel
theorem dX9_manyOf_2 : decode cX9_manyOf 2 = .ok (.iconst 0, 1) := by decide +kernel
theorem dX9_manyOf_3 : decode cX9_manyOf 3 = .ok (.istore_n 3, 1) := by decide +kernel
theorem dX9_manyOf_4 : decode cX9_manyOf 4 = .ok (.iload_n 3, 1) := by decide +kernel
theorem dX9_manyOf_5 : decode cX9_manyOf 5 = .ok (.aload_n 0, 1) := by decide +kernel
theorem dX9_manyOf_6 : decode cX9_manyOf 6 = .ok (.getfield 51, 3) := by decide +kernel
theorem dX9_manyOf_9 : decode cX9_manyOf 9 = .ok (.aload_n 0, 1) := by decide +kernel
theorem dX9_manyOf_10 : decode cX9_manyOf 10 = .ok (.invokevirtual 181, 3) := by decide +kernel
theorem dX9_manyOf_13 : decode cX9_manyOf 13 = .ok (.iaload, 1) := by decide +kernel
theorem dX9_manyOf_14 : decode cX9_manyOf 14 = .ok (.if_icmp .ge 32, 3) := by decide +kernel
theorem dX9_manyOf_17 : decode cX9_manyOf 17 = .ok (.iload_n 2, 1) := by decide +kernel
theorem dX9_manyOf_18 : decode cX9_manyOf 18 = .ok (.aload_n 0, 1) := by decide +kernel
theorem dX9_manyOf_19 : decode cX9_manyOf 19 = .ok (.getfield 69, 3) := by decide +kernel
theorem dX9_manyOf_22 : decode cX9_manyOf 22 = .ok (.sipush 360, 3) := by decide +kernel
theorem dX9_manyOf_25 : decode cX9_manyOf 25 = .ok (.iload_n 1, 1) := by decide +kernel
theorem dX9_manyOf_26 : decode cX9_manyOf 26 = .ok (.imul, 1) := by decide +kernel
theorem dX9_manyOf_27 : decode cX9_manyOf 27 = .ok (.iload_n 3, 1) := by decide +kernel
theorem dX9_manyOf_28 : decode cX9_manyOf 28 = .ok (.iadd, 1) := by decide +kernel
theorem dX9_manyOf_29 : decode cX9_manyOf 29 = .ok (.baload, 1) := by decide +kernel
theorem dX9_manyOf_30 : decode cX9_manyOf 30 = .ok (.ifCond .eq 7, 3) := by decide +kernel
theorem dX9_manyOf_33 : decode cX9_manyOf 33 = .ok (.iconst 1, 1) := by decide +kernel
theorem dX9_manyOf_34 : decode cX9_manyOf 34 = .ok (.goto 4, 3) := by decide +kernel
theorem dX9_manyOf_37 : decode cX9_manyOf 37 = .ok (.iconst 0, 1) := by decide +kernel
theorem dX9_manyOf_38 : decode cX9_manyOf 38 = .ok (.iadd, 1) := by decide +kernel
theorem dX9_manyOf_39 : decode cX9_manyOf 39 = .ok (.istore_n 2, 1) := by decide +kernel
theorem dX9_manyOf_40 : decode cX9_manyOf 40 = .ok (.iinc 3 1, 3) := by decide +kernel
theorem dX9_manyOf_43 : decode cX9_manyOf 43 = .ok (.goto (-39), 3) := by decide +kernel
theorem dX9_manyOf_46 : decode cX9_manyOf 46 = .ok (.iload_n 2, 1) := by decide +kernel
theorem dX9_manyOf_47 : decode cX9_manyOf 47 = .ok (.ireturn, 1) := by decide +kernel
theorem dX9_butForOf_0 : decode cX9_butForOf 0 = .ok (.iconst 0, 1) := by decide +kernel
theorem dX9_butForOf_1 : decode cX9_butForOf 1 = .ok (.istore_n 3, 1) := by decide +kernel
theorem dX9_butForOf_2 : decode cX9_butForOf 2 = .ok (.iconst 0, 1) := by decide +kernel
theorem dX9_butForOf_3 : decode cX9_butForOf 3 = .ok (.istore 4, 2) := by decide +kernel
theorem dX9_butForOf_5 : decode cX9_butForOf 5 = .ok (.iload 4, 2) := by decide +kernel
theorem dX9_butForOf_7 : decode cX9_butForOf 7 = .ok (.aload_n 0, 1) := by decide +kernel
theorem dX9_butForOf_8 : decode cX9_butForOf 8 = .ok (.getfield 51, 3) := by decide +kernel
theorem dX9_butForOf_11 : decode cX9_butForOf 11 = .ok (.aload_n 0, 1) := by decide +kernel
theorem dX9_butForOf_12 : decode cX9_butForOf 12 = .ok (.invokevirtual 181, 3) := by decide +kernel
theorem dX9_butForOf_15 : decode cX9_butForOf 15 = .ok (.iaload, 1) := by decide +kernel
theorem dX9_butForOf_16 : decode cX9_butForOf 16 = .ok (.if_icmp .ge 49, 3) := by decide +kernel
theorem dX9_butForOf_19 : decode cX9_butForOf 19 = .ok (.iload_n 3, 1) := by decide +kernel
theorem dX9_butForOf_20 : decode cX9_butForOf 20 = .ok (.aload_n 0, 1) := by decide +kernel
theorem dX9_butForOf_21 : decode cX9_butForOf 21 = .ok (.getfield 69, 3) := by decide +kernel
theorem dX9_butForOf_24 : decode cX9_butForOf 24 = .ok (.sipush 360, 3) := by decide +kernel
theorem dX9_butForOf_27 : decode cX9_butForOf 27 = .ok (.iload_n 1, 1) := by decide +kernel
theorem dX9_butForOf_28 : decode cX9_butForOf 28 = .ok (.imul, 1) := by decide +kernel
theorem dX9_butForOf_29 : decode cX9_butForOf 29 = .ok (.iload 4, 2) := by decide +kernel
theorem dX9_butForOf_31 : decode cX9_butForOf 31 = .ok (.iadd, 1) := by decide +kernel
theorem dX9_butForOf_32 : decode cX9_butForOf 32 = .ok (.baload, 1) := by decide +kernel
theorem dX9_butForOf_33 : decode cX9_butForOf 33 = .ok (.ifCond .eq 23, 3) := by decide +kernel
theorem dX9_butForOf_36 : decode cX9_butForOf 36 = .ok (.aload_n 0, 1) := by decide +kernel
theorem dX9_butForOf_37 : decode cX9_butForOf 37 = .ok (.getfield 69, 3) := by decide +kernel
theorem dX9_butForOf_40 : decode cX9_butForOf 40 = .ok (.sipush 360, 3) := by decide +kernel
theorem dX9_butForOf_43 : decode cX9_butForOf 43 = .ok (.iload_n 2, 1) := by decide +kernel
theorem dX9_butForOf_44 : decode cX9_butForOf 44 = .ok (.imul, 1) := by decide +kernel
theorem dX9_butForOf_45 : decode cX9_butForOf 45 = .ok (.iload 4, 2) := by decide +kernel
theorem dX9_butForOf_47 : decode cX9_butForOf 47 = .ok (.iadd, 1) := by decide +kernel
theorem dX9_butForOf_48 : decode cX9_butForOf 48 = .ok (.baload, 1) := by decide +kernel
theorem dX9_butForOf_49 : decode cX9_butForOf 49 = .ok (.ifCond .ne 7, 3) := by decide +kernel
theorem dX9_butForOf_52 : decode cX9_butForOf 52 = .ok (.iconst 1, 1) := by decide +kernel
theorem dX9_butForOf_53 : decode cX9_butForOf 53 = .ok (.goto 4, 3) := by decide +kernel
theorem dX9_butForOf_56 : decode cX9_butForOf 56 = .ok (.iconst 0, 1) := by decide +kernel
theorem dX9_butForOf_57 : decode cX9_butForOf 57 = .ok (.iadd, 1) := by decide +kernel
theorem dX9_butForOf_58 : decode cX9_butForOf 58 = .ok (.istore_n 3, 1) := by decide +kernel
theorem dX9_butForOf_59 : decode cX9_butForOf 59 = .ok (.iinc 4 1, 3) := by decide +kernel
theorem dX9_butForOf_62 : decode cX9_butForOf 62 = .ok (.goto (-57), 3) := by decide +kernel
theorem dX9_butForOf_65 : decode cX9_butForOf 65 = .ok (.iload_n 3, 1) := by decide +kernel
theorem dX9_butForOf_66 : decode cX9_butForOf 66 = .ok (.ireturn, 1) := by decide +kernel
theorem dX9_agrees_0 : decode cX9_agrees 0 = .ok (.aload_n 0, 1) := by decide +kernel
theorem dX9_agrees_1 : decode cX9_agrees 1 = .ok (.iload_n 1, 1) := by decide +kernel
theorem dX9_agrees_2 : decode cX9_agrees 2 = .ok (.iload_n 2, 1) := by decide +kernel
theorem dX9_agrees_3 : decode cX9_agrees 3 = .ok (.invokevirtual 209, 3) := by decide +kernel
theorem dX9_agrees_6 : decode cX9_agrees 6 = .ok (.ifCond .ne 16, 3) := by decide +kernel
theorem dX9_agrees_9 : decode cX9_agrees 9 = .ok (.aload_n 0, 1) := by decide +kernel
theorem dX9_agrees_10 : decode cX9_agrees 10 = .ok (.iload_n 2, 1) := by decide +kernel
theorem dX9_agrees_11 : decode cX9_agrees 11 = .ok (.iload_n 1, 1) := by decide +kernel
theorem dX9_agrees_12 : decode cX9_agrees 12 = .ok (.invokevirtual 209, 3) := by decide +kernel
theorem dX9_agrees_15 : decode cX9_agrees 15 = .ok (.ifCond .ne 7, 3) := by decide +kernel
theorem dX9_agrees_18 : decode cX9_agrees 18 = .ok (.iconst 1, 1) := by decide +kernel
theorem dX9_agrees_19 : decode cX9_agrees 19 = .ok (.goto 4, 3) := by decide +kernel
theorem dX9_agrees_22 : decode cX9_agrees 22 = .ok (.iconst 0, 1) := by decide +kernel
theorem dX9_agrees_23 : decode cX9_agrees 23 = .ok (.ireturn, 1) := by decide +kernel
theorem dX9_many_0 : decode cX9_many 0 = .ok (.aload_n 0, 1) := by decide +kernel
theorem dX9_many_1 : decode cX9_many 1 = .ok (.iload_n 1, 1) := by decide +kernel
theorem dX9_many_2 : decode cX9_many 2 = .ok (.invokevirtual 192, 3) := by decide +kernel
theorem dX9_many_5 : decode cX9_many 5 = .ok (.ifCond .ne 5, 3) := by decide +kernel
theorem dX9_many_8 : decode cX9_many 8 = .ok (.iconst (-1), 1) := by decide +kernel
theorem dX9_many_9 : decode cX9_many 9 = .ok (.ireturn, 1) := by decide +kernel
theorem dX9_many_10 : decode cX9_many 10 = .ok (.aload_n 0, 1) := by decide +kernel
theorem dX9_many_11 : decode cX9_many 11 = .ok (.invokevirtual 206, 3) := by decide +kernel
theorem dX9_many_14 : decode cX9_many 14 = .ok (.aload_n 0, 1) := by decide +kernel
theorem dX9_many_15 : decode cX9_many 15 = .ok (.iload_n 1, 1) := by decide +kernel
theorem dX9_many_16 : decode cX9_many 16 = .ok (.invokevirtual 213, 3) := by decide +kernel
theorem dX9_many_19 : decode cX9_many 19 = .ok (.ireturn, 1) := by decide +kernel
theorem dX9_twin_0 : decode cX9_twin 0 = .ok (.aload_n 0, 1) := by decide +kernel
theorem dX9_twin_1 : decode cX9_twin 1 = .ok (.iload_n 1, 1) := by decide +kernel
theorem dX9_twin_2 : decode cX9_twin 2 = .ok (.invokevirtual 192, 3) := by decide +kernel
theorem dX9_twin_5 : decode cX9_twin 5 = .ok (.ifCond .ne 5, 3) := by decide +kernel
theorem dX9_twin_8 : decode cX9_twin 8 = .ok (.iconst (-1), 1) := by decide +kernel
theorem dX9_twin_9 : decode cX9_twin 9 = .ok (.ireturn, 1) := by decide +kernel
theorem dX9_twin_10 : decode cX9_twin 10 = .ok (.aload_n 0, 1) := by decide +kernel
theorem dX9_twin_11 : decode cX9_twin 11 = .ok (.invokevirtual 206, 3) := by decide +kernel
theorem dX9_twin_14 : decode cX9_twin 14 = .ok (.iconst 0, 1) := by decide +kernel
theorem dX9_twin_15 : decode cX9_twin 15 = .ok (.istore_n 2, 1) := by decide +kernel
theorem dX9_twin_16 : decode cX9_twin 16 = .ok (.iload_n 2, 1) := by decide +kernel
theorem dX9_twin_17 : decode cX9_twin 17 = .ok (.iload_n 1, 1) := by decide +kernel
theorem dX9_twin_18 : decode cX9_twin 18 = .ok (.if_icmp .ge 20, 3) := by decide +kernel
theorem dX9_twin_21 : decode cX9_twin 21 = .ok (.aload_n 0, 1) := by decide +kernel
theorem dX9_twin_22 : decode cX9_twin 22 = .ok (.iload_n 2, 1) := by decide +kernel
theorem dX9_twin_23 : decode cX9_twin 23 = .ok (.iload_n 1, 1) := by decide +kernel
theorem dX9_twin_24 : decode cX9_twin 24 = .ok (.invokevirtual 216, 3) := by decide +kernel
theorem dX9_twin_27 : decode cX9_twin 27 = .ok (.ifCond .eq 5, 3) := by decide +kernel
theorem dX9_twin_30 : decode cX9_twin 30 = .ok (.iload_n 2, 1) := by decide +kernel
theorem dX9_twin_31 : decode cX9_twin 31 = .ok (.ireturn, 1) := by decide +kernel
theorem dX9_twin_32 : decode cX9_twin 32 = .ok (.iinc 2 1, 3) := by decide +kernel
theorem dX9_twin_35 : decode cX9_twin 35 = .ok (.goto (-19), 3) := by decide +kernel
theorem dX9_twin_38 : decode cX9_twin 38 = .ok (.bipush (-9), 2) := by decide +kernel
theorem dX9_twin_40 : decode cX9_twin 40 = .ok (.ireturn, 1) := by decide +kernel
theorem dX9_butFor_0 : decode cX9_butFor 0 = .ok (.aload_n 0, 1) := by decide +kernel
theorem dX9_butFor_1 : decode cX9_butFor 1 = .ok (.iload_n 1, 1) := by decide +kernel
theorem dX9_butFor_2 : decode cX9_butFor 2 = .ok (.invokevirtual 192, 3) := by decide +kernel
theorem dX9_butFor_5 : decode cX9_butFor 5 = .ok (.ifCond .eq 11, 3) := by decide +kernel
theorem dX9_butFor_8 : decode cX9_butFor 8 = .ok (.aload_n 0, 1) := by decide +kernel
theorem dX9_butFor_9 : decode cX9_butFor 9 = .ok (.iload_n 2, 1) := by decide +kernel
theorem dX9_butFor_10 : decode cX9_butFor 10 = .ok (.invokevirtual 192, 3) := by decide +kernel
theorem dX9_butFor_13 : decode cX9_butFor 13 = .ok (.ifCond .ne 5, 3) := by decide +kernel
theorem dX9_butFor_16 : decode cX9_butFor 16 = .ok (.iconst (-1), 1) := by decide +kernel
theorem dX9_butFor_17 : decode cX9_butFor 17 = .ok (.ireturn, 1) := by decide +kernel
theorem dX9_butFor_18 : decode cX9_butFor 18 = .ok (.aload_n 0, 1) := by decide +kernel
theorem dX9_butFor_19 : decode cX9_butFor 19 = .ok (.invokevirtual 206, 3) := by decide +kernel
theorem dX9_butFor_22 : decode cX9_butFor 22 = .ok (.aload_n 0, 1) := by decide +kernel
theorem dX9_butFor_23 : decode cX9_butFor 23 = .ok (.iload_n 1, 1) := by decide +kernel
theorem dX9_butFor_24 : decode cX9_butFor 24 = .ok (.iload_n 2, 1) := by decide +kernel
theorem dX9_butFor_25 : decode cX9_butFor 25 = .ok (.invokevirtual 209, 3) := by decide +kernel
theorem dX9_butFor_28 : decode cX9_butFor 28 = .ok (.ireturn, 1) := by decide +kernel
theorem dX9_look_0 : decode cX9_look 0 = .ok (.aload_n 0, 1) := by decide +kernel
theorem dX9_look_1 : decode cX9_look 1 = .ok (.iload_n 1, 1) := by decide +kernel
theorem dX9_look_2 : decode cX9_look 2 = .ok (.invokevirtual 192, 3) := by decide +kernel
theorem dX9_look_5 : decode cX9_look 5 = .ok (.ifCond .eq 11, 3) := by decide +kernel
theorem dX9_look_8 : decode cX9_look 8 = .ok (.aload_n 0, 1) := by decide +kernel
theorem dX9_look_9 : decode cX9_look 9 = .ok (.iload_n 2, 1) := by decide +kernel
theorem dX9_look_10 : decode cX9_look 10 = .ok (.invokevirtual 192, 3) := by decide +kernel
theorem dX9_look_13 : decode cX9_look 13 = .ok (.ifCond .ne 5, 3) := by decide +kernel
theorem dX9_look_16 : decode cX9_look 16 = .ok (.iconst (-1), 1) := by decide +kernel
theorem dX9_look_17 : decode cX9_look 17 = .ok (.ireturn, 1) := by decide +kernel
theorem dX9_look_18 : decode cX9_look 18 = .ok (.aload_n 0, 1) := by decide +kernel
theorem dX9_look_19 : decode cX9_look 19 = .ok (.invokevirtual 206, 3) := by decide +kernel
theorem dX9_look_22 : decode cX9_look 22 = .ok (.iconst 0, 1) := by decide +kernel
theorem dX9_look_23 : decode cX9_look 23 = .ok (.istore 4, 2) := by decide +kernel
theorem dX9_look_25 : decode cX9_look 25 = .ok (.iconst 0, 1) := by decide +kernel
theorem dX9_look_26 : decode cX9_look 26 = .ok (.istore 5, 2) := by decide +kernel
theorem dX9_look_28 : decode cX9_look 28 = .ok (.iload 5, 2) := by decide +kernel
theorem dX9_look_30 : decode cX9_look 30 = .ok (.aload_n 0, 1) := by decide +kernel
theorem dX9_look_31 : decode cX9_look 31 = .ok (.getfield 51, 3) := by decide +kernel
theorem dX9_look_34 : decode cX9_look 34 = .ok (.aload_n 0, 1) := by decide +kernel
theorem dX9_look_35 : decode cX9_look 35 = .ok (.invokevirtual 181, 3) := by decide +kernel
theorem dX9_look_38 : decode cX9_look 38 = .ok (.iaload, 1) := by decide +kernel
theorem dX9_look_39 : decode cX9_look 39 = .ok (.if_icmp .ge 53, 3) := by decide +kernel
theorem dX9_look_42 : decode cX9_look 42 = .ok (.aload_n 0, 1) := by decide +kernel
theorem dX9_look_43 : decode cX9_look 43 = .ok (.getfield 69, 3) := by decide +kernel
theorem dX9_look_46 : decode cX9_look 46 = .ok (.sipush 360, 3) := by decide +kernel
theorem dX9_look_49 : decode cX9_look 49 = .ok (.iload_n 1, 1) := by decide +kernel
theorem dX9_look_50 : decode cX9_look 50 = .ok (.imul, 1) := by decide +kernel
theorem dX9_look_51 : decode cX9_look 51 = .ok (.iload 5, 2) := by decide +kernel
theorem dX9_look_53 : decode cX9_look 53 = .ok (.iadd, 1) := by decide +kernel
theorem dX9_look_54 : decode cX9_look 54 = .ok (.baload, 1) := by decide +kernel
theorem dX9_look_55 : decode cX9_look 55 = .ok (.ifCond .eq 31, 3) := by decide +kernel
theorem dX9_look_58 : decode cX9_look 58 = .ok (.aload_n 0, 1) := by decide +kernel
theorem dX9_look_59 : decode cX9_look 59 = .ok (.getfield 69, 3) := by decide +kernel
theorem dX9_look_62 : decode cX9_look 62 = .ok (.sipush 360, 3) := by decide +kernel
theorem dX9_look_65 : decode cX9_look 65 = .ok (.iload_n 2, 1) := by decide +kernel
theorem dX9_look_66 : decode cX9_look 66 = .ok (.imul, 1) := by decide +kernel
theorem dX9_look_67 : decode cX9_look 67 = .ok (.iload 5, 2) := by decide +kernel
theorem dX9_look_69 : decode cX9_look 69 = .ok (.iadd, 1) := by decide +kernel
theorem dX9_look_70 : decode cX9_look 70 = .ok (.baload, 1) := by decide +kernel
theorem dX9_look_71 : decode cX9_look 71 = .ok (.ifCond .ne 15, 3) := by decide +kernel
theorem dX9_look_74 : decode cX9_look 74 = .ok (.iload 4, 2) := by decide +kernel
theorem dX9_look_76 : decode cX9_look 76 = .ok (.iload_n 3, 1) := by decide +kernel
theorem dX9_look_77 : decode cX9_look 77 = .ok (.if_icmp .ne 6, 3) := by decide +kernel
theorem dX9_look_80 : decode cX9_look 80 = .ok (.iload 5, 2) := by decide +kernel
theorem dX9_look_82 : decode cX9_look 82 = .ok (.ireturn, 1) := by decide +kernel
theorem dX9_look_83 : decode cX9_look 83 = .ok (.iinc 4 1, 3) := by decide +kernel
theorem dX9_look_86 : decode cX9_look 86 = .ok (.iinc 5 1, 3) := by decide +kernel
theorem dX9_look_89 : decode cX9_look 89 = .ok (.goto (-61), 3) := by decide +kernel
theorem dX9_look_92 : decode cX9_look 92 = .ok (.bipush (-9), 2) := by decide +kernel
theorem dX9_look_94 : decode cX9_look 94 = .ok (.ireturn, 1) := by decide +kernel
theorem dX9_never_0 : decode cX9_never 0 = .ok (.aload_n 0, 1) := by decide +kernel
theorem dX9_never_1 : decode cX9_never 1 = .ok (.iload_n 1, 1) := by decide +kernel
theorem dX9_never_2 : decode cX9_never 2 = .ok (.invokevirtual 192, 3) := by decide +kernel
theorem dX9_never_5 : decode cX9_never 5 = .ok (.ifCond .eq 11, 3) := by decide +kernel
theorem dX9_never_8 : decode cX9_never 8 = .ok (.aload_n 0, 1) := by decide +kernel
theorem dX9_never_9 : decode cX9_never 9 = .ok (.iload_n 2, 1) := by decide +kernel
theorem dX9_never_10 : decode cX9_never 10 = .ok (.invokevirtual 192, 3) := by decide +kernel
theorem dX9_never_13 : decode cX9_never 13 = .ok (.ifCond .ne 5, 3) := by decide +kernel
theorem dX9_never_16 : decode cX9_never 16 = .ok (.iconst (-1), 1) := by decide +kernel
theorem dX9_never_17 : decode cX9_never 17 = .ok (.ireturn, 1) := by decide +kernel
theorem dX9_never_18 : decode cX9_never 18 = .ok (.aload_n 0, 1) := by decide +kernel
theorem dX9_never_19 : decode cX9_never 19 = .ok (.invokevirtual 206, 3) := by decide +kernel
theorem dX9_never_22 : decode cX9_never 22 = .ok (.aload_n 0, 1) := by decide +kernel
theorem dX9_never_23 : decode cX9_never 23 = .ok (.iload_n 1, 1) := by decide +kernel
theorem dX9_never_24 : decode cX9_never 24 = .ok (.iload_n 2, 1) := by decide +kernel
theorem dX9_never_25 : decode cX9_never 25 = .ok (.invokevirtual 209, 3) := by decide +kernel
theorem dX9_never_28 : decode cX9_never 28 = .ok (.aload_n 0, 1) := by decide +kernel
theorem dX9_never_29 : decode cX9_never 29 = .ok (.iload_n 1, 1) := by decide +kernel
theorem dX9_never_30 : decode cX9_never 30 = .ok (.invokevirtual 213, 3) := by decide +kernel
theorem dX9_never_33 : decode cX9_never 33 = .ok (.if_icmp .ne 7, 3) := by decide +kernel
theorem dX9_never_36 : decode cX9_never 36 = .ok (.iconst 1, 1) := by decide +kernel
theorem dX9_never_37 : decode cX9_never 37 = .ok (.goto 4, 3) := by decide +kernel
theorem dX9_never_40 : decode cX9_never 40 = .ok (.iconst 0, 1) := by decide +kernel
theorem dX9_never_41 : decode cX9_never 41 = .ok (.ireturn, 1) := by decide +kernel
theorem dX9_deny_0 : decode cX9_deny 0 = .ok (.aload_n 0, 1) := by decide +kernel
theorem dX9_deny_1 : decode cX9_deny 1 = .ok (.iload_n 1, 1) := by decide +kernel
theorem dX9_deny_2 : decode cX9_deny 2 = .ok (.invokevirtual 192, 3) := by decide +kernel
theorem dX9_deny_5 : decode cX9_deny 5 = .ok (.ifCond .eq 11, 3) := by decide +kernel
theorem dX9_deny_8 : decode cX9_deny 8 = .ok (.aload_n 0, 1) := by decide +kernel
theorem dX9_deny_9 : decode cX9_deny 9 = .ok (.iload_n 2, 1) := by decide +kernel
theorem dX9_deny_10 : decode cX9_deny 10 = .ok (.invokevirtual 192, 3) := by decide +kernel
theorem dX9_deny_13 : decode cX9_deny 13 = .ok (.ifCond .ne 5, 3) := by decide +kernel
theorem dX9_deny_16 : decode cX9_deny 16 = .ok (.iconst (-1), 1) := by decide +kernel
theorem dX9_deny_17 : decode cX9_deny 17 = .ok (.ireturn, 1) := by decide +kernel
theorem dX9_deny_18 : decode cX9_deny 18 = .ok (.aload_n 0, 1) := by decide +kernel
theorem dX9_deny_19 : decode cX9_deny 19 = .ok (.invokevirtual 175, 3) := by decide +kernel
theorem dX9_deny_22 : decode cX9_deny 22 = .ok (.iload_n 1, 1) := by decide +kernel
theorem dX9_deny_23 : decode cX9_deny 23 = .ok (.iload_n 2, 1) := by decide +kernel
theorem dX9_deny_24 : decode cX9_deny 24 = .ok (.if_icmp .le 7, 3) := by decide +kernel
theorem dX9_deny_27 : decode cX9_deny 27 = .ok (.iload_n 1, 1) := by decide +kernel
theorem dX9_deny_28 : decode cX9_deny 28 = .ok (.goto 4, 3) := by decide +kernel
theorem dX9_deny_31 : decode cX9_deny 31 = .ok (.iload_n 2, 1) := by decide +kernel
theorem dX9_deny_32 : decode cX9_deny 32 = .ok (.istore_n 3, 1) := by decide +kernel
theorem dX9_deny_33 : decode cX9_deny 33 = .ok (.iconst 0, 1) := by decide +kernel
theorem dX9_deny_34 : decode cX9_deny 34 = .ok (.istore 4, 2) := by decide +kernel
theorem dX9_deny_36 : decode cX9_deny 36 = .ok (.iload 4, 2) := by decide +kernel
theorem dX9_deny_38 : decode cX9_deny 38 = .ok (.aload_n 0, 1) := by decide +kernel
theorem dX9_deny_39 : decode cX9_deny 39 = .ok (.getfield 157, 3) := by decide +kernel
theorem dX9_deny_42 : decode cX9_deny 42 = .ok (.if_icmp .ge 118, 3) := by decide +kernel
theorem dX9_deny_45 : decode cX9_deny 45 = .ok (.aload_n 0, 1) := by decide +kernel
theorem dX9_deny_46 : decode cX9_deny 46 = .ok (.aload_n 0, 1) := by decide +kernel
theorem dX9_deny_47 : decode cX9_deny 47 = .ok (.getfield 48, 3) := by decide +kernel
theorem dX9_deny_50 : decode cX9_deny 50 = .ok (.iload 4, 2) := by decide +kernel
theorem dX9_deny_52 : decode cX9_deny 52 = .ok (.iaload, 1) := by decide +kernel
theorem dX9_deny_53 : decode cX9_deny 53 = .ok (.invokevirtual 138, 3) := by decide +kernel
theorem dX9_deny_56 : decode cX9_deny 56 = .ok (.iconst 0, 1) := by decide +kernel
theorem dX9_deny_57 : decode cX9_deny 57 = .ok (.istore 5, 2) := by decide +kernel
theorem dX9_deny_59 : decode cX9_deny 59 = .ok (.iload 5, 2) := by decide +kernel
theorem dX9_deny_61 : decode cX9_deny 61 = .ok (.iload_n 3, 1) := by decide +kernel
theorem dX9_deny_62 : decode cX9_deny 62 = .ok (.if_icmp .gt 15, 3) := by decide +kernel
theorem dX9_deny_65 : decode cX9_deny 65 = .ok (.aload_n 0, 1) := by decide +kernel
theorem dX9_deny_66 : decode cX9_deny 66 = .ok (.iload 5, 2) := by decide +kernel
theorem dX9_deny_68 : decode cX9_deny 68 = .ok (.invokevirtual 203, 3) := by decide +kernel
theorem dX9_deny_71 : decode cX9_deny 71 = .ok (.iinc 5 1, 3) := by decide +kernel
theorem dX9_deny_74 : decode cX9_deny 74 = .ok (.goto (-15), 3) := by decide +kernel
theorem dX9_deny_77 : decode cX9_deny 77 = .ok (.iconst 0, 1) := by decide +kernel
theorem dX9_deny_78 : decode cX9_deny 78 = .ok (.istore 5, 2) := by decide +kernel
theorem dX9_deny_80 : decode cX9_deny 80 = .ok (.iload 5, 2) := by decide +kernel
theorem dX9_deny_82 : decode cX9_deny 82 = .ok (.aload_n 0, 1) := by decide +kernel
theorem dX9_deny_83 : decode cX9_deny 83 = .ok (.getfield 124, 3) := by decide +kernel
theorem dX9_deny_86 : decode cX9_deny 86 = .ok (.aload_n 0, 1) := by decide +kernel
theorem dX9_deny_87 : decode cX9_deny 87 = .ok (.getfield 124, 3) := by decide +kernel
theorem dX9_deny_90 : decode cX9_deny 90 = .ok (.imul, 1) := by decide +kernel
theorem dX9_deny_91 : decode cX9_deny 91 = .ok (.if_icmp .ge 63, 3) := by decide +kernel
theorem dX9_deny_94 : decode cX9_deny 94 = .ok (.aload_n 0, 1) := by decide +kernel
theorem dX9_deny_95 : decode cX9_deny 95 = .ok (.getfield 66, 3) := by decide +kernel
theorem dX9_deny_98 : decode cX9_deny 98 = .ok (.bipush 9, 2) := by decide +kernel
theorem dX9_deny_100 : decode cX9_deny 100 = .ok (.iload_n 1, 1) := by decide +kernel
theorem dX9_deny_101 : decode cX9_deny 101 = .ok (.imul, 1) := by decide +kernel
theorem dX9_deny_102 : decode cX9_deny 102 = .ok (.iload 5, 2) := by decide +kernel
theorem dX9_deny_104 : decode cX9_deny 104 = .ok (.iadd, 1) := by decide +kernel
theorem dX9_deny_105 : decode cX9_deny 105 = .ok (.baload, 1) := by decide +kernel
theorem dX9_deny_106 : decode cX9_deny 106 = .ok (.ifCond .eq 42, 3) := by decide +kernel
theorem dX9_deny_109 : decode cX9_deny 109 = .ok (.aload_n 0, 1) := by decide +kernel
theorem dX9_deny_110 : decode cX9_deny 110 = .ok (.getfield 66, 3) := by decide +kernel
theorem dX9_deny_113 : decode cX9_deny 113 = .ok (.bipush 9, 2) := by decide +kernel
theorem dX9_deny_115 : decode cX9_deny 115 = .ok (.iload_n 2, 1) := by decide +kernel
theorem dX9_deny_116 : decode cX9_deny 116 = .ok (.imul, 1) := by decide +kernel
theorem dX9_deny_117 : decode cX9_deny 117 = .ok (.iload 5, 2) := by decide +kernel
theorem dX9_deny_119 : decode cX9_deny 119 = .ok (.iadd, 1) := by decide +kernel
theorem dX9_deny_120 : decode cX9_deny 120 = .ok (.baload, 1) := by decide +kernel
theorem dX9_deny_121 : decode cX9_deny 121 = .ok (.ifCond .ne 27, 3) := by decide +kernel
theorem dX9_deny_124 : decode cX9_deny 124 = .ok (.ldc 149, 2) := by decide +kernel
theorem dX9_deny_126 : decode cX9_deny 126 = .ok (.aload_n 0, 1) := by decide +kernel
theorem dX9_deny_127 : decode cX9_deny 127 = .ok (.getfield 124, 3) := by decide +kernel
theorem dX9_deny_130 : decode cX9_deny 130 = .ok (.imul, 1) := by decide +kernel
theorem dX9_deny_131 : decode cX9_deny 131 = .ok (.aload_n 0, 1) := by decide +kernel
theorem dX9_deny_132 : decode cX9_deny 132 = .ok (.getfield 48, 3) := by decide +kernel
theorem dX9_deny_135 : decode cX9_deny 135 = .ok (.iload 4, 2) := by decide +kernel
theorem dX9_deny_137 : decode cX9_deny 137 = .ok (.iaload, 1) := by decide +kernel
theorem dX9_deny_138 : decode cX9_deny 138 = .ok (.iadd, 1) := by decide +kernel
theorem dX9_deny_139 : decode cX9_deny 139 = .ok (.aload_n 0, 1) := by decide +kernel
theorem dX9_deny_140 : decode cX9_deny 140 = .ok (.getfield 124, 3) := by decide +kernel
theorem dX9_deny_143 : decode cX9_deny 143 = .ok (.invokestatic 127, 3) := by decide +kernel
theorem dX9_deny_146 : decode cX9_deny 146 = .ok (.isub, 1) := by decide +kernel
theorem dX9_deny_147 : decode cX9_deny 147 = .ok (.ireturn, 1) := by decide +kernel
theorem dX9_deny_148 : decode cX9_deny 148 = .ok (.iinc 5 1, 3) := by decide +kernel
theorem dX9_deny_151 : decode cX9_deny 151 = .ok (.goto (-71), 3) := by decide +kernel
theorem dX9_deny_154 : decode cX9_deny 154 = .ok (.iinc 4 1, 3) := by decide +kernel
theorem dX9_deny_157 : decode cX9_deny 157 = .ok (.goto (-121), 3) := by decide +kernel
theorem dX9_deny_160 : decode cX9_deny 160 = .ok (.bipush (-9), 2) := by decide +kernel
theorem dX9_deny_162 : decode cX9_deny 162 = .ok (.ireturn, 1) := by decide +kernel
theorem dX9_weigh_0 : decode cX9_weigh 0 = .ok (.iload_n 1, 1) := by decide +kernel
theorem dX9_weigh_1 : decode cX9_weigh 1 = .ok (.i2l, 1) := by decide +kernel
theorem dX9_weigh_2 : decode cX9_weigh 2 = .ok (.lconst 0, 1) := by decide +kernel
theorem dX9_weigh_3 : decode cX9_weigh 3 = .ok (.ldc2_w 219, 3) := by decide +kernel
theorem dX9_weigh_6 : decode cX9_weigh 6 = .ok (.invokestatic 105, 3) := by decide +kernel
theorem dX9_weigh_9 : decode cX9_weigh 9 = .ok (.ifCond .eq 15, 3) := by decide +kernel
theorem dX9_weigh_12 : decode cX9_weigh 12 = .ok (.iload_n 2, 1) := by decide +kernel
theorem dX9_weigh_13 : decode cX9_weigh 13 = .ok (.i2l, 1) := by decide +kernel
theorem dX9_weigh_14 : decode cX9_weigh 14 = .ok (.lconst 0, 1) := by decide +kernel
theorem dX9_weigh_15 : decode cX9_weigh 15 = .ok (.ldc2_w 221, 3) := by decide +kernel
theorem dX9_weigh_18 : decode cX9_weigh 18 = .ok (.invokestatic 105, 3) := by decide +kernel
theorem dX9_weigh_21 : decode cX9_weigh 21 = .ok (.ifCond .ne 6, 3) := by decide +kernel
theorem dX9_weigh_24 : decode cX9_weigh 24 = .ok (.bipush (-2), 2) := by decide +kernel
theorem dX9_weigh_26 : decode cX9_weigh 26 = .ok (.ireturn, 1) := by decide +kernel
theorem dX9_weigh_27 : decode cX9_weigh 27 = .ok (.aload_n 0, 1) := by decide +kernel
theorem dX9_weigh_28 : decode cX9_weigh 28 = .ok (.getfield 72, 3) := by decide +kernel
theorem dX9_weigh_31 : decode cX9_weigh 31 = .ok (.iload_n 1, 1) := by decide +kernel
theorem dX9_weigh_32 : decode cX9_weigh 32 = .ok (.iaload, 1) := by decide +kernel
theorem dX9_weigh_33 : decode cX9_weigh 33 = .ok (.istore_n 3, 1) := by decide +kernel
theorem dX9_weigh_34 : decode cX9_weigh 34 = .ok (.aload_n 0, 1) := by decide +kernel
theorem dX9_weigh_35 : decode cX9_weigh 35 = .ok (.getfield 72, 3) := by decide +kernel
theorem dX9_weigh_38 : decode cX9_weigh 38 = .ok (.iload_n 1, 1) := by decide +kernel
theorem dX9_weigh_39 : decode cX9_weigh 39 = .ok (.iload_n 2, 1) := by decide +kernel
theorem dX9_weigh_40 : decode cX9_weigh 40 = .ok (.iastore, 1) := by decide +kernel
theorem dX9_weigh_41 : decode cX9_weigh 41 = .ok (.iload_n 3, 1) := by decide +kernel
theorem dX9_weigh_42 : decode cX9_weigh 42 = .ok (.ireturn, 1) := by decide +kernel
theorem dX9_wake_0 : decode cX9_wake 0 = .ok (.aload_n 0, 1) := by decide +kernel
theorem dX9_wake_1 : decode cX9_wake 1 = .ok (.iload_n 1, 1) := by decide +kernel
theorem dX9_wake_2 : decode cX9_wake 2 = .ok (.invokevirtual 192, 3) := by decide +kernel
theorem dX9_wake_5 : decode cX9_wake 5 = .ok (.ifCond .ne 5, 3) := by decide +kernel
theorem dX9_wake_8 : decode cX9_wake 8 = .ok (.iconst (-1), 1) := by decide +kernel
theorem dX9_wake_9 : decode cX9_wake 9 = .ok (.ireturn, 1) := by decide +kernel
theorem dX9_wake_10 : decode cX9_wake 10 = .ok (.aload_n 0, 1) := by decide +kernel
theorem dX9_wake_11 : decode cX9_wake 11 = .ok (.getfield 63, 3) := by decide +kernel
theorem dX9_wake_14 : decode cX9_wake 14 = .ok (.iload_n 1, 1) := by decide +kernel
theorem dX9_wake_15 : decode cX9_wake 15 = .ok (.baload, 1) := by decide +kernel
theorem dX9_wake_16 : decode cX9_wake 16 = .ok (.ifCond .eq 7, 3) := by decide +kernel
theorem dX9_wake_19 : decode cX9_wake 19 = .ok (.iconst 0, 1) := by decide +kernel
theorem dX9_wake_20 : decode cX9_wake 20 = .ok (.goto 4, 3) := by decide +kernel
theorem dX9_wake_23 : decode cX9_wake 23 = .ok (.iconst 1, 1) := by decide +kernel
theorem dX9_wake_24 : decode cX9_wake 24 = .ok (.istore_n 3, 1) := by decide +kernel
theorem dX9_wake_25 : decode cX9_wake 25 = .ok (.aload_n 0, 1) := by decide +kernel
theorem dX9_wake_26 : decode cX9_wake 26 = .ok (.getfield 63, 3) := by decide +kernel
theorem dX9_wake_29 : decode cX9_wake 29 = .ok (.iload_n 1, 1) := by decide +kernel
theorem dX9_wake_30 : decode cX9_wake 30 = .ok (.iload_n 2, 1) := by decide +kernel
theorem dX9_wake_31 : decode cX9_wake 31 = .ok (.ifCond .ne 7, 3) := by decide +kernel
theorem dX9_wake_34 : decode cX9_wake 34 = .ok (.iconst 1, 1) := by decide +kernel
theorem dX9_wake_35 : decode cX9_wake 35 = .ok (.goto 4, 3) := by decide +kernel
theorem dX9_wake_38 : decode cX9_wake 38 = .ok (.iconst 0, 1) := by decide +kernel
theorem dX9_wake_39 : decode cX9_wake 39 = .ok (.bastore, 1) := by decide +kernel
theorem dX9_wake_40 : decode cX9_wake 40 = .ok (.iload_n 3, 1) := by decide +kernel
theorem dX9_wake_41 : decode cX9_wake 41 = .ok (.ireturn, 1) := by decide +kernel
theorem dX9_rareOf_0 : decode cX9_rareOf 0 = .ok (.aload_n 0, 1) := by decide +kernel
theorem dX9_rareOf_1 : decode cX9_rareOf 1 = .ok (.iload_n 1, 1) := by decide +kernel
theorem dX9_rareOf_2 : decode cX9_rareOf 2 = .ok (.invokevirtual 213, 3) := by decide +kernel
theorem dX9_rareOf_5 : decode cX9_rareOf 5 = .ok (.istore_n 2, 1) := by decide +kernel
theorem dX9_rareOf_6 : decode cX9_rareOf 6 = .ok (.aload_n 0, 1) := by decide +kernel
theorem dX9_rareOf_7 : decode cX9_rareOf 7 = .ok (.getfield 51, 3) := by decide +kernel
theorem dX9_rareOf_10 : decode cX9_rareOf 10 = .ok (.aload_n 0, 1) := by decide +kernel
theorem dX9_rareOf_11 : decode cX9_rareOf 11 = .ok (.invokevirtual 181, 3) := by decide +kernel
theorem dX9_rareOf_14 : decode cX9_rareOf 14 = .ok (.iaload, 1) := by decide +kernel
theorem dX9_rareOf_15 : decode cX9_rareOf 15 = .ok (.iload_n 2, 1) := by decide +kernel
theorem dX9_rareOf_16 : decode cX9_rareOf 16 = .ok (.isub, 1) := by decide +kernel
theorem dX9_rareOf_17 : decode cX9_rareOf 17 = .ok (.istore_n 3, 1) := by decide +kernel
theorem dX9_rareOf_18 : decode cX9_rareOf 18 = .ok (.iload_n 2, 1) := by decide +kernel
theorem dX9_rareOf_19 : decode cX9_rareOf 19 = .ok (.iload_n 3, 1) := by decide +kernel
theorem dX9_rareOf_20 : decode cX9_rareOf 20 = .ok (.if_icmp .ge 7, 3) := by decide +kernel
theorem dX9_rareOf_23 : decode cX9_rareOf 23 = .ok (.iload_n 2, 1) := by decide +kernel
theorem dX9_rareOf_24 : decode cX9_rareOf 24 = .ok (.goto 4, 3) := by decide +kernel
theorem dX9_rareOf_27 : decode cX9_rareOf 27 = .ok (.iload_n 3, 1) := by decide +kernel
theorem dX9_rareOf_28 : decode cX9_rareOf 28 = .ok (.ireturn, 1) := by decide +kernel
theorem dX9_servesOf_0 : decode cX9_servesOf 0 = .ok (.iconst 0, 1) := by decide +kernel
theorem dX9_servesOf_1 : decode cX9_servesOf 1 = .ok (.istore_n 2, 1) := by decide +kernel
theorem dX9_servesOf_2 : decode cX9_servesOf 2 = .ok (.iconst 0, 1) := by decide +kernel
theorem dX9_servesOf_3 : decode cX9_servesOf 3 = .ok (.istore_n 3, 1) := by decide +kernel
theorem dX9_servesOf_4 : decode cX9_servesOf 4 = .ok (.iload_n 3, 1) := by decide +kernel
theorem dX9_servesOf_5 : decode cX9_servesOf 5 = .ok (.aload_n 0, 1) := by decide +kernel
theorem dX9_servesOf_6 : decode cX9_servesOf 6 = .ok (.getfield 187, 3) := by decide +kernel
theorem dX9_servesOf_9 : decode cX9_servesOf 9 = .ok (.if_icmp .ge 49, 3) := by decide +kernel
theorem dX9_servesOf_12 : decode cX9_servesOf 12 = .ok (.iload_n 2, 1) := by decide +kernel
theorem dX9_servesOf_13 : decode cX9_servesOf 13 = .ok (.iload_n 3, 1) := by decide +kernel
theorem dX9_servesOf_14 : decode cX9_servesOf 14 = .ok (.iload_n 1, 1) := by decide +kernel
theorem dX9_servesOf_15 : decode cX9_servesOf 15 = .ok (.if_icmp .eq 34, 3) := by decide +kernel
theorem dX9_servesOf_18 : decode cX9_servesOf 18 = .ok (.aload_n 0, 1) := by decide +kernel
theorem dX9_servesOf_19 : decode cX9_servesOf 19 = .ok (.getfield 63, 3) := by decide +kernel
theorem dX9_servesOf_22 : decode cX9_servesOf 22 = .ok (.iload_n 3, 1) := by decide +kernel
theorem dX9_servesOf_23 : decode cX9_servesOf 23 = .ok (.baload, 1) := by decide +kernel
theorem dX9_servesOf_24 : decode cX9_servesOf 24 = .ok (.ifCond .ne 25, 3) := by decide +kernel
theorem dX9_servesOf_27 : decode cX9_servesOf 27 = .ok (.aload_n 0, 1) := by decide +kernel
theorem dX9_servesOf_28 : decode cX9_servesOf 28 = .ok (.iload_n 3, 1) := by decide +kernel
theorem dX9_servesOf_29 : decode cX9_servesOf 29 = .ok (.iload_n 1, 1) := by decide +kernel
theorem dX9_servesOf_30 : decode cX9_servesOf 30 = .ok (.invokevirtual 209, 3) := by decide +kernel
theorem dX9_servesOf_33 : decode cX9_servesOf 33 = .ok (.ifCond .eq 12, 3) := by decide +kernel
theorem dX9_servesOf_36 : decode cX9_servesOf 36 = .ok (.aload_n 0, 1) := by decide +kernel
theorem dX9_servesOf_37 : decode cX9_servesOf 37 = .ok (.iload_n 1, 1) := by decide +kernel
theorem dX9_servesOf_38 : decode cX9_servesOf 38 = .ok (.iload_n 3, 1) := by decide +kernel
theorem dX9_servesOf_39 : decode cX9_servesOf 39 = .ok (.invokevirtual 209, 3) := by decide +kernel
theorem dX9_servesOf_42 : decode cX9_servesOf 42 = .ok (.ifCond .ne 7, 3) := by decide +kernel
theorem dX9_servesOf_45 : decode cX9_servesOf 45 = .ok (.iconst 1, 1) := by decide +kernel
theorem dX9_servesOf_46 : decode cX9_servesOf 46 = .ok (.goto 4, 3) := by decide +kernel
theorem dX9_servesOf_49 : decode cX9_servesOf 49 = .ok (.iconst 0, 1) := by decide +kernel
theorem dX9_servesOf_50 : decode cX9_servesOf 50 = .ok (.iadd, 1) := by decide +kernel
theorem dX9_servesOf_51 : decode cX9_servesOf 51 = .ok (.istore_n 2, 1) := by decide +kernel
theorem dX9_servesOf_52 : decode cX9_servesOf 52 = .ok (.iinc 3 1, 3) := by decide +kernel
theorem dX9_servesOf_55 : decode cX9_servesOf 55 = .ok (.goto (-51), 3) := by decide +kernel
theorem dX9_servesOf_58 : decode cX9_servesOf 58 = .ok (.iload_n 2, 1) := by decide +kernel
theorem dX9_servesOf_59 : decode cX9_servesOf 59 = .ok (.ireturn, 1) := by decide +kernel
theorem dX9_deepOf_0 : decode cX9_deepOf 0 = .ok (.iconst 0, 1) := by decide +kernel
theorem dX9_deepOf_1 : decode cX9_deepOf 1 = .ok (.istore_n 2, 1) := by decide +kernel
theorem dX9_deepOf_2 : decode cX9_deepOf 2 = .ok (.iload_n 2, 1) := by decide +kernel
theorem dX9_deepOf_3 : decode cX9_deepOf 3 = .ok (.iload_n 1, 1) := by decide +kernel
theorem dX9_deepOf_4 : decode cX9_deepOf 4 = .ok (.if_icmp .gt 67, 3) := by decide +kernel
theorem dX9_deepOf_7 : decode cX9_deepOf 7 = .ok (.aload_n 0, 1) := by decide +kernel
theorem dX9_deepOf_8 : decode cX9_deepOf 8 = .ok (.getfield 75, 3) := by decide +kernel
theorem dX9_deepOf_11 : decode cX9_deepOf 11 = .ok (.iload_n 2, 1) := by decide +kernel
theorem dX9_deepOf_12 : decode cX9_deepOf 12 = .ok (.aload_n 0, 1) := by decide +kernel
theorem dX9_deepOf_13 : decode cX9_deepOf 13 = .ok (.getfield 54, 3) := by decide +kernel
theorem dX9_deepOf_16 : decode cX9_deepOf 16 = .ok (.iload_n 2, 1) := by decide +kernel
theorem dX9_deepOf_17 : decode cX9_deepOf 17 = .ok (.iaload, 1) := by decide +kernel
theorem dX9_deepOf_18 : decode cX9_deepOf 18 = .ok (.ifCond .ne 7, 3) := by decide +kernel
theorem dX9_deepOf_21 : decode cX9_deepOf 21 = .ok (.iconst 1, 1) := by decide +kernel
theorem dX9_deepOf_22 : decode cX9_deepOf 22 = .ok (.goto 42, 3) := by decide +kernel
theorem dX9_deepOf_25 : decode cX9_deepOf 25 = .ok (.aload_n 0, 1) := by decide +kernel
theorem dX9_deepOf_26 : decode cX9_deepOf 26 = .ok (.getfield 75, 3) := by decide +kernel
theorem dX9_deepOf_29 : decode cX9_deepOf 29 = .ok (.aload_n 0, 1) := by decide +kernel
theorem dX9_deepOf_30 : decode cX9_deepOf 30 = .ok (.getfield 57, 3) := by decide +kernel
theorem dX9_deepOf_33 : decode cX9_deepOf 33 = .ok (.iload_n 2, 1) := by decide +kernel
theorem dX9_deepOf_34 : decode cX9_deepOf 34 = .ok (.iaload, 1) := by decide +kernel
theorem dX9_deepOf_35 : decode cX9_deepOf 35 = .ok (.iaload, 1) := by decide +kernel
theorem dX9_deepOf_36 : decode cX9_deepOf 36 = .ok (.aload_n 0, 1) := by decide +kernel
theorem dX9_deepOf_37 : decode cX9_deepOf 37 = .ok (.getfield 54, 3) := by decide +kernel
theorem dX9_deepOf_40 : decode cX9_deepOf 40 = .ok (.iload_n 2, 1) := by decide +kernel
theorem dX9_deepOf_41 : decode cX9_deepOf 41 = .ok (.iaload, 1) := by decide +kernel
theorem dX9_deepOf_42 : decode cX9_deepOf 42 = .ok (.iconst 2, 1) := by decide +kernel
theorem dX9_deepOf_43 : decode cX9_deepOf 43 = .ok (.if_icmp .ne 17, 3) := by decide +kernel
theorem dX9_deepOf_46 : decode cX9_deepOf 46 = .ok (.aload_n 0, 1) := by decide +kernel
theorem dX9_deepOf_47 : decode cX9_deepOf 47 = .ok (.getfield 75, 3) := by decide +kernel
theorem dX9_deepOf_50 : decode cX9_deepOf 50 = .ok (.aload_n 0, 1) := by decide +kernel
theorem dX9_deepOf_51 : decode cX9_deepOf 51 = .ok (.getfield 60, 3) := by decide +kernel
theorem dX9_deepOf_54 : decode cX9_deepOf 54 = .ok (.iload_n 2, 1) := by decide +kernel
theorem dX9_deepOf_55 : decode cX9_deepOf 55 = .ok (.iaload, 1) := by decide +kernel
theorem dX9_deepOf_56 : decode cX9_deepOf 56 = .ok (.iaload, 1) := by decide +kernel
theorem dX9_deepOf_57 : decode cX9_deepOf 57 = .ok (.goto 4, 3) := by decide +kernel
theorem dX9_deepOf_60 : decode cX9_deepOf 60 = .ok (.iconst 0, 1) := by decide +kernel
theorem dX9_deepOf_61 : decode cX9_deepOf 61 = .ok (.iadd, 1) := by decide +kernel
theorem dX9_deepOf_62 : decode cX9_deepOf 62 = .ok (.iconst 1, 1) := by decide +kernel
theorem dX9_deepOf_63 : decode cX9_deepOf 63 = .ok (.iadd, 1) := by decide +kernel
theorem dX9_deepOf_64 : decode cX9_deepOf 64 = .ok (.iastore, 1) := by decide +kernel
theorem dX9_deepOf_65 : decode cX9_deepOf 65 = .ok (.iinc 2 1, 3) := by decide +kernel
theorem dX9_deepOf_68 : decode cX9_deepOf 68 = .ok (.goto (-66), 3) := by decide +kernel
theorem dX9_deepOf_71 : decode cX9_deepOf 71 = .ok (.aload_n 0, 1) := by decide +kernel
theorem dX9_deepOf_72 : decode cX9_deepOf 72 = .ok (.getfield 75, 3) := by decide +kernel
theorem dX9_deepOf_75 : decode cX9_deepOf 75 = .ok (.iload_n 1, 1) := by decide +kernel
theorem dX9_deepOf_76 : decode cX9_deepOf 76 = .ok (.iaload, 1) := by decide +kernel
theorem dX9_deepOf_77 : decode cX9_deepOf 77 = .ok (.ireturn, 1) := by decide +kernel
theorem dX9_worthOf_0 : decode cX9_worthOf 0 = .ok (.aload_n 0, 1) := by decide +kernel
theorem dX9_worthOf_1 : decode cX9_worthOf 1 = .ok (.getfield 72, 3) := by decide +kernel
theorem dX9_worthOf_4 : decode cX9_worthOf 4 = .ok (.iconst 0, 1) := by decide +kernel
theorem dX9_worthOf_5 : decode cX9_worthOf 5 = .ok (.iaload, 1) := by decide +kernel
theorem dX9_worthOf_6 : decode cX9_worthOf 6 = .ok (.aload_n 0, 1) := by decide +kernel
theorem dX9_worthOf_7 : decode cX9_worthOf 7 = .ok (.iload_n 1, 1) := by decide +kernel
theorem dX9_worthOf_8 : decode cX9_worthOf 8 = .ok (.invokevirtual 223, 3) := by decide +kernel
theorem dX9_worthOf_11 : decode cX9_worthOf 11 = .ok (.imul, 1) := by decide +kernel
theorem dX9_worthOf_12 : decode cX9_worthOf 12 = .ok (.aload_n 0, 1) := by decide +kernel
theorem dX9_worthOf_13 : decode cX9_worthOf 13 = .ok (.getfield 72, 3) := by decide +kernel
theorem dX9_worthOf_16 : decode cX9_worthOf 16 = .ok (.iconst 1, 1) := by decide +kernel
theorem dX9_worthOf_17 : decode cX9_worthOf 17 = .ok (.iaload, 1) := by decide +kernel
theorem dX9_worthOf_18 : decode cX9_worthOf 18 = .ok (.aload_n 0, 1) := by decide +kernel
theorem dX9_worthOf_19 : decode cX9_worthOf 19 = .ok (.iload_n 1, 1) := by decide +kernel
theorem dX9_worthOf_20 : decode cX9_worthOf 20 = .ok (.invokevirtual 226, 3) := by decide +kernel
theorem dX9_worthOf_23 : decode cX9_worthOf 23 = .ok (.imul, 1) := by decide +kernel
theorem dX9_worthOf_24 : decode cX9_worthOf 24 = .ok (.iadd, 1) := by decide +kernel
theorem dX9_worthOf_25 : decode cX9_worthOf 25 = .ok (.aload_n 0, 1) := by decide +kernel
theorem dX9_worthOf_26 : decode cX9_worthOf 26 = .ok (.getfield 72, 3) := by decide +kernel
theorem dX9_worthOf_29 : decode cX9_worthOf 29 = .ok (.iconst 2, 1) := by decide +kernel
theorem dX9_worthOf_30 : decode cX9_worthOf 30 = .ok (.iaload, 1) := by decide +kernel
theorem dX9_worthOf_31 : decode cX9_worthOf 31 = .ok (.aload_n 0, 1) := by decide +kernel
theorem dX9_worthOf_32 : decode cX9_worthOf 32 = .ok (.iload_n 1, 1) := by decide +kernel
theorem dX9_worthOf_33 : decode cX9_worthOf 33 = .ok (.invokevirtual 229, 3) := by decide +kernel
theorem dX9_worthOf_36 : decode cX9_worthOf 36 = .ok (.imul, 1) := by decide +kernel
theorem dX9_worthOf_37 : decode cX9_worthOf 37 = .ok (.isub, 1) := by decide +kernel
theorem dX9_worthOf_38 : decode cX9_worthOf 38 = .ok (.ireturn, 1) := by decide +kernel
theorem dX9_worth_0 : decode cX9_worth 0 = .ok (.aload_n 0, 1) := by decide +kernel
theorem dX9_worth_1 : decode cX9_worth 1 = .ok (.iload_n 1, 1) := by decide +kernel
theorem dX9_worth_2 : decode cX9_worth 2 = .ok (.invokevirtual 192, 3) := by decide +kernel
theorem dX9_worth_5 : decode cX9_worth 5 = .ok (.ifCond .ne 5, 3) := by decide +kernel
theorem dX9_worth_8 : decode cX9_worth 8 = .ok (.iconst (-1), 1) := by decide +kernel
theorem dX9_worth_9 : decode cX9_worth 9 = .ok (.ireturn, 1) := by decide +kernel
theorem dX9_worth_10 : decode cX9_worth 10 = .ok (.aload_n 0, 1) := by decide +kernel
theorem dX9_worth_11 : decode cX9_worth 11 = .ok (.invokevirtual 206, 3) := by decide +kernel
theorem dX9_worth_14 : decode cX9_worth 14 = .ok (.iload_n 2, 1) := by decide +kernel
theorem dX9_worth_15 : decode cX9_worth 15 = .ok (.tableswitch 56 0 3 #[29, 35, 41, 47], 29) := by decide +kernel
theorem dX9_worth_44 : decode cX9_worth 44 = .ok (.aload_n 0, 1) := by decide +kernel
theorem dX9_worth_45 : decode cX9_worth 45 = .ok (.iload_n 1, 1) := by decide +kernel
theorem dX9_worth_46 : decode cX9_worth 46 = .ok (.invokevirtual 223, 3) := by decide +kernel
theorem dX9_worth_49 : decode cX9_worth 49 = .ok (.ireturn, 1) := by decide +kernel
theorem dX9_worth_50 : decode cX9_worth 50 = .ok (.aload_n 0, 1) := by decide +kernel
theorem dX9_worth_51 : decode cX9_worth 51 = .ok (.iload_n 1, 1) := by decide +kernel
theorem dX9_worth_52 : decode cX9_worth 52 = .ok (.invokevirtual 226, 3) := by decide +kernel
theorem dX9_worth_55 : decode cX9_worth 55 = .ok (.ireturn, 1) := by decide +kernel
theorem dX9_worth_56 : decode cX9_worth 56 = .ok (.aload_n 0, 1) := by decide +kernel
theorem dX9_worth_57 : decode cX9_worth 57 = .ok (.iload_n 1, 1) := by decide +kernel
theorem dX9_worth_58 : decode cX9_worth 58 = .ok (.invokevirtual 229, 3) := by decide +kernel
theorem dX9_worth_61 : decode cX9_worth 61 = .ok (.ireturn, 1) := by decide +kernel
theorem dX9_worth_62 : decode cX9_worth 62 = .ok (.aload_n 0, 1) := by decide +kernel
theorem dX9_worth_63 : decode cX9_worth 63 = .ok (.iload_n 1, 1) := by decide +kernel
theorem dX9_worth_64 : decode cX9_worth 64 = .ok (.invokevirtual 232, 3) := by decide +kernel
theorem dX9_worth_67 : decode cX9_worth 67 = .ok (.ldc 149, 2) := by decide +kernel
theorem dX9_worth_69 : decode cX9_worth 69 = .ok (.iadd, 1) := by decide +kernel
theorem dX9_worth_70 : decode cX9_worth 70 = .ok (.ireturn, 1) := by decide +kernel
theorem dX9_worth_71 : decode cX9_worth 71 = .ok (.bipush (-2), 2) := by decide +kernel
theorem dX9_worth_73 : decode cX9_worth 73 = .ok (.ireturn, 1) := by decide +kernel
theorem dX9_best_0 : decode cX9_best 0 = .ok (.aload_n 0, 1) := by decide +kernel
theorem dX9_best_1 : decode cX9_best 1 = .ok (.invokevirtual 206, 3) := by decide +kernel
theorem dX9_best_4 : decode cX9_best 4 = .ok (.bipush (-9), 2) := by decide +kernel
theorem dX9_best_6 : decode cX9_best 6 = .ok (.istore_n 1, 1) := by decide +kernel
theorem dX9_best_7 : decode cX9_best 7 = .ok (.iconst 0, 1) := by decide +kernel
theorem dX9_best_8 : decode cX9_best 8 = .ok (.istore_n 2, 1) := by decide +kernel
theorem dX9_best_9 : decode cX9_best 9 = .ok (.iload_n 2, 1) := by decide +kernel
theorem dX9_best_10 : decode cX9_best 10 = .ok (.aload_n 0, 1) := by decide +kernel
theorem dX9_best_11 : decode cX9_best 11 = .ok (.getfield 187, 3) := by decide +kernel
theorem dX9_best_14 : decode cX9_best 14 = .ok (.if_icmp .ge 43, 3) := by decide +kernel
theorem dX9_best_17 : decode cX9_best 17 = .ok (.aload_n 0, 1) := by decide +kernel
theorem dX9_best_18 : decode cX9_best 18 = .ok (.getfield 63, 3) := by decide +kernel
theorem dX9_best_21 : decode cX9_best 21 = .ok (.iload_n 2, 1) := by decide +kernel
theorem dX9_best_22 : decode cX9_best 22 = .ok (.baload, 1) := by decide +kernel
theorem dX9_best_23 : decode cX9_best 23 = .ok (.ifCond .ne 26, 3) := by decide +kernel
theorem dX9_best_26 : decode cX9_best 26 = .ok (.iload_n 1, 1) := by decide +kernel
theorem dX9_best_27 : decode cX9_best 27 = .ok (.bipush (-9), 2) := by decide +kernel
theorem dX9_best_29 : decode cX9_best 29 = .ok (.if_icmp .eq 16, 3) := by decide +kernel
theorem dX9_best_32 : decode cX9_best 32 = .ok (.aload_n 0, 1) := by decide +kernel
theorem dX9_best_33 : decode cX9_best 33 = .ok (.iload_n 2, 1) := by decide +kernel
theorem dX9_best_34 : decode cX9_best 34 = .ok (.invokevirtual 232, 3) := by decide +kernel
theorem dX9_best_37 : decode cX9_best 37 = .ok (.aload_n 0, 1) := by decide +kernel
theorem dX9_best_38 : decode cX9_best 38 = .ok (.iload_n 1, 1) := by decide +kernel
theorem dX9_best_39 : decode cX9_best 39 = .ok (.invokevirtual 232, 3) := by decide +kernel
theorem dX9_best_42 : decode cX9_best 42 = .ok (.if_icmp .le 7, 3) := by decide +kernel
theorem dX9_best_45 : decode cX9_best 45 = .ok (.iload_n 2, 1) := by decide +kernel
theorem dX9_best_46 : decode cX9_best 46 = .ok (.goto 4, 3) := by decide +kernel
theorem dX9_best_49 : decode cX9_best 49 = .ok (.iload_n 1, 1) := by decide +kernel
theorem dX9_best_50 : decode cX9_best 50 = .ok (.istore_n 1, 1) := by decide +kernel
theorem dX9_best_51 : decode cX9_best 51 = .ok (.iinc 2 1, 3) := by decide +kernel
theorem dX9_best_54 : decode cX9_best 54 = .ok (.goto (-45), 3) := by decide +kernel
theorem dX9_best_57 : decode cX9_best 57 = .ok (.iload_n 1, 1) := by decide +kernel
theorem dX9_best_58 : decode cX9_best 58 = .ok (.ireturn, 1) := by decide +kernel
theorem dX9_layTried_0 : decode cX9_layTried 0 = .ok (.aload_n 0, 1) := by decide +kernel
theorem dX9_layTried_1 : decode cX9_layTried 1 = .ok (.bipush 12, 2) := by decide +kernel
theorem dX9_layTried_3 : decode cX9_layTried 3 = .ok (.iload_n 1, 1) := by decide +kernel
theorem dX9_layTried_4 : decode cX9_layTried 4 = .ok (.iload_n 2, 1) := by decide +kernel
theorem dX9_layTried_5 : decode cX9_layTried 5 = .ok (.iload_n 3, 1) := by decide +kernel
theorem dX9_layTried_6 : decode cX9_layTried 6 = .ok (.invokevirtual 195, 3) := by decide +kernel
theorem dX9_layTried_9 : decode cX9_layTried 9 = .ok (.iconst 0, 1) := by decide +kernel
theorem dX9_layTried_10 : decode cX9_layTried 10 = .ok (.istore 4, 2) := by decide +kernel
theorem dX9_layTried_12 : decode cX9_layTried 12 = .ok (.iload 4, 2) := by decide +kernel
theorem dX9_layTried_14 : decode cX9_layTried 14 = .ok (.aload_n 0, 1) := by decide +kernel
theorem dX9_layTried_15 : decode cX9_layTried 15 = .ok (.invokevirtual 181, 3) := by decide +kernel
theorem dX9_layTried_18 : decode cX9_layTried 18 = .ok (.if_icmp .ge 174, 3) := by decide +kernel
theorem dX9_layTried_21 : decode cX9_layTried 21 = .ok (.aload_n 0, 1) := by decide +kernel
theorem dX9_layTried_22 : decode cX9_layTried 22 = .ok (.aload_n 0, 1) := by decide +kernel
theorem dX9_layTried_23 : decode cX9_layTried 23 = .ok (.getfield 48, 3) := by decide +kernel
theorem dX9_layTried_26 : decode cX9_layTried 26 = .ok (.iload 4, 2) := by decide +kernel
theorem dX9_layTried_28 : decode cX9_layTried 28 = .ok (.iaload, 1) := by decide +kernel
theorem dX9_layTried_29 : decode cX9_layTried 29 = .ok (.invokestatic 120, 3) := by decide +kernel
theorem dX9_layTried_32 : decode cX9_layTried 32 = .ok (.putfield 124, 3) := by decide +kernel
theorem dX9_layTried_35 : decode cX9_layTried 35 = .ok (.iconst 0, 1) := by decide +kernel
theorem dX9_layTried_36 : decode cX9_layTried 36 = .ok (.istore 5, 2) := by decide +kernel
theorem dX9_layTried_38 : decode cX9_layTried 38 = .ok (.iload 5, 2) := by decide +kernel
theorem dX9_layTried_40 : decode cX9_layTried 40 = .ok (.aload_n 0, 1) := by decide +kernel
theorem dX9_layTried_41 : decode cX9_layTried 41 = .ok (.getfield 124, 3) := by decide +kernel
theorem dX9_layTried_44 : decode cX9_layTried 44 = .ok (.aload_n 0, 1) := by decide +kernel
theorem dX9_layTried_45 : decode cX9_layTried 45 = .ok (.getfield 124, 3) := by decide +kernel
theorem dX9_layTried_48 : decode cX9_layTried 48 = .ok (.imul, 1) := by decide +kernel
theorem dX9_layTried_49 : decode cX9_layTried 49 = .ok (.if_icmp .ge 75, 3) := by decide +kernel
theorem dX9_layTried_52 : decode cX9_layTried 52 = .ok (.aload_n 0, 1) := by decide +kernel
theorem dX9_layTried_53 : decode cX9_layTried 53 = .ok (.getfield 66, 3) := by decide +kernel
theorem dX9_layTried_56 : decode cX9_layTried 56 = .ok (.bipush 9, 2) := by decide +kernel
theorem dX9_layTried_58 : decode cX9_layTried 58 = .ok (.iload_n 2, 1) := by decide +kernel
theorem dX9_layTried_59 : decode cX9_layTried 59 = .ok (.imul, 1) := by decide +kernel
theorem dX9_layTried_60 : decode cX9_layTried 60 = .ok (.iload 5, 2) := by decide +kernel
theorem dX9_layTried_62 : decode cX9_layTried 62 = .ok (.iadd, 1) := by decide +kernel
theorem dX9_layTried_63 : decode cX9_layTried 63 = .ok (.aload_n 0, 1) := by decide +kernel
theorem dX9_layTried_64 : decode cX9_layTried 64 = .ok (.getfield 69, 3) := by decide +kernel
theorem dX9_layTried_67 : decode cX9_layTried 67 = .ok (.sipush 360, 3) := by decide +kernel
theorem dX9_layTried_70 : decode cX9_layTried 70 = .ok (.iload_n 2, 1) := by decide +kernel
theorem dX9_layTried_71 : decode cX9_layTried 71 = .ok (.imul, 1) := by decide +kernel
theorem dX9_layTried_72 : decode cX9_layTried 72 = .ok (.aload_n 0, 1) := by decide +kernel
theorem dX9_layTried_73 : decode cX9_layTried 73 = .ok (.getfield 51, 3) := by decide +kernel
theorem dX9_layTried_76 : decode cX9_layTried 76 = .ok (.iload 4, 2) := by decide +kernel
theorem dX9_layTried_78 : decode cX9_layTried 78 = .ok (.iaload, 1) := by decide +kernel
theorem dX9_layTried_79 : decode cX9_layTried 79 = .ok (.iadd, 1) := by decide +kernel
theorem dX9_layTried_80 : decode cX9_layTried 80 = .ok (.iload 5, 2) := by decide +kernel
theorem dX9_layTried_82 : decode cX9_layTried 82 = .ok (.iadd, 1) := by decide +kernel
theorem dX9_layTried_83 : decode cX9_layTried 83 = .ok (.baload, 1) := by decide +kernel
theorem dX9_layTried_84 : decode cX9_layTried 84 = .ok (.bastore, 1) := by decide +kernel
theorem dX9_layTried_85 : decode cX9_layTried 85 = .ok (.aload_n 0, 1) := by decide +kernel
theorem dX9_layTried_86 : decode cX9_layTried 86 = .ok (.getfield 66, 3) := by decide +kernel
theorem dX9_layTried_89 : decode cX9_layTried 89 = .ok (.bipush 9, 2) := by decide +kernel
theorem dX9_layTried_91 : decode cX9_layTried 91 = .ok (.iload_n 3, 1) := by decide +kernel
theorem dX9_layTried_92 : decode cX9_layTried 92 = .ok (.imul, 1) := by decide +kernel
theorem dX9_layTried_93 : decode cX9_layTried 93 = .ok (.iload 5, 2) := by decide +kernel
theorem dX9_layTried_95 : decode cX9_layTried 95 = .ok (.iadd, 1) := by decide +kernel
theorem dX9_layTried_96 : decode cX9_layTried 96 = .ok (.aload_n 0, 1) := by decide +kernel
theorem dX9_layTried_97 : decode cX9_layTried 97 = .ok (.getfield 69, 3) := by decide +kernel
theorem dX9_layTried_100 : decode cX9_layTried 100 = .ok (.sipush 360, 3) := by decide +kernel
theorem dX9_layTried_103 : decode cX9_layTried 103 = .ok (.iload_n 3, 1) := by decide +kernel
theorem dX9_layTried_104 : decode cX9_layTried 104 = .ok (.imul, 1) := by decide +kernel
theorem dX9_layTried_105 : decode cX9_layTried 105 = .ok (.aload_n 0, 1) := by decide +kernel
theorem dX9_layTried_106 : decode cX9_layTried 106 = .ok (.getfield 51, 3) := by decide +kernel
theorem dX9_layTried_109 : decode cX9_layTried 109 = .ok (.iload 4, 2) := by decide +kernel
theorem dX9_layTried_111 : decode cX9_layTried 111 = .ok (.iaload, 1) := by decide +kernel
theorem dX9_layTried_112 : decode cX9_layTried 112 = .ok (.iadd, 1) := by decide +kernel
theorem dX9_layTried_113 : decode cX9_layTried 113 = .ok (.iload 5, 2) := by decide +kernel
theorem dX9_layTried_115 : decode cX9_layTried 115 = .ok (.iadd, 1) := by decide +kernel
theorem dX9_layTried_116 : decode cX9_layTried 116 = .ok (.baload, 1) := by decide +kernel
theorem dX9_layTried_117 : decode cX9_layTried 117 = .ok (.bastore, 1) := by decide +kernel
theorem dX9_layTried_118 : decode cX9_layTried 118 = .ok (.iinc 5 1, 3) := by decide +kernel
theorem dX9_layTried_121 : decode cX9_layTried 121 = .ok (.goto (-83), 3) := by decide +kernel
theorem dX9_layTried_124 : decode cX9_layTried 124 = .ok (.iconst 0, 1) := by decide +kernel
theorem dX9_layTried_125 : decode cX9_layTried 125 = .ok (.istore 5, 2) := by decide +kernel
theorem dX9_layTried_127 : decode cX9_layTried 127 = .ok (.iload 5, 2) := by decide +kernel
theorem dX9_layTried_129 : decode cX9_layTried 129 = .ok (.aload_n 0, 1) := by decide +kernel
theorem dX9_layTried_130 : decode cX9_layTried 130 = .ok (.getfield 124, 3) := by decide +kernel
theorem dX9_layTried_133 : decode cX9_layTried 133 = .ok (.aload_n 0, 1) := by decide +kernel
theorem dX9_layTried_134 : decode cX9_layTried 134 = .ok (.getfield 124, 3) := by decide +kernel
theorem dX9_layTried_137 : decode cX9_layTried 137 = .ok (.imul, 1) := by decide +kernel
theorem dX9_layTried_138 : decode cX9_layTried 138 = .ok (.if_icmp .ge 48, 3) := by decide +kernel
theorem dX9_layTried_141 : decode cX9_layTried 141 = .ok (.aload_n 0, 1) := by decide +kernel
theorem dX9_layTried_142 : decode cX9_layTried 142 = .ok (.getfield 69, 3) := by decide +kernel
theorem dX9_layTried_145 : decode cX9_layTried 145 = .ok (.sipush 4320, 3) := by decide +kernel
theorem dX9_layTried_148 : decode cX9_layTried 148 = .ok (.aload_n 0, 1) := by decide +kernel
theorem dX9_layTried_149 : decode cX9_layTried 149 = .ok (.getfield 51, 3) := by decide +kernel
theorem dX9_layTried_152 : decode cX9_layTried 152 = .ok (.iload 4, 2) := by decide +kernel
theorem dX9_layTried_154 : decode cX9_layTried 154 = .ok (.iaload, 1) := by decide +kernel
theorem dX9_layTried_155 : decode cX9_layTried 155 = .ok (.iadd, 1) := by decide +kernel
theorem dX9_layTried_156 : decode cX9_layTried 156 = .ok (.iload 5, 2) := by decide +kernel
theorem dX9_layTried_158 : decode cX9_layTried 158 = .ok (.iadd, 1) := by decide +kernel
theorem dX9_layTried_159 : decode cX9_layTried 159 = .ok (.aload_n 0, 1) := by decide +kernel
theorem dX9_layTried_160 : decode cX9_layTried 160 = .ok (.bipush 12, 2) := by decide +kernel
theorem dX9_layTried_162 : decode cX9_layTried 162 = .ok (.iload 5, 2) := by decide +kernel
theorem dX9_layTried_164 : decode cX9_layTried 164 = .ok (.aload_n 0, 1) := by decide +kernel
theorem dX9_layTried_165 : decode cX9_layTried 165 = .ok (.getfield 124, 3) := by decide +kernel
theorem dX9_layTried_168 : decode cX9_layTried 168 = .ok (.idiv, 1) := by decide +kernel
theorem dX9_layTried_169 : decode cX9_layTried 169 = .ok (.iload 5, 2) := by decide +kernel
theorem dX9_layTried_171 : decode cX9_layTried 171 = .ok (.aload_n 0, 1) := by decide +kernel
theorem dX9_layTried_172 : decode cX9_layTried 172 = .ok (.getfield 124, 3) := by decide +kernel
theorem dX9_layTried_175 : decode cX9_layTried 175 = .ok (.irem, 1) := by decide +kernel
theorem dX9_layTried_176 : decode cX9_layTried 176 = .ok (.invokevirtual 199, 3) := by decide +kernel
theorem dX9_layTried_179 : decode cX9_layTried 179 = .ok (.bastore, 1) := by decide +kernel
theorem dX9_layTried_180 : decode cX9_layTried 180 = .ok (.iinc 5 1, 3) := by decide +kernel
theorem dX9_layTried_183 : decode cX9_layTried 183 = .ok (.goto (-56), 3) := by decide +kernel
theorem dX9_layTried_186 : decode cX9_layTried 186 = .ok (.iinc 4 1, 3) := by decide +kernel
theorem dX9_layTried_189 : decode cX9_layTried 189 = .ok (.goto (-177), 3) := by decide +kernel
theorem dX9_layTried_192 : decode cX9_layTried 192 = .ok (.return_, 1) := by decide +kernel
theorem dX9_nextCode_0 : decode cX9_nextCode 0 = .ok (.aload_n 0, 1) := by decide +kernel
theorem dX9_nextCode_1 : decode cX9_nextCode 1 = .ok (.invokevirtual 206, 3) := by decide +kernel
theorem dX9_nextCode_4 : decode cX9_nextCode 4 = .ok (.bipush (-9), 2) := by decide +kernel
theorem dX9_nextCode_6 : decode cX9_nextCode 6 = .ok (.istore_n 1, 1) := by decide +kernel
theorem dX9_nextCode_7 : decode cX9_nextCode 7 = .ok (.iconst (-1), 1) := by decide +kernel
theorem dX9_nextCode_8 : decode cX9_nextCode 8 = .ok (.istore_n 2, 1) := by decide +kernel
theorem dX9_nextCode_9 : decode cX9_nextCode 9 = .ok (.sipush 144, 3) := by decide +kernel
theorem dX9_nextCode_12 : decode cX9_nextCode 12 = .ok (.istore_n 3, 1) := by decide +kernel
theorem dX9_nextCode_13 : decode cX9_nextCode 13 = .ok (.iload_n 3, 1) := by decide +kernel
theorem dX9_nextCode_14 : decode cX9_nextCode 14 = .ok (.sipush 1008, 3) := by decide +kernel
theorem dX9_nextCode_17 : decode cX9_nextCode 17 = .ok (.if_icmp .ge 215, 3) := by decide +kernel
theorem dX9_nextCode_20 : decode cX9_nextCode 20 = .ok (.iload_n 3, 1) := by decide +kernel
theorem dX9_nextCode_21 : decode cX9_nextCode 21 = .ok (.sipush 144, 3) := by decide +kernel
theorem dX9_nextCode_24 : decode cX9_nextCode 24 = .ok (.idiv, 1) := by decide +kernel
theorem dX9_nextCode_25 : decode cX9_nextCode 25 = .ok (.istore 4, 2) := by decide +kernel
theorem dX9_nextCode_27 : decode cX9_nextCode 27 = .ok (.iload_n 3, 1) := by decide +kernel
theorem dX9_nextCode_28 : decode cX9_nextCode 28 = .ok (.bipush 12, 2) := by decide +kernel
theorem dX9_nextCode_30 : decode cX9_nextCode 30 = .ok (.idiv, 1) := by decide +kernel
theorem dX9_nextCode_31 : decode cX9_nextCode 31 = .ok (.bipush 12, 2) := by decide +kernel
theorem dX9_nextCode_33 : decode cX9_nextCode 33 = .ok (.irem, 1) := by decide +kernel
theorem dX9_nextCode_34 : decode cX9_nextCode 34 = .ok (.istore 5, 2) := by decide +kernel
theorem dX9_nextCode_36 : decode cX9_nextCode 36 = .ok (.iload_n 3, 1) := by decide +kernel
theorem dX9_nextCode_37 : decode cX9_nextCode 37 = .ok (.bipush 12, 2) := by decide +kernel
theorem dX9_nextCode_39 : decode cX9_nextCode 39 = .ok (.irem, 1) := by decide +kernel
theorem dX9_nextCode_40 : decode cX9_nextCode 40 = .ok (.istore 6, 2) := by decide +kernel
theorem dX9_nextCode_42 : decode cX9_nextCode 42 = .ok (.iload 5, 2) := by decide +kernel
theorem dX9_nextCode_44 : decode cX9_nextCode 44 = .ok (.aload_n 0, 1) := by decide +kernel
theorem dX9_nextCode_45 : decode cX9_nextCode 45 = .ok (.getfield 187, 3) := by decide +kernel
theorem dX9_nextCode_48 : decode cX9_nextCode 48 = .ok (.if_icmp .ge 57, 3) := by decide +kernel
theorem dX9_nextCode_51 : decode cX9_nextCode 51 = .ok (.aload_n 0, 1) := by decide +kernel
theorem dX9_nextCode_52 : decode cX9_nextCode 52 = .ok (.getfield 63, 3) := by decide +kernel
theorem dX9_nextCode_55 : decode cX9_nextCode 55 = .ok (.iload 5, 2) := by decide +kernel
theorem dX9_nextCode_57 : decode cX9_nextCode 57 = .ok (.baload, 1) := by decide +kernel
theorem dX9_nextCode_58 : decode cX9_nextCode 58 = .ok (.ifCond .ne 47, 3) := by decide +kernel
theorem dX9_nextCode_61 : decode cX9_nextCode 61 = .ok (.iload 4, 2) := by decide +kernel
theorem dX9_nextCode_63 : decode cX9_nextCode 63 = .ok (.iconst 2, 1) := by decide +kernel
theorem dX9_nextCode_64 : decode cX9_nextCode 64 = .ok (.if_icmp .ne 32, 3) := by decide +kernel
theorem dX9_nextCode_67 : decode cX9_nextCode 67 = .ok (.iload 6, 2) := by decide +kernel
theorem dX9_nextCode_69 : decode cX9_nextCode 69 = .ok (.iload 5, 2) := by decide +kernel
theorem dX9_nextCode_71 : decode cX9_nextCode 71 = .ok (.if_icmp .le 34, 3) := by decide +kernel
theorem dX9_nextCode_74 : decode cX9_nextCode 74 = .ok (.iload 6, 2) := by decide +kernel
theorem dX9_nextCode_76 : decode cX9_nextCode 76 = .ok (.aload_n 0, 1) := by decide +kernel
theorem dX9_nextCode_77 : decode cX9_nextCode 77 = .ok (.getfield 187, 3) := by decide +kernel
theorem dX9_nextCode_80 : decode cX9_nextCode 80 = .ok (.if_icmp .ge 25, 3) := by decide +kernel
theorem dX9_nextCode_83 : decode cX9_nextCode 83 = .ok (.aload_n 0, 1) := by decide +kernel
theorem dX9_nextCode_84 : decode cX9_nextCode 84 = .ok (.getfield 63, 3) := by decide +kernel
theorem dX9_nextCode_87 : decode cX9_nextCode 87 = .ok (.iload 6, 2) := by decide +kernel
theorem dX9_nextCode_89 : decode cX9_nextCode 89 = .ok (.baload, 1) := by decide +kernel
theorem dX9_nextCode_90 : decode cX9_nextCode 90 = .ok (.ifCond .ne 15, 3) := by decide +kernel
theorem dX9_nextCode_93 : decode cX9_nextCode 93 = .ok (.goto 8, 3) := by decide +kernel
theorem dX9_nextCode_96 : decode cX9_nextCode 96 = .ok (.iload 6, 2) := by decide +kernel
theorem dX9_nextCode_98 : decode cX9_nextCode 98 = .ok (.ifCond .ne 7, 3) := by decide +kernel
theorem dX9_nextCode_101 : decode cX9_nextCode 101 = .ok (.iconst 1, 1) := by decide +kernel
theorem dX9_nextCode_102 : decode cX9_nextCode 102 = .ok (.goto 4, 3) := by decide +kernel
theorem dX9_nextCode_105 : decode cX9_nextCode 105 = .ok (.iconst 0, 1) := by decide +kernel
theorem dX9_nextCode_106 : decode cX9_nextCode 106 = .ok (.istore 7, 2) := by decide +kernel
theorem dX9_nextCode_108 : decode cX9_nextCode 108 = .ok (.iload 7, 2) := by decide +kernel
theorem dX9_nextCode_110 : decode cX9_nextCode 110 = .ok (.ifCond .eq 116, 3) := by decide +kernel
theorem dX9_nextCode_113 : decode cX9_nextCode 113 = .ok (.aload_n 0, 1) := by decide +kernel
theorem dX9_nextCode_114 : decode cX9_nextCode 114 = .ok (.iload 4, 2) := by decide +kernel
theorem dX9_nextCode_116 : decode cX9_nextCode 116 = .ok (.iload 5, 2) := by decide +kernel
theorem dX9_nextCode_118 : decode cX9_nextCode 118 = .ok (.iload 4, 2) := by decide +kernel
theorem dX9_nextCode_120 : decode cX9_nextCode 120 = .ok (.iconst 2, 1) := by decide +kernel
theorem dX9_nextCode_121 : decode cX9_nextCode 121 = .ok (.if_icmp .ne 8, 3) := by decide +kernel
theorem dX9_nextCode_124 : decode cX9_nextCode 124 = .ok (.iload 6, 2) := by decide +kernel
theorem dX9_nextCode_126 : decode cX9_nextCode 126 = .ok (.goto 5, 3) := by decide +kernel
theorem dX9_nextCode_129 : decode cX9_nextCode 129 = .ok (.iload 5, 2) := by decide +kernel
theorem dX9_nextCode_131 : decode cX9_nextCode 131 = .ok (.invokevirtual 235, 3) := by decide +kernel
theorem dX9_nextCode_134 : decode cX9_nextCode 134 = .ok (.iconst 0, 1) := by decide +kernel
theorem dX9_nextCode_135 : decode cX9_nextCode 135 = .ok (.istore 8, 2) := by decide +kernel
theorem dX9_nextCode_137 : decode cX9_nextCode 137 = .ok (.iconst 0, 1) := by decide +kernel
theorem dX9_nextCode_138 : decode cX9_nextCode 138 = .ok (.istore 9, 2) := by decide +kernel
theorem dX9_nextCode_140 : decode cX9_nextCode 140 = .ok (.iload 9, 2) := by decide +kernel
theorem dX9_nextCode_142 : decode cX9_nextCode 142 = .ok (.aload_n 0, 1) := by decide +kernel
theorem dX9_nextCode_143 : decode cX9_nextCode 143 = .ok (.getfield 187, 3) := by decide +kernel
theorem dX9_nextCode_146 : decode cX9_nextCode 146 = .ok (.if_icmp .ge 24, 3) := by decide +kernel
theorem dX9_nextCode_149 : decode cX9_nextCode 149 = .ok (.iload 8, 2) := by decide +kernel
theorem dX9_nextCode_151 : decode cX9_nextCode 151 = .ok (.ifCond .ne 19, 3) := by decide +kernel
theorem dX9_nextCode_154 : decode cX9_nextCode 154 = .ok (.aload_n 0, 1) := by decide +kernel
theorem dX9_nextCode_155 : decode cX9_nextCode 155 = .ok (.bipush 12, 2) := by decide +kernel
theorem dX9_nextCode_157 : decode cX9_nextCode 157 = .ok (.iload 9, 2) := by decide +kernel
theorem dX9_nextCode_159 : decode cX9_nextCode 159 = .ok (.invokevirtual 216, 3) := by decide +kernel
theorem dX9_nextCode_162 : decode cX9_nextCode 162 = .ok (.istore 8, 2) := by decide +kernel
theorem dX9_nextCode_164 : decode cX9_nextCode 164 = .ok (.iinc 9 1, 3) := by decide +kernel
theorem dX9_nextCode_167 : decode cX9_nextCode 167 = .ok (.goto (-27), 3) := by decide +kernel
theorem dX9_nextCode_170 : decode cX9_nextCode 170 = .ok (.iload 8, 2) := by decide +kernel
theorem dX9_nextCode_172 : decode cX9_nextCode 172 = .ok (.ifCond .eq 7, 3) := by decide +kernel
theorem dX9_nextCode_175 : decode cX9_nextCode 175 = .ok (.iconst (-1), 1) := by decide +kernel
theorem dX9_nextCode_176 : decode cX9_nextCode 176 = .ok (.goto 9, 3) := by decide +kernel
theorem dX9_nextCode_179 : decode cX9_nextCode 179 = .ok (.aload_n 0, 1) := by decide +kernel
theorem dX9_nextCode_180 : decode cX9_nextCode 180 = .ok (.bipush 12, 2) := by decide +kernel
theorem dX9_nextCode_182 : decode cX9_nextCode 182 = .ok (.invokevirtual 223, 3) := by decide +kernel
theorem dX9_nextCode_185 : decode cX9_nextCode 185 = .ok (.istore 9, 2) := by decide +kernel
theorem dX9_nextCode_187 : decode cX9_nextCode 187 = .ok (.iload 9, 2) := by decide +kernel
theorem dX9_nextCode_189 : decode cX9_nextCode 189 = .ok (.iload_n 2, 1) := by decide +kernel
theorem dX9_nextCode_190 : decode cX9_nextCode 190 = .ok (.if_icmp .le 21, 3) := by decide +kernel
theorem dX9_nextCode_193 : decode cX9_nextCode 193 = .ok (.sipush 10000, 3) := by decide +kernel
theorem dX9_nextCode_196 : decode cX9_nextCode 196 = .ok (.iload 4, 2) := by decide +kernel
theorem dX9_nextCode_198 : decode cX9_nextCode 198 = .ok (.imul, 1) := by decide +kernel
theorem dX9_nextCode_199 : decode cX9_nextCode 199 = .ok (.bipush 100, 2) := by decide +kernel
theorem dX9_nextCode_201 : decode cX9_nextCode 201 = .ok (.iload 5, 2) := by decide +kernel
theorem dX9_nextCode_203 : decode cX9_nextCode 203 = .ok (.imul, 1) := by decide +kernel
theorem dX9_nextCode_204 : decode cX9_nextCode 204 = .ok (.iadd, 1) := by decide +kernel
theorem dX9_nextCode_205 : decode cX9_nextCode 205 = .ok (.iload 6, 2) := by decide +kernel
theorem dX9_nextCode_207 : decode cX9_nextCode 207 = .ok (.iadd, 1) := by decide +kernel
theorem dX9_nextCode_208 : decode cX9_nextCode 208 = .ok (.goto 4, 3) := by decide +kernel
theorem dX9_nextCode_211 : decode cX9_nextCode 211 = .ok (.iload_n 1, 1) := by decide +kernel
theorem dX9_nextCode_212 : decode cX9_nextCode 212 = .ok (.istore_n 1, 1) := by decide +kernel
theorem dX9_nextCode_213 : decode cX9_nextCode 213 = .ok (.iload 9, 2) := by decide +kernel
theorem dX9_nextCode_215 : decode cX9_nextCode 215 = .ok (.iload_n 2, 1) := by decide +kernel
theorem dX9_nextCode_216 : decode cX9_nextCode 216 = .ok (.if_icmp .le 8, 3) := by decide +kernel
theorem dX9_nextCode_219 : decode cX9_nextCode 219 = .ok (.iload 9, 2) := by decide +kernel
theorem dX9_nextCode_221 : decode cX9_nextCode 221 = .ok (.goto 4, 3) := by decide +kernel
theorem dX9_nextCode_224 : decode cX9_nextCode 224 = .ok (.iload_n 2, 1) := by decide +kernel
theorem dX9_nextCode_225 : decode cX9_nextCode 225 = .ok (.istore_n 2, 1) := by decide +kernel
theorem dX9_nextCode_226 : decode cX9_nextCode 226 = .ok (.iinc 3 1, 3) := by decide +kernel
theorem dX9_nextCode_229 : decode cX9_nextCode 229 = .ok (.goto (-216), 3) := by decide +kernel
theorem dX9_nextCode_232 : decode cX9_nextCode 232 = .ok (.iload_n 1, 1) := by decide +kernel
theorem dX9_nextCode_233 : decode cX9_nextCode 233 = .ok (.ireturn, 1) := by decide +kernel
theorem dX9_next_0 : decode cX9_next 0 = .ok (.aload_n 0, 1) := by decide +kernel
theorem dX9_next_1 : decode cX9_next 1 = .ok (.invokevirtual 239, 3) := by decide +kernel
theorem dX9_next_4 : decode cX9_next 4 = .ok (.ireturn, 1) := by decide +kernel
theorem dX9_makeNext_0 : decode cX9_makeNext 0 = .ok (.aload_n 0, 1) := by decide +kernel
theorem dX9_makeNext_1 : decode cX9_makeNext 1 = .ok (.invokevirtual 239, 3) := by decide +kernel
theorem dX9_makeNext_4 : decode cX9_makeNext 4 = .ok (.istore_n 1, 1) := by decide +kernel
theorem dX9_makeNext_5 : decode cX9_makeNext 5 = .ok (.iload_n 1, 1) := by decide +kernel
theorem dX9_makeNext_6 : decode cX9_makeNext 6 = .ok (.bipush (-9), 2) := by decide +kernel
theorem dX9_makeNext_8 : decode cX9_makeNext 8 = .ok (.if_icmp .ne 6, 3) := by decide +kernel
theorem dX9_makeNext_11 : decode cX9_makeNext 11 = .ok (.bipush (-3), 2) := by decide +kernel
theorem dX9_makeNext_13 : decode cX9_makeNext 13 = .ok (.ireturn, 1) := by decide +kernel
theorem dX9_makeNext_14 : decode cX9_makeNext 14 = .ok (.aload_n 0, 1) := by decide +kernel
theorem dX9_makeNext_15 : decode cX9_makeNext 15 = .ok (.iload_n 1, 1) := by decide +kernel
theorem dX9_makeNext_16 : decode cX9_makeNext 16 = .ok (.sipush 10000, 3) := by decide +kernel
theorem dX9_makeNext_19 : decode cX9_makeNext 19 = .ok (.idiv, 1) := by decide +kernel
theorem dX9_makeNext_20 : decode cX9_makeNext 20 = .ok (.iload_n 1, 1) := by decide +kernel
theorem dX9_makeNext_21 : decode cX9_makeNext 21 = .ok (.bipush 100, 2) := by decide +kernel
theorem dX9_makeNext_23 : decode cX9_makeNext 23 = .ok (.idiv, 1) := by decide +kernel
theorem dX9_makeNext_24 : decode cX9_makeNext 24 = .ok (.bipush 100, 2) := by decide +kernel
theorem dX9_makeNext_26 : decode cX9_makeNext 26 = .ok (.irem, 1) := by decide +kernel
theorem dX9_makeNext_27 : decode cX9_makeNext 27 = .ok (.iload_n 1, 1) := by decide +kernel
theorem dX9_makeNext_28 : decode cX9_makeNext 28 = .ok (.bipush 100, 2) := by decide +kernel
theorem dX9_makeNext_30 : decode cX9_makeNext 30 = .ok (.irem, 1) := by decide +kernel
theorem dX9_makeNext_31 : decode cX9_makeNext 31 = .ok (.invokevirtual 242, 3) := by decide +kernel
theorem dX9_makeNext_34 : decode cX9_makeNext 34 = .ok (.ireturn, 1) := by decide +kernel
theorem dX9_isNeeded_0 : decode cX9_isNeeded 0 = .ok (.iconst 0, 1) := by decide +kernel
theorem dX9_isNeeded_1 : decode cX9_isNeeded 1 = .ok (.istore_n 3, 1) := by decide +kernel
theorem dX9_isNeeded_2 : decode cX9_isNeeded 2 = .ok (.iload_n 3, 1) := by decide +kernel
theorem dX9_isNeeded_3 : decode cX9_isNeeded 3 = .ok (.sipush 19700, 3) := by decide +kernel
theorem dX9_isNeeded_6 : decode cX9_isNeeded 6 = .ok (.if_icmp .ge 36, 3) := by decide +kernel
theorem dX9_isNeeded_9 : decode cX9_isNeeded 9 = .ok (.aload_n 0, 1) := by decide +kernel
theorem dX9_isNeeded_10 : decode cX9_isNeeded 10 = .ok (.getfield 39, 3) := by decide +kernel
theorem dX9_isNeeded_13 : decode cX9_isNeeded 13 = .ok (.iload_n 3, 1) := by decide +kernel
theorem dX9_isNeeded_14 : decode cX9_isNeeded 14 = .ok (.iaload, 1) := by decide +kernel
theorem dX9_isNeeded_15 : decode cX9_isNeeded 15 = .ok (.iload_n 2, 1) := by decide +kernel
theorem dX9_isNeeded_16 : decode cX9_isNeeded 16 = .ok (.iand, 1) := by decide +kernel
theorem dX9_isNeeded_17 : decode cX9_isNeeded 17 = .ok (.ifCond .ne 19, 3) := by decide +kernel
theorem dX9_isNeeded_20 : decode cX9_isNeeded 20 = .ok (.aload_n 0, 1) := by decide +kernel
theorem dX9_isNeeded_21 : decode cX9_isNeeded 21 = .ok (.getfield 39, 3) := by decide +kernel
theorem dX9_isNeeded_24 : decode cX9_isNeeded 24 = .ok (.iload_n 3, 1) := by decide +kernel
theorem dX9_isNeeded_25 : decode cX9_isNeeded 25 = .ok (.iaload, 1) := by decide +kernel
theorem dX9_isNeeded_26 : decode cX9_isNeeded 26 = .ok (.iload_n 1, 1) := by decide +kernel
theorem dX9_isNeeded_27 : decode cX9_isNeeded 27 = .ok (.ishr, 1) := by decide +kernel
theorem dX9_isNeeded_28 : decode cX9_isNeeded 28 = .ok (.iconst 1, 1) := by decide +kernel
theorem dX9_isNeeded_29 : decode cX9_isNeeded 29 = .ok (.iand, 1) := by decide +kernel
theorem dX9_isNeeded_30 : decode cX9_isNeeded 30 = .ok (.iconst 1, 1) := by decide +kernel
theorem dX9_isNeeded_31 : decode cX9_isNeeded 31 = .ok (.if_icmp .ne 5, 3) := by decide +kernel
theorem dX9_isNeeded_34 : decode cX9_isNeeded 34 = .ok (.iconst 1, 1) := by decide +kernel
theorem dX9_isNeeded_35 : decode cX9_isNeeded 35 = .ok (.ireturn, 1) := by decide +kernel
theorem dX9_isNeeded_36 : decode cX9_isNeeded 36 = .ok (.iinc 3 1, 3) := by decide +kernel
theorem dX9_isNeeded_39 : decode cX9_isNeeded 39 = .ok (.goto (-37), 3) := by decide +kernel
theorem dX9_isNeeded_42 : decode cX9_isNeeded 42 = .ok (.iconst 0, 1) := by decide +kernel
theorem dX9_isNeeded_43 : decode cX9_isNeeded 43 = .ok (.ireturn, 1) := by decide +kernel
theorem dX9_needed_0 : decode cX9_needed 0 = .ok (.iload_n 1, 1) := by decide +kernel
theorem dX9_needed_1 : decode cX9_needed 1 = .ok (.i2l, 1) := by decide +kernel
theorem dX9_needed_2 : decode cX9_needed 2 = .ok (.lconst 0, 1) := by decide +kernel
theorem dX9_needed_3 : decode cX9_needed 3 = .ok (.aload_n 0, 1) := by decide +kernel
theorem dX9_needed_4 : decode cX9_needed 4 = .ok (.getfield 113, 3) := by decide +kernel
theorem dX9_needed_7 : decode cX9_needed 7 = .ok (.iconst 1, 1) := by decide +kernel
theorem dX9_needed_8 : decode cX9_needed 8 = .ok (.isub, 1) := by decide +kernel
theorem dX9_needed_9 : decode cX9_needed 9 = .ok (.i2l, 1) := by decide +kernel
theorem dX9_needed_10 : decode cX9_needed 10 = .ok (.invokestatic 105, 3) := by decide +kernel
theorem dX9_needed_13 : decode cX9_needed 13 = .ok (.ifCond .ne 5, 3) := by decide +kernel
theorem dX9_needed_16 : decode cX9_needed 16 = .ok (.iconst (-1), 1) := by decide +kernel
theorem dX9_needed_17 : decode cX9_needed 17 = .ok (.ireturn, 1) := by decide +kernel
theorem dX9_needed_18 : decode cX9_needed 18 = .ok (.aload_n 0, 1) := by decide +kernel
theorem dX9_needed_19 : decode cX9_needed 19 = .ok (.invokevirtual 175, 3) := by decide +kernel
theorem dX9_needed_22 : decode cX9_needed 22 = .ok (.aload_n 0, 1) := by decide +kernel
theorem dX9_needed_23 : decode cX9_needed 23 = .ok (.iload_n 1, 1) := by decide +kernel

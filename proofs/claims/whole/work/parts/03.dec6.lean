theorem dX9_needed_24 : decode cX9_needed 24 = .ok (.bipush 63, 2) := by decide +kernel
theorem dX9_needed_26 : decode cX9_needed 26 = .ok (.iconst 1, 1) := by decide +kernel
theorem dX9_needed_27 : decode cX9_needed 27 = .ok (.iload_n 1, 1) := by decide +kernel
theorem dX9_needed_28 : decode cX9_needed 28 = .ok (.ishl, 1) := by decide +kernel
theorem dX9_needed_29 : decode cX9_needed 29 = .ok (.iconst (-1), 1) := by decide +kernel
theorem dX9_needed_30 : decode cX9_needed 30 = .ok (.ixor, 1) := by decide +kernel
theorem dX9_needed_31 : decode cX9_needed 31 = .ok (.iand, 1) := by decide +kernel
theorem dX9_needed_32 : decode cX9_needed 32 = .ok (.invokevirtual 246, 3) := by decide +kernel
theorem dX9_needed_35 : decode cX9_needed 35 = .ok (.ifCond .eq 7, 3) := by decide +kernel
theorem dX9_needed_38 : decode cX9_needed 38 = .ok (.iconst 1, 1) := by decide +kernel
theorem dX9_needed_39 : decode cX9_needed 39 = .ok (.goto 4, 3) := by decide +kernel
theorem dX9_needed_42 : decode cX9_needed 42 = .ok (.iconst 0, 1) := by decide +kernel
theorem dX9_needed_43 : decode cX9_needed 43 = .ok (.ireturn, 1) := by decide +kernel
theorem dX9_least_0 : decode cX9_least 0 = .ok (.aload_n 0, 1) := by decide +kernel
theorem dX9_least_1 : decode cX9_least 1 = .ok (.invokevirtual 175, 3) := by decide +kernel
theorem dX9_least_4 : decode cX9_least 4 = .ok (.iconst 1, 1) := by decide +kernel
theorem dX9_least_5 : decode cX9_least 5 = .ok (.aload_n 0, 1) := by decide +kernel
theorem dX9_least_6 : decode cX9_least 6 = .ok (.getfield 113, 3) := by decide +kernel
theorem dX9_least_9 : decode cX9_least 9 = .ok (.ishl, 1) := by decide +kernel
theorem dX9_least_10 : decode cX9_least 10 = .ok (.iconst 1, 1) := by decide +kernel
theorem dX9_least_11 : decode cX9_least 11 = .ok (.isub, 1) := by decide +kernel
theorem dX9_least_12 : decode cX9_least 12 = .ok (.istore_n 1, 1) := by decide +kernel
theorem dX9_least_13 : decode cX9_least 13 = .ok (.aload_n 0, 1) := by decide +kernel
theorem dX9_least_14 : decode cX9_least 14 = .ok (.getfield 113, 3) := by decide +kernel
theorem dX9_least_17 : decode cX9_least 17 = .ok (.iconst 1, 1) := by decide +kernel
theorem dX9_least_18 : decode cX9_least 18 = .ok (.isub, 1) := by decide +kernel
theorem dX9_least_19 : decode cX9_least 19 = .ok (.istore_n 2, 1) := by decide +kernel
theorem dX9_least_20 : decode cX9_least 20 = .ok (.iload_n 2, 1) := by decide +kernel
theorem dX9_least_21 : decode cX9_least 21 = .ok (.ifCond .lt 36, 3) := by decide +kernel
theorem dX9_least_24 : decode cX9_least 24 = .ok (.aload_n 0, 1) := by decide +kernel
theorem dX9_least_25 : decode cX9_least 25 = .ok (.iload_n 2, 1) := by decide +kernel
theorem dX9_least_26 : decode cX9_least 26 = .ok (.iload_n 1, 1) := by decide +kernel
theorem dX9_least_27 : decode cX9_least 27 = .ok (.iconst 1, 1) := by decide +kernel
theorem dX9_least_28 : decode cX9_least 28 = .ok (.iload_n 2, 1) := by decide +kernel
theorem dX9_least_29 : decode cX9_least 29 = .ok (.ishl, 1) := by decide +kernel
theorem dX9_least_30 : decode cX9_least 30 = .ok (.iconst (-1), 1) := by decide +kernel
theorem dX9_least_31 : decode cX9_least 31 = .ok (.ixor, 1) := by decide +kernel
theorem dX9_least_32 : decode cX9_least 32 = .ok (.iand, 1) := by decide +kernel
theorem dX9_least_33 : decode cX9_least 33 = .ok (.invokevirtual 246, 3) := by decide +kernel
theorem dX9_least_36 : decode cX9_least 36 = .ok (.ifCond .eq 7, 3) := by decide +kernel
theorem dX9_least_39 : decode cX9_least 39 = .ok (.iload_n 1, 1) := by decide +kernel
theorem dX9_least_40 : decode cX9_least 40 = .ok (.goto 10, 3) := by decide +kernel
theorem dX9_least_43 : decode cX9_least 43 = .ok (.iload_n 1, 1) := by decide +kernel
theorem dX9_least_44 : decode cX9_least 44 = .ok (.iconst 1, 1) := by decide +kernel
theorem dX9_least_45 : decode cX9_least 45 = .ok (.iload_n 2, 1) := by decide +kernel
theorem dX9_least_46 : decode cX9_least 46 = .ok (.ishl, 1) := by decide +kernel
theorem dX9_least_47 : decode cX9_least 47 = .ok (.iconst (-1), 1) := by decide +kernel
theorem dX9_least_48 : decode cX9_least 48 = .ok (.ixor, 1) := by decide +kernel
theorem dX9_least_49 : decode cX9_least 49 = .ok (.iand, 1) := by decide +kernel
theorem dX9_least_50 : decode cX9_least 50 = .ok (.istore_n 1, 1) := by decide +kernel
theorem dX9_least_51 : decode cX9_least 51 = .ok (.iinc 2 (-1), 3) := by decide +kernel
theorem dX9_least_54 : decode cX9_least 54 = .ok (.goto (-34), 3) := by decide +kernel
theorem dX9_least_57 : decode cX9_least 57 = .ok (.iload_n 1, 1) := by decide +kernel
theorem dX9_least_58 : decode cX9_least 58 = .ok (.ireturn, 1) := by decide +kernel
theorem dX9_turned_0 : decode cX9_turned 0 = .ok (.aload_n 0, 1) := by decide +kernel
theorem dX9_turned_1 : decode cX9_turned 1 = .ok (.iload_n 1, 1) := by decide +kernel
theorem dX9_turned_2 : decode cX9_turned 2 = .ok (.invokevirtual 138, 3) := by decide +kernel
theorem dX9_turned_5 : decode cX9_turned 5 = .ok (.iconst 0, 1) := by decide +kernel
theorem dX9_turned_6 : decode cX9_turned 6 = .ok (.istore_n 2, 1) := by decide +kernel
theorem dX9_turned_7 : decode cX9_turned 7 = .ok (.iconst 0, 1) := by decide +kernel
theorem dX9_turned_8 : decode cX9_turned 8 = .ok (.istore_n 3, 1) := by decide +kernel
theorem dX9_turned_9 : decode cX9_turned 9 = .ok (.iload_n 3, 1) := by decide +kernel
theorem dX9_turned_10 : decode cX9_turned 10 = .ok (.aload_n 0, 1) := by decide +kernel
theorem dX9_turned_11 : decode cX9_turned 11 = .ok (.getfield 124, 3) := by decide +kernel
theorem dX9_turned_14 : decode cX9_turned 14 = .ok (.aload_n 0, 1) := by decide +kernel
theorem dX9_turned_15 : decode cX9_turned 15 = .ok (.getfield 124, 3) := by decide +kernel
theorem dX9_turned_18 : decode cX9_turned 18 = .ok (.imul, 1) := by decide +kernel
theorem dX9_turned_19 : decode cX9_turned 19 = .ok (.if_icmp .ge 40, 3) := by decide +kernel
theorem dX9_turned_22 : decode cX9_turned 22 = .ok (.iload_n 2, 1) := by decide +kernel
theorem dX9_turned_23 : decode cX9_turned 23 = .ok (.aload_n 0, 1) := by decide +kernel
theorem dX9_turned_24 : decode cX9_turned 24 = .ok (.getfield 124, 3) := by decide +kernel
theorem dX9_turned_27 : decode cX9_turned 27 = .ok (.imul, 1) := by decide +kernel
theorem dX9_turned_28 : decode cX9_turned 28 = .ok (.aload_n 0, 1) := by decide +kernel
theorem dX9_turned_29 : decode cX9_turned 29 = .ok (.getfield 29, 3) := by decide +kernel
theorem dX9_turned_32 : decode cX9_turned 32 = .ok (.iload_n 3, 1) := by decide +kernel
theorem dX9_turned_33 : decode cX9_turned 33 = .ok (.aload_n 0, 1) := by decide +kernel
theorem dX9_turned_34 : decode cX9_turned 34 = .ok (.getfield 124, 3) := by decide +kernel
theorem dX9_turned_37 : decode cX9_turned 37 = .ok (.irem, 1) := by decide +kernel
theorem dX9_turned_38 : decode cX9_turned 38 = .ok (.aload_n 0, 1) := by decide +kernel
theorem dX9_turned_39 : decode cX9_turned 39 = .ok (.getfield 124, 3) := by decide +kernel
theorem dX9_turned_42 : decode cX9_turned 42 = .ok (.imul, 1) := by decide +kernel
theorem dX9_turned_43 : decode cX9_turned 43 = .ok (.iload_n 3, 1) := by decide +kernel
theorem dX9_turned_44 : decode cX9_turned 44 = .ok (.aload_n 0, 1) := by decide +kernel
theorem dX9_turned_45 : decode cX9_turned 45 = .ok (.getfield 124, 3) := by decide +kernel
theorem dX9_turned_48 : decode cX9_turned 48 = .ok (.idiv, 1) := by decide +kernel
theorem dX9_turned_49 : decode cX9_turned 49 = .ok (.iadd, 1) := by decide +kernel
theorem dX9_turned_50 : decode cX9_turned 50 = .ok (.iaload, 1) := by decide +kernel
theorem dX9_turned_51 : decode cX9_turned 51 = .ok (.iadd, 1) := by decide +kernel
theorem dX9_turned_52 : decode cX9_turned 52 = .ok (.istore_n 2, 1) := by decide +kernel
theorem dX9_turned_53 : decode cX9_turned 53 = .ok (.iinc 3 1, 3) := by decide +kernel
theorem dX9_turned_56 : decode cX9_turned 56 = .ok (.goto (-47), 3) := by decide +kernel
theorem dX9_turned_59 : decode cX9_turned 59 = .ok (.aload_n 0, 1) := by decide +kernel
theorem dX9_turned_60 : decode cX9_turned 60 = .ok (.getfield 124, 3) := by decide +kernel
theorem dX9_turned_63 : decode cX9_turned 63 = .ok (.invokestatic 127, 3) := by decide +kernel
theorem dX9_turned_66 : decode cX9_turned 66 = .ok (.iload_n 2, 1) := by decide +kernel
theorem dX9_turned_67 : decode cX9_turned 67 = .ok (.iadd, 1) := by decide +kernel
theorem dX9_turned_68 : decode cX9_turned 68 = .ok (.ireturn, 1) := by decide +kernel
theorem dX9_even_0 : decode cX9_even 0 = .ok (.aload_n 0, 1) := by decide +kernel
theorem dX9_even_1 : decode cX9_even 1 = .ok (.invokevirtual 175, 3) := by decide +kernel
theorem dX9_even_4 : decode cX9_even 4 = .ok (.iconst 0, 1) := by decide +kernel
theorem dX9_even_5 : decode cX9_even 5 = .ok (.istore_n 1, 1) := by decide +kernel
theorem dX9_even_6 : decode cX9_even 6 = .ok (.iload_n 1, 1) := by decide +kernel
theorem dX9_even_7 : decode cX9_even 7 = .ok (.sipush 19700, 3) := by decide +kernel
theorem dX9_even_10 : decode cX9_even 10 = .ok (.if_icmp .ge 33, 3) := by decide +kernel
theorem dX9_even_13 : decode cX9_even 13 = .ok (.aload_n 0, 1) := by decide +kernel
theorem dX9_even_14 : decode cX9_even 14 = .ok (.getfield 39, 3) := by decide +kernel
theorem dX9_even_17 : decode cX9_even 17 = .ok (.iload_n 1, 1) := by decide +kernel
theorem dX9_even_18 : decode cX9_even 18 = .ok (.iaload, 1) := by decide +kernel
theorem dX9_even_19 : decode cX9_even 19 = .ok (.ifCond .ne 18, 3) := by decide +kernel
theorem dX9_even_22 : decode cX9_even 22 = .ok (.aload_n 0, 1) := by decide +kernel
theorem dX9_even_23 : decode cX9_even 23 = .ok (.getfield 39, 3) := by decide +kernel
theorem dX9_even_26 : decode cX9_even 26 = .ok (.aload_n 0, 1) := by decide +kernel
theorem dX9_even_27 : decode cX9_even 27 = .ok (.iload_n 1, 1) := by decide +kernel
theorem dX9_even_28 : decode cX9_even 28 = .ok (.invokevirtual 249, 3) := by decide +kernel
theorem dX9_even_31 : decode cX9_even 31 = .ok (.iaload, 1) := by decide +kernel
theorem dX9_even_32 : decode cX9_even 32 = .ok (.ifCond .eq 5, 3) := by decide +kernel
theorem dX9_even_35 : decode cX9_even 35 = .ok (.iconst 0, 1) := by decide +kernel
theorem dX9_even_36 : decode cX9_even 36 = .ok (.ireturn, 1) := by decide +kernel
theorem dX9_even_37 : decode cX9_even 37 = .ok (.iinc 1 1, 3) := by decide +kernel
theorem dX9_even_40 : decode cX9_even 40 = .ok (.goto (-34), 3) := by decide +kernel
theorem dX9_even_43 : decode cX9_even 43 = .ok (.iconst 1, 1) := by decide +kernel
theorem dX9_even_44 : decode cX9_even 44 = .ok (.ireturn, 1) := by decide +kernel
theorem dX9_keep_0 : decode cX9_keep 0 = .ok (.iload_n 1, 1) := by decide +kernel
theorem dX9_keep_1 : decode cX9_keep 1 = .ok (.i2l, 1) := by decide +kernel
theorem dX9_keep_2 : decode cX9_keep 2 = .ok (.lconst 0, 1) := by decide +kernel
theorem dX9_keep_3 : decode cX9_keep 3 = .ok (.lconst 1, 1) := by decide +kernel
theorem dX9_keep_4 : decode cX9_keep 4 = .ok (.invokestatic 105, 3) := by decide +kernel
theorem dX9_keep_7 : decode cX9_keep 7 = .ok (.ifCond .ne 5, 3) := by decide +kernel
theorem dX9_keep_10 : decode cX9_keep 10 = .ok (.iconst (-1), 1) := by decide +kernel
theorem dX9_keep_11 : decode cX9_keep 11 = .ok (.ireturn, 1) := by decide +kernel
theorem dX9_keep_12 : decode cX9_keep 12 = .ok (.aload_n 0, 1) := by decide +kernel
theorem dX9_keep_13 : decode cX9_keep 13 = .ok (.getfield 78, 3) := by decide +kernel
theorem dX9_keep_16 : decode cX9_keep 16 = .ok (.iload_n 1, 1) := by decide +kernel
theorem dX9_keep_17 : decode cX9_keep 17 = .ok (.aload_n 0, 1) := by decide +kernel
theorem dX9_keep_18 : decode cX9_keep 18 = .ok (.getfield 113, 3) := by decide +kernel
theorem dX9_keep_21 : decode cX9_keep 21 = .ok (.iastore, 1) := by decide +kernel
theorem dX9_keep_22 : decode cX9_keep 22 = .ok (.iconst 0, 1) := by decide +kernel
theorem dX9_keep_23 : decode cX9_keep 23 = .ok (.istore_n 2, 1) := by decide +kernel
theorem dX9_keep_24 : decode cX9_keep 24 = .ok (.iload_n 2, 1) := by decide +kernel
theorem dX9_keep_25 : decode cX9_keep 25 = .ok (.aload_n 0, 1) := by decide +kernel
theorem dX9_keep_26 : decode cX9_keep 26 = .ok (.getfield 113, 3) := by decide +kernel
theorem dX9_keep_29 : decode cX9_keep 29 = .ok (.if_icmp .ge 43, 3) := by decide +kernel
theorem dX9_keep_32 : decode cX9_keep 32 = .ok (.aload_n 0, 1) := by decide +kernel
theorem dX9_keep_33 : decode cX9_keep 33 = .ok (.getfield 81, 3) := by decide +kernel
theorem dX9_keep_36 : decode cX9_keep 36 = .ok (.bipush 6, 2) := by decide +kernel
theorem dX9_keep_38 : decode cX9_keep 38 = .ok (.iload_n 1, 1) := by decide +kernel
theorem dX9_keep_39 : decode cX9_keep 39 = .ok (.imul, 1) := by decide +kernel
theorem dX9_keep_40 : decode cX9_keep 40 = .ok (.iload_n 2, 1) := by decide +kernel
theorem dX9_keep_41 : decode cX9_keep 41 = .ok (.iadd, 1) := by decide +kernel
theorem dX9_keep_42 : decode cX9_keep 42 = .ok (.aload_n 0, 1) := by decide +kernel
theorem dX9_keep_43 : decode cX9_keep 43 = .ok (.getfield 23, 3) := by decide +kernel
theorem dX9_keep_46 : decode cX9_keep 46 = .ok (.iload_n 2, 1) := by decide +kernel
theorem dX9_keep_47 : decode cX9_keep 47 = .ok (.iaload, 1) := by decide +kernel
theorem dX9_keep_48 : decode cX9_keep 48 = .ok (.iastore, 1) := by decide +kernel
theorem dX9_keep_49 : decode cX9_keep 49 = .ok (.aload_n 0, 1) := by decide +kernel
theorem dX9_keep_50 : decode cX9_keep 50 = .ok (.getfield 84, 3) := by decide +kernel
theorem dX9_keep_53 : decode cX9_keep 53 = .ok (.bipush 6, 2) := by decide +kernel
theorem dX9_keep_55 : decode cX9_keep 55 = .ok (.iload_n 1, 1) := by decide +kernel
theorem dX9_keep_56 : decode cX9_keep 56 = .ok (.imul, 1) := by decide +kernel
theorem dX9_keep_57 : decode cX9_keep 57 = .ok (.iload_n 2, 1) := by decide +kernel
theorem dX9_keep_58 : decode cX9_keep 58 = .ok (.iadd, 1) := by decide +kernel
theorem dX9_keep_59 : decode cX9_keep 59 = .ok (.aload_n 0, 1) := by decide +kernel
theorem dX9_keep_60 : decode cX9_keep 60 = .ok (.getfield 26, 3) := by decide +kernel
theorem dX9_keep_63 : decode cX9_keep 63 = .ok (.iload_n 2, 1) := by decide +kernel
theorem dX9_keep_64 : decode cX9_keep 64 = .ok (.iaload, 1) := by decide +kernel
theorem dX9_keep_65 : decode cX9_keep 65 = .ok (.iastore, 1) := by decide +kernel
theorem dX9_keep_66 : decode cX9_keep 66 = .ok (.iinc 2 1, 3) := by decide +kernel
theorem dX9_keep_69 : decode cX9_keep 69 = .ok (.goto (-45), 3) := by decide +kernel
theorem dX9_keep_72 : decode cX9_keep 72 = .ok (.aload_n 0, 1) := by decide +kernel
theorem dX9_keep_73 : decode cX9_keep 73 = .ok (.getfield 113, 3) := by decide +kernel
theorem dX9_keep_76 : decode cX9_keep 76 = .ok (.ireturn, 1) := by decide +kernel
theorem dX9_same_0 : decode cX9_same 0 = .ok (.iload_n 1, 1) := by decide +kernel
theorem dX9_same_1 : decode cX9_same 1 = .ok (.i2l, 1) := by decide +kernel
theorem dX9_same_2 : decode cX9_same 2 = .ok (.lconst 0, 1) := by decide +kernel
theorem dX9_same_3 : decode cX9_same 3 = .ok (.lconst 1, 1) := by decide +kernel
theorem dX9_same_4 : decode cX9_same 4 = .ok (.invokestatic 105, 3) := by decide +kernel
theorem dX9_same_7 : decode cX9_same 7 = .ok (.ifCond .ne 5, 3) := by decide +kernel
theorem dX9_same_10 : decode cX9_same 10 = .ok (.iconst (-1), 1) := by decide +kernel
theorem dX9_same_11 : decode cX9_same 11 = .ok (.ireturn, 1) := by decide +kernel
theorem dX9_same_12 : decode cX9_same 12 = .ok (.aload_n 0, 1) := by decide +kernel
theorem dX9_same_13 : decode cX9_same 13 = .ok (.invokevirtual 175, 3) := by decide +kernel
theorem dX9_same_16 : decode cX9_same 16 = .ok (.iconst 0, 1) := by decide +kernel
theorem dX9_same_17 : decode cX9_same 17 = .ok (.istore_n 2, 1) := by decide +kernel
theorem dX9_same_18 : decode cX9_same 18 = .ok (.iload_n 2, 1) := by decide +kernel
theorem dX9_same_19 : decode cX9_same 19 = .ok (.aload_n 0, 1) := by decide +kernel
theorem dX9_same_20 : decode cX9_same 20 = .ok (.getfield 78, 3) := by decide +kernel
theorem dX9_same_23 : decode cX9_same 23 = .ok (.iload_n 1, 1) := by decide +kernel
theorem dX9_same_24 : decode cX9_same 24 = .ok (.iaload, 1) := by decide +kernel
theorem dX9_same_25 : decode cX9_same 25 = .ok (.if_icmp .ge 43, 3) := by decide +kernel
theorem dX9_same_28 : decode cX9_same 28 = .ok (.aload_n 0, 1) := by decide +kernel
theorem dX9_same_29 : decode cX9_same 29 = .ok (.getfield 87, 3) := by decide +kernel
theorem dX9_same_32 : decode cX9_same 32 = .ok (.iload_n 2, 1) := by decide +kernel
theorem dX9_same_33 : decode cX9_same 33 = .ok (.aload_n 0, 1) := by decide +kernel
theorem dX9_same_34 : decode cX9_same 34 = .ok (.getfield 81, 3) := by decide +kernel
theorem dX9_same_37 : decode cX9_same 37 = .ok (.bipush 6, 2) := by decide +kernel
theorem dX9_same_39 : decode cX9_same 39 = .ok (.iload_n 1, 1) := by decide +kernel
theorem dX9_same_40 : decode cX9_same 40 = .ok (.imul, 1) := by decide +kernel
theorem dX9_same_41 : decode cX9_same 41 = .ok (.iload_n 2, 1) := by decide +kernel
theorem dX9_same_42 : decode cX9_same 42 = .ok (.iadd, 1) := by decide +kernel
theorem dX9_same_43 : decode cX9_same 43 = .ok (.iaload, 1) := by decide +kernel
theorem dX9_same_44 : decode cX9_same 44 = .ok (.iastore, 1) := by decide +kernel
theorem dX9_same_45 : decode cX9_same 45 = .ok (.aload_n 0, 1) := by decide +kernel
theorem dX9_same_46 : decode cX9_same 46 = .ok (.getfield 90, 3) := by decide +kernel
theorem dX9_same_49 : decode cX9_same 49 = .ok (.iload_n 2, 1) := by decide +kernel
theorem dX9_same_50 : decode cX9_same 50 = .ok (.aload_n 0, 1) := by decide +kernel
theorem dX9_same_51 : decode cX9_same 51 = .ok (.getfield 84, 3) := by decide +kernel
theorem dX9_same_54 : decode cX9_same 54 = .ok (.bipush 6, 2) := by decide +kernel
theorem dX9_same_56 : decode cX9_same 56 = .ok (.iload_n 1, 1) := by decide +kernel
theorem dX9_same_57 : decode cX9_same 57 = .ok (.imul, 1) := by decide +kernel
theorem dX9_same_58 : decode cX9_same 58 = .ok (.iload_n 2, 1) := by decide +kernel
theorem dX9_same_59 : decode cX9_same 59 = .ok (.iadd, 1) := by decide +kernel
theorem dX9_same_60 : decode cX9_same 60 = .ok (.iaload, 1) := by decide +kernel
theorem dX9_same_61 : decode cX9_same 61 = .ok (.iastore, 1) := by decide +kernel
theorem dX9_same_62 : decode cX9_same 62 = .ok (.iinc 2 1, 3) := by decide +kernel
theorem dX9_same_65 : decode cX9_same 65 = .ok (.goto (-47), 3) := by decide +kernel
theorem dX9_same_68 : decode cX9_same 68 = .ok (.aload_n 0, 1) := by decide +kernel
theorem dX9_same_69 : decode cX9_same 69 = .ok (.aload_n 0, 1) := by decide +kernel
theorem dX9_same_70 : decode cX9_same 70 = .ok (.getfield 42, 3) := by decide +kernel
theorem dX9_same_73 : decode cX9_same 73 = .ok (.aload_n 0, 1) := by decide +kernel
theorem dX9_same_74 : decode cX9_same 74 = .ok (.getfield 87, 3) := by decide +kernel
theorem dX9_same_77 : decode cX9_same 77 = .ok (.aload_n 0, 1) := by decide +kernel
theorem dX9_same_78 : decode cX9_same 78 = .ok (.getfield 90, 3) := by decide +kernel
theorem dX9_same_81 : decode cX9_same 81 = .ok (.aload_n 0, 1) := by decide +kernel
theorem dX9_same_82 : decode cX9_same 82 = .ok (.getfield 78, 3) := by decide +kernel
theorem dX9_same_85 : decode cX9_same 85 = .ok (.iload_n 1, 1) := by decide +kernel
theorem dX9_same_86 : decode cX9_same 86 = .ok (.iaload, 1) := by decide +kernel
theorem dX9_same_87 : decode cX9_same 87 = .ok (.invokevirtual 153, 3) := by decide +kernel
theorem dX9_same_90 : decode cX9_same 90 = .ok (.iconst 1, 1) := by decide +kernel
theorem dX9_same_91 : decode cX9_same 91 = .ok (.istore_n 2, 1) := by decide +kernel
theorem dX9_same_92 : decode cX9_same 92 = .ok (.iconst 1, 1) := by decide +kernel
theorem dX9_same_93 : decode cX9_same 93 = .ok (.istore_n 3, 1) := by decide +kernel
theorem dX9_same_94 : decode cX9_same 94 = .ok (.iconst 0, 1) := by decide +kernel
theorem dX9_same_95 : decode cX9_same 95 = .ok (.istore 4, 2) := by decide +kernel
theorem dX9_same_97 : decode cX9_same 97 = .ok (.iload 4, 2) := by decide +kernel
theorem dX9_same_99 : decode cX9_same 99 = .ok (.sipush 19700, 3) := by decide +kernel
theorem dX9_same_102 : decode cX9_same 102 = .ok (.if_icmp .ge 107, 3) := by decide +kernel
theorem dX9_same_105 : decode cX9_same 105 = .ok (.iload_n 2, 1) := by decide +kernel
theorem dX9_same_106 : decode cX9_same 106 = .ok (.ifCond .ne 7, 3) := by decide +kernel
theorem dX9_same_109 : decode cX9_same 109 = .ok (.iload_n 3, 1) := by decide +kernel
theorem dX9_same_110 : decode cX9_same 110 = .ok (.ifCond .eq 99, 3) := by decide +kernel
theorem dX9_same_113 : decode cX9_same 113 = .ok (.iload_n 2, 1) := by decide +kernel
theorem dX9_same_114 : decode cX9_same 114 = .ok (.ifCond .eq 40, 3) := by decide +kernel
theorem dX9_same_117 : decode cX9_same 117 = .ok (.aload_n 0, 1) := by decide +kernel
theorem dX9_same_118 : decode cX9_same 118 = .ok (.getfield 39, 3) := by decide +kernel
theorem dX9_same_121 : decode cX9_same 121 = .ok (.iload 4, 2) := by decide +kernel
theorem dX9_same_123 : decode cX9_same 123 = .ok (.iaload, 1) := by decide +kernel
theorem dX9_same_124 : decode cX9_same 124 = .ok (.ifCond .ne 7, 3) := by decide +kernel
theorem dX9_same_127 : decode cX9_same 127 = .ok (.iconst 1, 1) := by decide +kernel
theorem dX9_same_128 : decode cX9_same 128 = .ok (.goto 4, 3) := by decide +kernel
theorem dX9_same_131 : decode cX9_same 131 = .ok (.iconst 0, 1) := by decide +kernel
theorem dX9_same_132 : decode cX9_same 132 = .ok (.aload_n 0, 1) := by decide +kernel
theorem dX9_same_133 : decode cX9_same 133 = .ok (.getfield 42, 3) := by decide +kernel
theorem dX9_same_136 : decode cX9_same 136 = .ok (.iload 4, 2) := by decide +kernel
theorem dX9_same_138 : decode cX9_same 138 = .ok (.iaload, 1) := by decide +kernel
theorem dX9_same_139 : decode cX9_same 139 = .ok (.ifCond .ne 7, 3) := by decide +kernel
theorem dX9_same_142 : decode cX9_same 142 = .ok (.iconst 1, 1) := by decide +kernel
theorem dX9_same_143 : decode cX9_same 143 = .ok (.goto 4, 3) := by decide +kernel
theorem dX9_same_146 : decode cX9_same 146 = .ok (.iconst 0, 1) := by decide +kernel
theorem dX9_same_147 : decode cX9_same 147 = .ok (.if_icmp .ne 7, 3) := by decide +kernel
theorem dX9_same_150 : decode cX9_same 150 = .ok (.iconst 1, 1) := by decide +kernel
theorem dX9_same_151 : decode cX9_same 151 = .ok (.goto 4, 3) := by decide +kernel
theorem dX9_same_154 : decode cX9_same 154 = .ok (.iconst 0, 1) := by decide +kernel
theorem dX9_same_155 : decode cX9_same 155 = .ok (.istore_n 2, 1) := by decide +kernel
theorem dX9_same_156 : decode cX9_same 156 = .ok (.iload_n 3, 1) := by decide +kernel
theorem dX9_same_157 : decode cX9_same 157 = .ok (.ifCond .eq 44, 3) := by decide +kernel
theorem dX9_same_160 : decode cX9_same 160 = .ok (.aload_n 0, 1) := by decide +kernel
theorem dX9_same_161 : decode cX9_same 161 = .ok (.getfield 39, 3) := by decide +kernel
theorem dX9_same_164 : decode cX9_same 164 = .ok (.iload 4, 2) := by decide +kernel
theorem dX9_same_166 : decode cX9_same 166 = .ok (.iaload, 1) := by decide +kernel
theorem dX9_same_167 : decode cX9_same 167 = .ok (.ifCond .ne 7, 3) := by decide +kernel
theorem dX9_same_170 : decode cX9_same 170 = .ok (.iconst 1, 1) := by decide +kernel
theorem dX9_same_171 : decode cX9_same 171 = .ok (.goto 4, 3) := by decide +kernel
theorem dX9_same_174 : decode cX9_same 174 = .ok (.iconst 0, 1) := by decide +kernel
theorem dX9_same_175 : decode cX9_same 175 = .ok (.aload_n 0, 1) := by decide +kernel
theorem dX9_same_176 : decode cX9_same 176 = .ok (.getfield 42, 3) := by decide +kernel
theorem dX9_same_179 : decode cX9_same 179 = .ok (.aload_n 0, 1) := by decide +kernel
theorem dX9_same_180 : decode cX9_same 180 = .ok (.iload 4, 2) := by decide +kernel
theorem dX9_same_182 : decode cX9_same 182 = .ok (.invokevirtual 249, 3) := by decide +kernel
theorem dX9_same_185 : decode cX9_same 185 = .ok (.iaload, 1) := by decide +kernel
theorem dX9_same_186 : decode cX9_same 186 = .ok (.ifCond .ne 7, 3) := by decide +kernel
theorem dX9_same_189 : decode cX9_same 189 = .ok (.iconst 1, 1) := by decide +kernel
theorem dX9_same_190 : decode cX9_same 190 = .ok (.goto 4, 3) := by decide +kernel
theorem dX9_same_193 : decode cX9_same 193 = .ok (.iconst 0, 1) := by decide +kernel
theorem dX9_same_194 : decode cX9_same 194 = .ok (.if_icmp .ne 7, 3) := by decide +kernel
theorem dX9_same_197 : decode cX9_same 197 = .ok (.iconst 1, 1) := by decide +kernel
theorem dX9_same_198 : decode cX9_same 198 = .ok (.goto 4, 3) := by decide +kernel
theorem dX9_same_201 : decode cX9_same 201 = .ok (.iconst 0, 1) := by decide +kernel
theorem dX9_same_202 : decode cX9_same 202 = .ok (.istore_n 3, 1) := by decide +kernel
theorem dX9_same_203 : decode cX9_same 203 = .ok (.iinc 4 1, 3) := by decide +kernel
theorem dX9_same_206 : decode cX9_same 206 = .ok (.goto (-109), 3) := by decide +kernel
theorem dX9_same_209 : decode cX9_same 209 = .ok (.iload_n 2, 1) := by decide +kernel
theorem dX9_same_210 : decode cX9_same 210 = .ok (.ifCond .eq 7, 3) := by decide +kernel
theorem dX9_same_213 : decode cX9_same 213 = .ok (.iconst 1, 1) := by decide +kernel
theorem dX9_same_214 : decode cX9_same 214 = .ok (.goto 12, 3) := by decide +kernel
theorem dX9_same_217 : decode cX9_same 217 = .ok (.iload_n 3, 1) := by decide +kernel
theorem dX9_same_218 : decode cX9_same 218 = .ok (.ifCond .eq 7, 3) := by decide +kernel
theorem dX9_same_221 : decode cX9_same 221 = .ok (.iconst 2, 1) := by decide +kernel
theorem dX9_same_222 : decode cX9_same 222 = .ok (.goto 4, 3) := by decide +kernel
theorem dX9_same_225 : decode cX9_same 225 = .ok (.iconst 0, 1) := by decide +kernel
theorem dX9_same_226 : decode cX9_same 226 = .ok (.ireturn, 1) := by decide +kernel
theorem dX9_layImage_0 : decode cX9_layImage 0 = .ok (.aload_n 0, 1) := by decide +kernel
theorem dX9_layImage_1 : decode cX9_layImage 1 = .ok (.getfield 99, 3) := by decide +kernel
theorem dX9_layImage_4 : decode cX9_layImage 4 = .ok (.iconst 0, 1) := by decide +kernel
theorem dX9_layImage_5 : decode cX9_layImage 5 = .ok (.iload_n 1, 1) := by decide +kernel
theorem dX9_layImage_6 : decode cX9_layImage 6 = .ok (.iastore, 1) := by decide +kernel
theorem dX9_layImage_7 : decode cX9_layImage 7 = .ok (.aload_n 0, 1) := by decide +kernel
theorem dX9_layImage_8 : decode cX9_layImage 8 = .ok (.getfield 99, 3) := by decide +kernel
theorem dX9_layImage_11 : decode cX9_layImage 11 = .ok (.iconst 1, 1) := by decide +kernel
theorem dX9_layImage_12 : decode cX9_layImage 12 = .ok (.iload_n 2, 1) := by decide +kernel
theorem dX9_layImage_13 : decode cX9_layImage 13 = .ok (.iastore, 1) := by decide +kernel
theorem dX9_layImage_14 : decode cX9_layImage 14 = .ok (.aload_n 0, 1) := by decide +kernel
theorem dX9_layImage_15 : decode cX9_layImage 15 = .ok (.getfield 99, 3) := by decide +kernel
theorem dX9_layImage_18 : decode cX9_layImage 18 = .ok (.iconst 2, 1) := by decide +kernel
theorem dX9_layImage_19 : decode cX9_layImage 19 = .ok (.iload_n 3, 1) := by decide +kernel
theorem dX9_layImage_20 : decode cX9_layImage 20 = .ok (.iastore, 1) := by decide +kernel
theorem dX9_layImage_21 : decode cX9_layImage 21 = .ok (.iconst 3, 1) := by decide +kernel
theorem dX9_layImage_22 : decode cX9_layImage 22 = .ok (.istore 4, 2) := by decide +kernel
theorem dX9_layImage_24 : decode cX9_layImage 24 = .ok (.iload 4, 2) := by decide +kernel
theorem dX9_layImage_26 : decode cX9_layImage 26 = .ok (.aload_n 0, 1) := by decide +kernel
theorem dX9_layImage_27 : decode cX9_layImage 27 = .ok (.getfield 7, 3) := by decide +kernel
theorem dX9_layImage_30 : decode cX9_layImage 30 = .ok (.if_icmp .ge 76, 3) := by decide +kernel
theorem dX9_layImage_33 : decode cX9_layImage 33 = .ok (.aload_n 0, 1) := by decide +kernel
theorem dX9_layImage_34 : decode cX9_layImage 34 = .ok (.getfield 99, 3) := by decide +kernel
theorem dX9_layImage_37 : decode cX9_layImage 37 = .ok (.aload_n 0, 1) := by decide +kernel
theorem dX9_layImage_38 : decode cX9_layImage 38 = .ok (.getfield 13, 3) := by decide +kernel
theorem dX9_layImage_41 : decode cX9_layImage 41 = .ok (.iload 4, 2) := by decide +kernel
theorem dX9_layImage_43 : decode cX9_layImage 43 = .ok (.iaload, 1) := by decide +kernel
theorem dX9_layImage_44 : decode cX9_layImage 44 = .ok (.iaload, 1) := by decide +kernel
theorem dX9_layImage_45 : decode cX9_layImage 45 = .ok (.istore 5, 2) := by decide +kernel
theorem dX9_layImage_47 : decode cX9_layImage 47 = .ok (.aload_n 0, 1) := by decide +kernel
theorem dX9_layImage_48 : decode cX9_layImage 48 = .ok (.getfield 99, 3) := by decide +kernel
theorem dX9_layImage_51 : decode cX9_layImage 51 = .ok (.aload_n 0, 1) := by decide +kernel
theorem dX9_layImage_52 : decode cX9_layImage 52 = .ok (.getfield 17, 3) := by decide +kernel
theorem dX9_layImage_55 : decode cX9_layImage 55 = .ok (.iload 4, 2) := by decide +kernel
theorem dX9_layImage_57 : decode cX9_layImage 57 = .ok (.iaload, 1) := by decide +kernel
theorem dX9_layImage_58 : decode cX9_layImage 58 = .ok (.iaload, 1) := by decide +kernel
theorem dX9_layImage_59 : decode cX9_layImage 59 = .ok (.istore 6, 2) := by decide +kernel
theorem dX9_layImage_61 : decode cX9_layImage 61 = .ok (.aload_n 0, 1) := by decide +kernel
theorem dX9_layImage_62 : decode cX9_layImage 62 = .ok (.getfield 99, 3) := by decide +kernel
theorem dX9_layImage_65 : decode cX9_layImage 65 = .ok (.iload 4, 2) := by decide +kernel
theorem dX9_layImage_67 : decode cX9_layImage 67 = .ok (.iload 5, 2) := by decide +kernel
theorem dX9_layImage_69 : decode cX9_layImage 69 = .ok (.bipush (-9), 2) := by decide +kernel
theorem dX9_layImage_71 : decode cX9_layImage 71 = .ok (.if_icmp .eq 10, 3) := by decide +kernel
theorem dX9_layImage_74 : decode cX9_layImage 74 = .ok (.iload 6, 2) := by decide +kernel
theorem dX9_layImage_76 : decode cX9_layImage 76 = .ok (.bipush (-9), 2) := by decide +kernel
theorem dX9_layImage_78 : decode cX9_layImage 78 = .ok (.if_icmp .ne 8, 3) := by decide +kernel
theorem dX9_layImage_81 : decode cX9_layImage 81 = .ok (.bipush (-9), 2) := by decide +kernel
theorem dX9_layImage_83 : decode cX9_layImage 83 = .ok (.goto 16, 3) := by decide +kernel
theorem dX9_layImage_86 : decode cX9_layImage 86 = .ok (.aload_n 0, 1) := by decide +kernel
theorem dX9_layImage_87 : decode cX9_layImage 87 = .ok (.getfield 20, 3) := by decide +kernel
theorem dX9_layImage_90 : decode cX9_layImage 90 = .ok (.bipush 20, 2) := by decide +kernel
theorem dX9_layImage_92 : decode cX9_layImage 92 = .ok (.iload 5, 2) := by decide +kernel
theorem dX9_layImage_94 : decode cX9_layImage 94 = .ok (.imul, 1) := by decide +kernel
theorem dX9_layImage_95 : decode cX9_layImage 95 = .ok (.iload 6, 2) := by decide +kernel
theorem dX9_layImage_97 : decode cX9_layImage 97 = .ok (.iadd, 1) := by decide +kernel
theorem dX9_layImage_98 : decode cX9_layImage 98 = .ok (.iaload, 1) := by decide +kernel
theorem dX9_layImage_99 : decode cX9_layImage 99 = .ok (.iastore, 1) := by decide +kernel
theorem dX9_layImage_100 : decode cX9_layImage 100 = .ok (.iinc 4 1, 3) := by decide +kernel
theorem dX9_layImage_103 : decode cX9_layImage 103 = .ok (.goto (-79), 3) := by decide +kernel
theorem dX9_layImage_106 : decode cX9_layImage 106 = .ok (.return_, 1) := by decide +kernel
theorem dX9_layLaws_0 : decode cX9_layLaws 0 = .ok (.iconst 0, 1) := by decide +kernel
theorem dX9_layLaws_1 : decode cX9_layLaws 1 = .ok (.istore_n 1, 1) := by decide +kernel
theorem dX9_layLaws_2 : decode cX9_layLaws 2 = .ok (.iload_n 1, 1) := by decide +kernel
theorem dX9_layLaws_3 : decode cX9_layLaws 3 = .ok (.sipush 8000, 3) := by decide +kernel
theorem dX9_layLaws_6 : decode cX9_layLaws 6 = .ok (.if_icmp .ge 157, 3) := by decide +kernel
theorem dX9_layLaws_9 : decode cX9_layLaws 9 = .ok (.iload_n 1, 1) := by decide +kernel
theorem dX9_layLaws_10 : decode cX9_layLaws 10 = .ok (.sipush 400, 3) := by decide +kernel
theorem dX9_layLaws_13 : decode cX9_layLaws 13 = .ok (.idiv, 1) := by decide +kernel
theorem dX9_layLaws_14 : decode cX9_layLaws 14 = .ok (.istore_n 2, 1) := by decide +kernel
theorem dX9_layLaws_15 : decode cX9_layLaws 15 = .ok (.iload_n 1, 1) := by decide +kernel
theorem dX9_layLaws_16 : decode cX9_layLaws 16 = .ok (.bipush 20, 2) := by decide +kernel
theorem dX9_layLaws_18 : decode cX9_layLaws 18 = .ok (.idiv, 1) := by decide +kernel
theorem dX9_layLaws_19 : decode cX9_layLaws 19 = .ok (.bipush 20, 2) := by decide +kernel
theorem dX9_layLaws_21 : decode cX9_layLaws 21 = .ok (.irem, 1) := by decide +kernel
theorem dX9_layLaws_22 : decode cX9_layLaws 22 = .ok (.istore_n 3, 1) := by decide +kernel
theorem dX9_layLaws_23 : decode cX9_layLaws 23 = .ok (.iload_n 1, 1) := by decide +kernel
theorem dX9_layLaws_24 : decode cX9_layLaws 24 = .ok (.bipush 20, 2) := by decide +kernel
theorem dX9_layLaws_26 : decode cX9_layLaws 26 = .ok (.irem, 1) := by decide +kernel
theorem dX9_layLaws_27 : decode cX9_layLaws 27 = .ok (.istore 4, 2) := by decide +kernel
theorem dX9_layLaws_29 : decode cX9_layLaws 29 = .ok (.iload_n 2, 1) := by decide +kernel
theorem dX9_layLaws_30 : decode cX9_layLaws 30 = .ok (.aload_n 0, 1) := by decide +kernel
theorem dX9_layLaws_31 : decode cX9_layLaws 31 = .ok (.getfield 7, 3) := by decide +kernel
theorem dX9_layLaws_34 : decode cX9_layLaws 34 = .ok (.if_icmp .ge 123, 3) := by decide +kernel
theorem dX9_layLaws_37 : decode cX9_layLaws 37 = .ok (.iload_n 3, 1) := by decide +kernel
theorem dX9_layLaws_38 : decode cX9_layLaws 38 = .ok (.aload_n 0, 1) := by decide +kernel
theorem dX9_layLaws_39 : decode cX9_layLaws 39 = .ok (.getfield 7, 3) := by decide +kernel
theorem dX9_layLaws_42 : decode cX9_layLaws 42 = .ok (.if_icmp .ge 115, 3) := by decide +kernel
theorem dX9_layLaws_45 : decode cX9_layLaws 45 = .ok (.iload 4, 2) := by decide +kernel
theorem dX9_layLaws_47 : decode cX9_layLaws 47 = .ok (.aload_n 0, 1) := by decide +kernel
theorem dX9_layLaws_48 : decode cX9_layLaws 48 = .ok (.getfield 7, 3) := by decide +kernel
theorem dX9_layLaws_51 : decode cX9_layLaws 51 = .ok (.if_icmp .ge 106, 3) := by decide +kernel
theorem dX9_layLaws_54 : decode cX9_layLaws 54 = .ok (.aload_n 0, 1) := by decide +kernel
theorem dX9_layLaws_55 : decode cX9_layLaws 55 = .ok (.getfield 113, 3) := by decide +kernel
theorem dX9_layLaws_58 : decode cX9_layLaws 58 = .ok (.ifCond .le 99, 3) := by decide +kernel
theorem dX9_layLaws_61 : decode cX9_layLaws 61 = .ok (.aload_n 0, 1) := by decide +kernel
theorem dX9_layLaws_62 : decode cX9_layLaws 62 = .ok (.iload_n 2, 1) := by decide +kernel
theorem dX9_layLaws_63 : decode cX9_layLaws 63 = .ok (.iload_n 3, 1) := by decide +kernel
theorem dX9_layLaws_64 : decode cX9_layLaws 64 = .ok (.iload 4, 2) := by decide +kernel
theorem dX9_layLaws_66 : decode cX9_layLaws 66 = .ok (.invokevirtual 252, 3) := by decide +kernel
theorem dX9_layLaws_69 : decode cX9_layLaws 69 = .ok (.iconst 0, 1) := by decide +kernel
theorem dX9_layLaws_70 : decode cX9_layLaws 70 = .ok (.istore 5, 2) := by decide +kernel
theorem dX9_layLaws_72 : decode cX9_layLaws 72 = .ok (.iload 5, 2) := by decide +kernel
theorem dX9_layLaws_74 : decode cX9_layLaws 74 = .ok (.aload_n 0, 1) := by decide +kernel
theorem dX9_layLaws_75 : decode cX9_layLaws 75 = .ok (.getfield 113, 3) := by decide +kernel
theorem dX9_layLaws_78 : decode cX9_layLaws 78 = .ok (.if_icmp .ge 79, 3) := by decide +kernel
theorem dX9_layLaws_81 : decode cX9_layLaws 81 = .ok (.aload_n 0, 1) := by decide +kernel
theorem dX9_layLaws_82 : decode cX9_layLaws 82 = .ok (.getfield 99, 3) := by decide +kernel
theorem dX9_layLaws_85 : decode cX9_layLaws 85 = .ok (.aload_n 0, 1) := by decide +kernel
theorem dX9_layLaws_86 : decode cX9_layLaws 86 = .ok (.getfield 23, 3) := by decide +kernel
theorem dX9_layLaws_89 : decode cX9_layLaws 89 = .ok (.iload 5, 2) := by decide +kernel
theorem dX9_layLaws_91 : decode cX9_layLaws 91 = .ok (.iaload, 1) := by decide +kernel
theorem dX9_layLaws_92 : decode cX9_layLaws 92 = .ok (.iaload, 1) := by decide +kernel
theorem dX9_layLaws_93 : decode cX9_layLaws 93 = .ok (.istore 6, 2) := by decide +kernel
theorem dX9_layLaws_95 : decode cX9_layLaws 95 = .ok (.aload_n 0, 1) := by decide +kernel
theorem dX9_layLaws_96 : decode cX9_layLaws 96 = .ok (.getfield 99, 3) := by decide +kernel
theorem dX9_layLaws_99 : decode cX9_layLaws 99 = .ok (.aload_n 0, 1) := by decide +kernel
theorem dX9_layLaws_100 : decode cX9_layLaws 100 = .ok (.getfield 26, 3) := by decide +kernel
theorem dX9_layLaws_103 : decode cX9_layLaws 103 = .ok (.iload 5, 2) := by decide +kernel
theorem dX9_layLaws_105 : decode cX9_layLaws 105 = .ok (.iaload, 1) := by decide +kernel
theorem dX9_layLaws_106 : decode cX9_layLaws 106 = .ok (.iaload, 1) := by decide +kernel
theorem dX9_layLaws_107 : decode cX9_layLaws 107 = .ok (.istore 7, 2) := by decide +kernel
theorem dX9_layLaws_109 : decode cX9_layLaws 109 = .ok (.iload 6, 2) := by decide +kernel
theorem dX9_layLaws_111 : decode cX9_layLaws 111 = .ok (.bipush (-9), 2) := by decide +kernel
theorem dX9_layLaws_113 : decode cX9_layLaws 113 = .ok (.if_icmp .eq 38, 3) := by decide +kernel
theorem dX9_layLaws_116 : decode cX9_layLaws 116 = .ok (.iload 7, 2) := by decide +kernel
theorem dX9_layLaws_118 : decode cX9_layLaws 118 = .ok (.bipush (-9), 2) := by decide +kernel
theorem dX9_layLaws_120 : decode cX9_layLaws 120 = .ok (.if_icmp .eq 31, 3) := by decide +kernel
theorem dX9_layLaws_123 : decode cX9_layLaws 123 = .ok (.aload_n 0, 1) := by decide +kernel
theorem dX9_layLaws_124 : decode cX9_layLaws 124 = .ok (.getfield 102, 3) := by decide +kernel
theorem dX9_layLaws_127 : decode cX9_layLaws 127 = .ok (.bipush 20, 2) := by decide +kernel
theorem dX9_layLaws_129 : decode cX9_layLaws 129 = .ok (.iload 6, 2) := by decide +kernel
theorem dX9_layLaws_131 : decode cX9_layLaws 131 = .ok (.imul, 1) := by decide +kernel
theorem dX9_layLaws_132 : decode cX9_layLaws 132 = .ok (.iload 7, 2) := by decide +kernel
theorem dX9_layLaws_134 : decode cX9_layLaws 134 = .ok (.iadd, 1) := by decide +kernel
theorem dX9_layLaws_135 : decode cX9_layLaws 135 = .ok (.iconst 1, 1) := by decide +kernel
theorem dX9_layLaws_136 : decode cX9_layLaws 136 = .ok (.bastore, 1) := by decide +kernel
theorem dX9_layLaws_137 : decode cX9_layLaws 137 = .ok (.aload_n 0, 1) := by decide +kernel
theorem dX9_layLaws_138 : decode cX9_layLaws 138 = .ok (.getfield 102, 3) := by decide +kernel
theorem dX9_layLaws_141 : decode cX9_layLaws 141 = .ok (.bipush 20, 2) := by decide +kernel
theorem dX9_layLaws_143 : decode cX9_layLaws 143 = .ok (.iload 7, 2) := by decide +kernel
theorem dX9_layLaws_145 : decode cX9_layLaws 145 = .ok (.imul, 1) := by decide +kernel
theorem dX9_layLaws_146 : decode cX9_layLaws 146 = .ok (.iload 6, 2) := by decide +kernel
theorem dX9_layLaws_148 : decode cX9_layLaws 148 = .ok (.iadd, 1) := by decide +kernel
theorem dX9_layLaws_149 : decode cX9_layLaws 149 = .ok (.iconst 1, 1) := by decide +kernel
theorem dX9_layLaws_150 : decode cX9_layLaws 150 = .ok (.bastore, 1) := by decide +kernel
theorem dX9_layLaws_151 : decode cX9_layLaws 151 = .ok (.iinc 5 1, 3) := by decide +kernel
theorem dX9_layLaws_154 : decode cX9_layLaws 154 = .ok (.goto (-82), 3) := by decide +kernel
theorem dX9_layLaws_157 : decode cX9_layLaws 157 = .ok (.iinc 1 1, 3) := by decide +kernel
theorem dX9_layLaws_160 : decode cX9_layLaws 160 = .ok (.goto (-158), 3) := by decide +kernel
theorem dX9_layLaws_163 : decode cX9_layLaws 163 = .ok (.return_, 1) := by decide +kernel
theorem dX9_layParts_0 : decode cX9_layParts 0 = .ok (.iconst 3, 1) := by decide +kernel
theorem dX9_layParts_1 : decode cX9_layParts 1 = .ok (.istore_n 1, 1) := by decide +kernel
theorem dX9_layParts_2 : decode cX9_layParts 2 = .ok (.iload_n 1, 1) := by decide +kernel
theorem dX9_layParts_3 : decode cX9_layParts 3 = .ok (.aload_n 0, 1) := by decide +kernel
theorem dX9_layParts_4 : decode cX9_layParts 4 = .ok (.getfield 7, 3) := by decide +kernel
theorem dX9_layParts_7 : decode cX9_layParts 7 = .ok (.if_icmp .ge 115, 3) := by decide +kernel
theorem dX9_layParts_10 : decode cX9_layParts 10 = .ok (.iconst 3, 1) := by decide +kernel
theorem dX9_layParts_11 : decode cX9_layParts 11 = .ok (.istore_n 2, 1) := by decide +kernel
theorem dX9_layParts_12 : decode cX9_layParts 12 = .ok (.iload_n 2, 1) := by decide +kernel
theorem dX9_layParts_13 : decode cX9_layParts 13 = .ok (.aload_n 0, 1) := by decide +kernel
theorem dX9_layParts_14 : decode cX9_layParts 14 = .ok (.getfield 7, 3) := by decide +kernel
theorem dX9_layParts_17 : decode cX9_layParts 17 = .ok (.if_icmp .ge 99, 3) := by decide +kernel
theorem dX9_layParts_20 : decode cX9_layParts 20 = .ok (.aload_n 0, 1) := by decide +kernel
theorem dX9_layParts_21 : decode cX9_layParts 21 = .ok (.getfield 96, 3) := by decide +kernel
theorem dX9_layParts_24 : decode cX9_layParts 24 = .ok (.aload_n 0, 1) := by decide +kernel
theorem dX9_layParts_25 : decode cX9_layParts 25 = .ok (.getfield 13, 3) := by decide +kernel
theorem dX9_layParts_28 : decode cX9_layParts 28 = .ok (.iload_n 1, 1) := by decide +kernel
theorem dX9_layParts_29 : decode cX9_layParts 29 = .ok (.iaload, 1) := by decide +kernel
theorem dX9_layParts_30 : decode cX9_layParts 30 = .ok (.iaload, 1) := by decide +kernel
theorem dX9_layParts_31 : decode cX9_layParts 31 = .ok (.aload_n 0, 1) := by decide +kernel
theorem dX9_layParts_32 : decode cX9_layParts 32 = .ok (.getfield 96, 3) := by decide +kernel
theorem dX9_layParts_35 : decode cX9_layParts 35 = .ok (.aload_n 0, 1) := by decide +kernel
theorem dX9_layParts_36 : decode cX9_layParts 36 = .ok (.getfield 13, 3) := by decide +kernel
theorem dX9_layParts_39 : decode cX9_layParts 39 = .ok (.iload_n 2, 1) := by decide +kernel
theorem dX9_layParts_40 : decode cX9_layParts 40 = .ok (.iaload, 1) := by decide +kernel
theorem dX9_layParts_41 : decode cX9_layParts 41 = .ok (.iaload, 1) := by decide +kernel
theorem dX9_layParts_42 : decode cX9_layParts 42 = .ok (.if_icmp .ne 32, 3) := by decide +kernel
theorem dX9_layParts_45 : decode cX9_layParts 45 = .ok (.aload_n 0, 1) := by decide +kernel
theorem dX9_layParts_46 : decode cX9_layParts 46 = .ok (.getfield 96, 3) := by decide +kernel
theorem dX9_layParts_49 : decode cX9_layParts 49 = .ok (.aload_n 0, 1) := by decide +kernel
theorem dX9_layParts_50 : decode cX9_layParts 50 = .ok (.getfield 17, 3) := by decide +kernel
theorem dX9_layParts_53 : decode cX9_layParts 53 = .ok (.iload_n 1, 1) := by decide +kernel
theorem dX9_layParts_54 : decode cX9_layParts 54 = .ok (.iaload, 1) := by decide +kernel
theorem dX9_layParts_55 : decode cX9_layParts 55 = .ok (.iaload, 1) := by decide +kernel
theorem dX9_layParts_56 : decode cX9_layParts 56 = .ok (.aload_n 0, 1) := by decide +kernel
theorem dX9_layParts_57 : decode cX9_layParts 57 = .ok (.getfield 96, 3) := by decide +kernel
theorem dX9_layParts_60 : decode cX9_layParts 60 = .ok (.aload_n 0, 1) := by decide +kernel
theorem dX9_layParts_61 : decode cX9_layParts 61 = .ok (.getfield 17, 3) := by decide +kernel
theorem dX9_layParts_64 : decode cX9_layParts 64 = .ok (.iload_n 2, 1) := by decide +kernel
theorem dX9_layParts_65 : decode cX9_layParts 65 = .ok (.iaload, 1) := by decide +kernel
theorem dX9_layParts_66 : decode cX9_layParts 66 = .ok (.iaload, 1) := by decide +kernel
theorem dX9_layParts_67 : decode cX9_layParts 67 = .ok (.if_icmp .ne 7, 3) := by decide +kernel
theorem dX9_layParts_70 : decode cX9_layParts 70 = .ok (.iconst 1, 1) := by decide +kernel
theorem dX9_layParts_71 : decode cX9_layParts 71 = .ok (.goto 4, 3) := by decide +kernel
theorem dX9_layParts_74 : decode cX9_layParts 74 = .ok (.iconst 0, 1) := by decide +kernel
theorem dX9_layParts_75 : decode cX9_layParts 75 = .ok (.istore_n 3, 1) := by decide +kernel
theorem dX9_layParts_76 : decode cX9_layParts 76 = .ok (.aload_n 0, 1) := by decide +kernel
theorem dX9_layParts_77 : decode cX9_layParts 77 = .ok (.getfield 102, 3) := by decide +kernel
theorem dX9_layParts_80 : decode cX9_layParts 80 = .ok (.bipush 20, 2) := by decide +kernel
theorem dX9_layParts_82 : decode cX9_layParts 82 = .ok (.iload_n 1, 1) := by decide +kernel
theorem dX9_layParts_83 : decode cX9_layParts 83 = .ok (.imul, 1) := by decide +kernel
theorem dX9_layParts_84 : decode cX9_layParts 84 = .ok (.iload_n 2, 1) := by decide +kernel
theorem dX9_layParts_85 : decode cX9_layParts 85 = .ok (.iadd, 1) := by decide +kernel
theorem dX9_layParts_86 : decode cX9_layParts 86 = .ok (.aload_n 0, 1) := by decide +kernel
theorem dX9_layParts_87 : decode cX9_layParts 87 = .ok (.getfield 102, 3) := by decide +kernel
theorem dX9_layParts_90 : decode cX9_layParts 90 = .ok (.bipush 20, 2) := by decide +kernel
theorem dX9_layParts_92 : decode cX9_layParts 92 = .ok (.iload_n 1, 1) := by decide +kernel
theorem dX9_layParts_93 : decode cX9_layParts 93 = .ok (.imul, 1) := by decide +kernel
theorem dX9_layParts_94 : decode cX9_layParts 94 = .ok (.iload_n 2, 1) := by decide +kernel
theorem dX9_layParts_95 : decode cX9_layParts 95 = .ok (.iadd, 1) := by decide +kernel
theorem dX9_layParts_96 : decode cX9_layParts 96 = .ok (.baload, 1) := by decide +kernel
theorem dX9_layParts_97 : decode cX9_layParts 97 = .ok (.ifCond .ne 7, 3) := by decide +kernel
theorem dX9_layParts_100 : decode cX9_layParts 100 = .ok (.iload_n 3, 1) := by decide +kernel
theorem dX9_layParts_101 : decode cX9_layParts 101 = .ok (.ifCond .eq 7, 3) := by decide +kernel
theorem dX9_layParts_104 : decode cX9_layParts 104 = .ok (.iconst 1, 1) := by decide +kernel
theorem dX9_layParts_105 : decode cX9_layParts 105 = .ok (.goto 4, 3) := by decide +kernel
theorem dX9_layParts_108 : decode cX9_layParts 108 = .ok (.iconst 0, 1) := by decide +kernel
theorem dX9_layParts_109 : decode cX9_layParts 109 = .ok (.bastore, 1) := by decide +kernel
theorem dX9_layParts_110 : decode cX9_layParts 110 = .ok (.iinc 2 1, 3) := by decide +kernel
theorem dX9_layParts_113 : decode cX9_layParts 113 = .ok (.goto (-101), 3) := by decide +kernel
theorem dX9_layParts_116 : decode cX9_layParts 116 = .ok (.iinc 1 1, 3) := by decide +kernel
theorem dX9_layParts_119 : decode cX9_layParts 119 = .ok (.goto (-117), 3) := by decide +kernel
theorem dX9_layParts_122 : decode cX9_layParts 122 = .ok (.return_, 1) := by decide +kernel
theorem dX9_joinAll_0 : decode cX9_joinAll 0 = .ok (.iconst 1, 1) := by decide +kernel
theorem dX9_joinAll_1 : decode cX9_joinAll 1 = .ok (.istore_n 1, 1) := by decide +kernel
theorem dX9_joinAll_2 : decode cX9_joinAll 2 = .ok (.iload_n 1, 1) := by decide +kernel
theorem dX9_joinAll_3 : decode cX9_joinAll 3 = .ok (.ifCond .eq 195, 3) := by decide +kernel
theorem dX9_joinAll_6 : decode cX9_joinAll 6 = .ok (.iconst 0, 1) := by decide +kernel
theorem dX9_joinAll_7 : decode cX9_joinAll 7 = .ok (.istore_n 1, 1) := by decide +kernel
theorem dX9_joinAll_8 : decode cX9_joinAll 8 = .ok (.iconst 0, 1) := by decide +kernel
theorem dX9_joinAll_9 : decode cX9_joinAll 9 = .ok (.istore_n 2, 1) := by decide +kernel
theorem dX9_joinAll_10 : decode cX9_joinAll 10 = .ok (.iload_n 2, 1) := by decide +kernel
theorem dX9_joinAll_11 : decode cX9_joinAll 11 = .ok (.sipush 400, 3) := by decide +kernel
theorem dX9_joinAll_14 : decode cX9_joinAll 14 = .ok (.if_icmp .ge 181, 3) := by decide +kernel
theorem dX9_joinAll_17 : decode cX9_joinAll 17 = .ok (.iload_n 2, 1) := by decide +kernel
theorem dX9_joinAll_18 : decode cX9_joinAll 18 = .ok (.bipush 20, 2) := by decide +kernel
theorem dX9_joinAll_20 : decode cX9_joinAll 20 = .ok (.idiv, 1) := by decide +kernel
theorem dX9_joinAll_21 : decode cX9_joinAll 21 = .ok (.istore_n 3, 1) := by decide +kernel
theorem dX9_joinAll_22 : decode cX9_joinAll 22 = .ok (.iload_n 2, 1) := by decide +kernel
theorem dX9_joinAll_23 : decode cX9_joinAll 23 = .ok (.bipush 20, 2) := by decide +kernel
theorem dX9_joinAll_25 : decode cX9_joinAll 25 = .ok (.irem, 1) := by decide +kernel
theorem dX9_joinAll_26 : decode cX9_joinAll 26 = .ok (.istore 4, 2) := by decide +kernel
theorem dX9_joinAll_28 : decode cX9_joinAll 28 = .ok (.iload_n 3, 1) := by decide +kernel
theorem dX9_joinAll_29 : decode cX9_joinAll 29 = .ok (.aload_n 0, 1) := by decide +kernel
theorem dX9_joinAll_30 : decode cX9_joinAll 30 = .ok (.getfield 7, 3) := by decide +kernel
theorem dX9_joinAll_33 : decode cX9_joinAll 33 = .ok (.if_icmp .ge 156, 3) := by decide +kernel
theorem dX9_joinAll_36 : decode cX9_joinAll 36 = .ok (.iload 4, 2) := by decide +kernel
theorem dX9_joinAll_38 : decode cX9_joinAll 38 = .ok (.aload_n 0, 1) := by decide +kernel
theorem dX9_joinAll_39 : decode cX9_joinAll 39 = .ok (.getfield 7, 3) := by decide +kernel
theorem dX9_joinAll_42 : decode cX9_joinAll 42 = .ok (.if_icmp .ge 147, 3) := by decide +kernel
theorem dX9_joinAll_45 : decode cX9_joinAll 45 = .ok (.aload_n 0, 1) := by decide +kernel
theorem dX9_joinAll_46 : decode cX9_joinAll 46 = .ok (.getfield 102, 3) := by decide +kernel
theorem dX9_joinAll_49 : decode cX9_joinAll 49 = .ok (.iload_n 2, 1) := by decide +kernel
theorem dX9_joinAll_50 : decode cX9_joinAll 50 = .ok (.baload, 1) := by decide +kernel
theorem dX9_joinAll_51 : decode cX9_joinAll 51 = .ok (.ifCond .eq 138, 3) := by decide +kernel
theorem dX9_joinAll_54 : decode cX9_joinAll 54 = .ok (.aload_n 0, 1) := by decide +kernel
theorem dX9_joinAll_55 : decode cX9_joinAll 55 = .ok (.getfield 96, 3) := by decide +kernel
theorem dX9_joinAll_58 : decode cX9_joinAll 58 = .ok (.iload_n 3, 1) := by decide +kernel
theorem dX9_joinAll_59 : decode cX9_joinAll 59 = .ok (.iaload, 1) := by decide +kernel
theorem dX9_joinAll_60 : decode cX9_joinAll 60 = .ok (.aload_n 0, 1) := by decide +kernel
theorem dX9_joinAll_61 : decode cX9_joinAll 61 = .ok (.getfield 96, 3) := by decide +kernel
theorem dX9_joinAll_64 : decode cX9_joinAll 64 = .ok (.iload 4, 2) := by decide +kernel
theorem dX9_joinAll_66 : decode cX9_joinAll 66 = .ok (.iaload, 1) := by decide +kernel
theorem dX9_joinAll_67 : decode cX9_joinAll 67 = .ok (.if_icmp .eq 122, 3) := by decide +kernel
theorem dX9_joinAll_70 : decode cX9_joinAll 70 = .ok (.aload_n 0, 1) := by decide +kernel
theorem dX9_joinAll_71 : decode cX9_joinAll 71 = .ok (.getfield 96, 3) := by decide +kernel
theorem dX9_joinAll_74 : decode cX9_joinAll 74 = .ok (.iload_n 3, 1) := by decide +kernel
theorem dX9_joinAll_75 : decode cX9_joinAll 75 = .ok (.iaload, 1) := by decide +kernel
theorem dX9_joinAll_76 : decode cX9_joinAll 76 = .ok (.aload_n 0, 1) := by decide +kernel
theorem dX9_joinAll_77 : decode cX9_joinAll 77 = .ok (.getfield 96, 3) := by decide +kernel
theorem dX9_joinAll_80 : decode cX9_joinAll 80 = .ok (.iload 4, 2) := by decide +kernel
theorem dX9_joinAll_82 : decode cX9_joinAll 82 = .ok (.iaload, 1) := by decide +kernel
theorem dX9_joinAll_83 : decode cX9_joinAll 83 = .ok (.if_icmp .ge 12, 3) := by decide +kernel
theorem dX9_joinAll_86 : decode cX9_joinAll 86 = .ok (.aload_n 0, 1) := by decide +kernel
theorem dX9_joinAll_87 : decode cX9_joinAll 87 = .ok (.getfield 96, 3) := by decide +kernel
theorem dX9_joinAll_90 : decode cX9_joinAll 90 = .ok (.iload_n 3, 1) := by decide +kernel
theorem dX9_joinAll_91 : decode cX9_joinAll 91 = .ok (.iaload, 1) := by decide +kernel
theorem dX9_joinAll_92 : decode cX9_joinAll 92 = .ok (.goto 10, 3) := by decide +kernel
theorem dX9_joinAll_95 : decode cX9_joinAll 95 = .ok (.aload_n 0, 1) := by decide +kernel
theorem dX9_joinAll_96 : decode cX9_joinAll 96 = .ok (.getfield 96, 3) := by decide +kernel
theorem dX9_joinAll_99 : decode cX9_joinAll 99 = .ok (.iload 4, 2) := by decide +kernel
theorem dX9_joinAll_101 : decode cX9_joinAll 101 = .ok (.iaload, 1) := by decide +kernel
theorem dX9_joinAll_102 : decode cX9_joinAll 102 = .ok (.istore 5, 2) := by decide +kernel
theorem dX9_joinAll_104 : decode cX9_joinAll 104 = .ok (.aload_n 0, 1) := by decide +kernel
theorem dX9_joinAll_105 : decode cX9_joinAll 105 = .ok (.getfield 96, 3) := by decide +kernel
theorem dX9_joinAll_108 : decode cX9_joinAll 108 = .ok (.iload_n 3, 1) := by decide +kernel
theorem dX9_joinAll_109 : decode cX9_joinAll 109 = .ok (.iaload, 1) := by decide +kernel
theorem dX9_joinAll_110 : decode cX9_joinAll 110 = .ok (.aload_n 0, 1) := by decide +kernel
theorem dX9_joinAll_111 : decode cX9_joinAll 111 = .ok (.getfield 96, 3) := by decide +kernel
theorem dX9_joinAll_114 : decode cX9_joinAll 114 = .ok (.iload 4, 2) := by decide +kernel
theorem dX9_joinAll_116 : decode cX9_joinAll 116 = .ok (.iaload, 1) := by decide +kernel
theorem dX9_joinAll_117 : decode cX9_joinAll 117 = .ok (.if_icmp .ge 13, 3) := by decide +kernel
theorem dX9_joinAll_120 : decode cX9_joinAll 120 = .ok (.aload_n 0, 1) := by decide +kernel
theorem dX9_joinAll_121 : decode cX9_joinAll 121 = .ok (.getfield 96, 3) := by decide +kernel
theorem dX9_joinAll_124 : decode cX9_joinAll 124 = .ok (.iload 4, 2) := by decide +kernel
theorem dX9_joinAll_126 : decode cX9_joinAll 126 = .ok (.iaload, 1) := by decide +kernel
theorem dX9_joinAll_127 : decode cX9_joinAll 127 = .ok (.goto 9, 3) := by decide +kernel
theorem dX9_joinAll_130 : decode cX9_joinAll 130 = .ok (.aload_n 0, 1) := by decide +kernel
theorem dX9_joinAll_131 : decode cX9_joinAll 131 = .ok (.getfield 96, 3) := by decide +kernel
theorem dX9_joinAll_134 : decode cX9_joinAll 134 = .ok (.iload_n 3, 1) := by decide +kernel
theorem dX9_joinAll_135 : decode cX9_joinAll 135 = .ok (.iaload, 1) := by decide +kernel
theorem dX9_joinAll_136 : decode cX9_joinAll 136 = .ok (.istore 6, 2) := by decide +kernel
theorem dX9_joinAll_138 : decode cX9_joinAll 138 = .ok (.iconst 0, 1) := by decide +kernel
theorem dX9_joinAll_139 : decode cX9_joinAll 139 = .ok (.istore 7, 2) := by decide +kernel
theorem dX9_joinAll_141 : decode cX9_joinAll 141 = .ok (.iload 7, 2) := by decide +kernel
theorem dX9_joinAll_143 : decode cX9_joinAll 143 = .ok (.aload_n 0, 1) := by decide +kernel
theorem dX9_joinAll_144 : decode cX9_joinAll 144 = .ok (.getfield 7, 3) := by decide +kernel
theorem dX9_joinAll_147 : decode cX9_joinAll 147 = .ok (.if_icmp .ge 40, 3) := by decide +kernel
theorem dX9_joinAll_150 : decode cX9_joinAll 150 = .ok (.aload_n 0, 1) := by decide +kernel
theorem dX9_joinAll_151 : decode cX9_joinAll 151 = .ok (.getfield 96, 3) := by decide +kernel
theorem dX9_joinAll_154 : decode cX9_joinAll 154 = .ok (.iload 7, 2) := by decide +kernel
theorem dX9_joinAll_156 : decode cX9_joinAll 156 = .ok (.aload_n 0, 1) := by decide +kernel
theorem dX9_joinAll_157 : decode cX9_joinAll 157 = .ok (.getfield 96, 3) := by decide +kernel
theorem dX9_joinAll_160 : decode cX9_joinAll 160 = .ok (.iload 7, 2) := by decide +kernel
theorem dX9_joinAll_162 : decode cX9_joinAll 162 = .ok (.iaload, 1) := by decide +kernel
theorem dX9_joinAll_163 : decode cX9_joinAll 163 = .ok (.iload 6, 2) := by decide +kernel
theorem dX9_joinAll_165 : decode cX9_joinAll 165 = .ok (.if_icmp .ne 8, 3) := by decide +kernel
theorem dX9_joinAll_168 : decode cX9_joinAll 168 = .ok (.iload 5, 2) := by decide +kernel
theorem dX9_joinAll_170 : decode cX9_joinAll 170 = .ok (.goto 10, 3) := by decide +kernel
theorem dX9_joinAll_173 : decode cX9_joinAll 173 = .ok (.aload_n 0, 1) := by decide +kernel
theorem dX9_joinAll_174 : decode cX9_joinAll 174 = .ok (.getfield 96, 3) := by decide +kernel
theorem dX9_joinAll_177 : decode cX9_joinAll 177 = .ok (.iload 7, 2) := by decide +kernel
theorem dX9_joinAll_179 : decode cX9_joinAll 179 = .ok (.iaload, 1) := by decide +kernel
theorem dX9_joinAll_180 : decode cX9_joinAll 180 = .ok (.iastore, 1) := by decide +kernel
theorem dX9_joinAll_181 : decode cX9_joinAll 181 = .ok (.iinc 7 1, 3) := by decide +kernel
theorem dX9_joinAll_184 : decode cX9_joinAll 184 = .ok (.goto (-43), 3) := by decide +kernel
theorem dX9_joinAll_187 : decode cX9_joinAll 187 = .ok (.iconst 1, 1) := by decide +kernel
theorem dX9_joinAll_188 : decode cX9_joinAll 188 = .ok (.istore_n 1, 1) := by decide +kernel
theorem dX9_joinAll_189 : decode cX9_joinAll 189 = .ok (.iinc 2 1, 3) := by decide +kernel
theorem dX9_joinAll_192 : decode cX9_joinAll 192 = .ok (.goto (-182), 3) := by decide +kernel
theorem dX9_joinAll_195 : decode cX9_joinAll 195 = .ok (.goto (-193), 3) := by decide +kernel
theorem dX9_joinAll_198 : decode cX9_joinAll 198 = .ok (.return_, 1) := by decide +kernel
theorem dX9_layShown_0 : decode cX9_layShown 0 = .ok (.iconst 0, 1) := by decide +kernel
theorem dX9_layShown_1 : decode cX9_layShown 1 = .ok (.istore_n 1, 1) := by decide +kernel
theorem dX9_layShown_2 : decode cX9_layShown 2 = .ok (.iload_n 1, 1) := by decide +kernel
theorem dX9_layShown_3 : decode cX9_layShown 3 = .ok (.bipush 20, 2) := by decide +kernel
theorem dX9_layShown_5 : decode cX9_layShown 5 = .ok (.if_icmp .ge 16, 3) := by decide +kernel
theorem dX9_layShown_8 : decode cX9_layShown 8 = .ok (.aload_n 0, 1) := by decide +kernel
theorem dX9_layShown_9 : decode cX9_layShown 9 = .ok (.getfield 96, 3) := by decide +kernel
theorem dX9_layShown_12 : decode cX9_layShown 12 = .ok (.iload_n 1, 1) := by decide +kernel
theorem dX9_layShown_13 : decode cX9_layShown 13 = .ok (.iload_n 1, 1) := by decide +kernel
theorem dX9_layShown_14 : decode cX9_layShown 14 = .ok (.iastore, 1) := by decide +kernel
theorem dX9_layShown_15 : decode cX9_layShown 15 = .ok (.iinc 1 1, 3) := by decide +kernel
theorem dX9_layShown_18 : decode cX9_layShown 18 = .ok (.goto (-16), 3) := by decide +kernel
theorem dX9_layShown_21 : decode cX9_layShown 21 = .ok (.iconst 0, 1) := by decide +kernel
theorem dX9_layShown_22 : decode cX9_layShown 22 = .ok (.istore_n 1, 1) := by decide +kernel
theorem dX9_layShown_23 : decode cX9_layShown 23 = .ok (.iload_n 1, 1) := by decide +kernel
theorem dX9_layShown_24 : decode cX9_layShown 24 = .ok (.sipush 400, 3) := by decide +kernel
theorem dX9_layShown_27 : decode cX9_layShown 27 = .ok (.if_icmp .ge 39, 3) := by decide +kernel
theorem dX9_layShown_30 : decode cX9_layShown 30 = .ok (.aload_n 0, 1) := by decide +kernel
theorem dX9_layShown_31 : decode cX9_layShown 31 = .ok (.getfield 93, 3) := by decide +kernel
theorem dX9_layShown_34 : decode cX9_layShown 34 = .ok (.iload_n 1, 1) := by decide +kernel
theorem dX9_layShown_35 : decode cX9_layShown 35 = .ok (.iload_n 1, 1) := by decide +kernel
theorem dX9_layShown_36 : decode cX9_layShown 36 = .ok (.bipush 20, 2) := by decide +kernel
theorem dX9_layShown_38 : decode cX9_layShown 38 = .ok (.idiv, 1) := by decide +kernel
theorem dX9_layShown_39 : decode cX9_layShown 39 = .ok (.iload_n 1, 1) := by decide +kernel
theorem dX9_layShown_40 : decode cX9_layShown 40 = .ok (.bipush 20, 2) := by decide +kernel
theorem dX9_layShown_42 : decode cX9_layShown 42 = .ok (.irem, 1) := by decide +kernel
theorem dX9_layShown_43 : decode cX9_layShown 43 = .ok (.if_icmp .ne 7, 3) := by decide +kernel
theorem dX9_layShown_46 : decode cX9_layShown 46 = .ok (.iconst 0, 1) := by decide +kernel
theorem dX9_layShown_47 : decode cX9_layShown 47 = .ok (.goto 5, 3) := by decide +kernel
theorem dX9_layShown_50 : decode cX9_layShown 50 = .ok (.bipush (-9), 2) := by decide +kernel
theorem dX9_layShown_52 : decode cX9_layShown 52 = .ok (.iastore, 1) := by decide +kernel
theorem dX9_layShown_53 : decode cX9_layShown 53 = .ok (.aload_n 0, 1) := by decide +kernel
theorem dX9_layShown_54 : decode cX9_layShown 54 = .ok (.getfield 102, 3) := by decide +kernel
theorem dX9_layShown_57 : decode cX9_layShown 57 = .ok (.iload_n 1, 1) := by decide +kernel
theorem dX9_layShown_58 : decode cX9_layShown 58 = .ok (.iconst 0, 1) := by decide +kernel
theorem dX9_layShown_59 : decode cX9_layShown 59 = .ok (.bastore, 1) := by decide +kernel
theorem dX9_layShown_60 : decode cX9_layShown 60 = .ok (.iinc 1 1, 3) := by decide +kernel
theorem dX9_layShown_63 : decode cX9_layShown 63 = .ok (.goto (-40), 3) := by decide +kernel
theorem dX9_layShown_66 : decode cX9_layShown 66 = .ok (.aload_n 0, 1) := by decide +kernel
theorem dX9_layShown_67 : decode cX9_layShown 67 = .ok (.invokevirtual 255, 3) := by decide +kernel
theorem dX9_layShown_70 : decode cX9_layShown 70 = .ok (.aload_n 0, 1) := by decide +kernel
theorem dX9_layShown_71 : decode cX9_layShown 71 = .ok (.iconst 0, 1) := by decide +kernel
theorem dX9_layShown_72 : decode cX9_layShown 72 = .ok (.putfield 258, 3) := by decide +kernel
theorem dX9_layShown_75 : decode cX9_layShown 75 = .ok (.iconst 1, 1) := by decide +kernel
theorem dX9_layShown_76 : decode cX9_layShown 76 = .ok (.istore_n 1, 1) := by decide +kernel
theorem dX9_layShown_77 : decode cX9_layShown 77 = .ok (.iload_n 1, 1) := by decide +kernel
theorem dX9_layShown_78 : decode cX9_layShown 78 = .ok (.ifCond .eq 127, 3) := by decide +kernel
theorem dX9_layShown_81 : decode cX9_layShown 81 = .ok (.iconst 0, 1) := by decide +kernel
theorem dX9_layShown_82 : decode cX9_layShown 82 = .ok (.istore_n 1, 1) := by decide +kernel
theorem dX9_layShown_83 : decode cX9_layShown 83 = .ok (.aload_n 0, 1) := by decide +kernel
theorem dX9_layShown_84 : decode cX9_layShown 84 = .ok (.invokevirtual 261, 3) := by decide +kernel
theorem dX9_layShown_87 : decode cX9_layShown 87 = .ok (.aload_n 0, 1) := by decide +kernel
theorem dX9_layShown_88 : decode cX9_layShown 88 = .ok (.invokevirtual 264, 3) := by decide +kernel
theorem dX9_layShown_91 : decode cX9_layShown 91 = .ok (.iconst 0, 1) := by decide +kernel
theorem dX9_layShown_92 : decode cX9_layShown 92 = .ok (.istore_n 2, 1) := by decide +kernel
theorem dX9_layShown_93 : decode cX9_layShown 93 = .ok (.iload_n 2, 1) := by decide +kernel
theorem dX9_layShown_94 : decode cX9_layShown 94 = .ok (.sipush 400, 3) := by decide +kernel
theorem dX9_layShown_97 : decode cX9_layShown 97 = .ok (.if_icmp .ge 87, 3) := by decide +kernel
theorem dX9_layShown_100 : decode cX9_layShown 100 = .ok (.iload_n 2, 1) := by decide +kernel
theorem dX9_layShown_101 : decode cX9_layShown 101 = .ok (.bipush 20, 2) := by decide +kernel
theorem dX9_layShown_103 : decode cX9_layShown 103 = .ok (.idiv, 1) := by decide +kernel
theorem dX9_layShown_104 : decode cX9_layShown 104 = .ok (.aload_n 0, 1) := by decide +kernel
theorem dX9_layShown_105 : decode cX9_layShown 105 = .ok (.getfield 7, 3) := by decide +kernel
theorem dX9_layShown_108 : decode cX9_layShown 108 = .ok (.if_icmp .ge 39, 3) := by decide +kernel
theorem dX9_layShown_111 : decode cX9_layShown 111 = .ok (.iload_n 2, 1) := by decide +kernel
theorem dX9_layShown_112 : decode cX9_layShown 112 = .ok (.bipush 20, 2) := by decide +kernel
theorem dX9_layShown_114 : decode cX9_layShown 114 = .ok (.irem, 1) := by decide +kernel
theorem dX9_layShown_115 : decode cX9_layShown 115 = .ok (.aload_n 0, 1) := by decide +kernel
theorem dX9_layShown_116 : decode cX9_layShown 116 = .ok (.getfield 7, 3) := by decide +kernel
theorem dX9_layShown_119 : decode cX9_layShown 119 = .ok (.if_icmp .ge 28, 3) := by decide +kernel
theorem dX9_layShown_122 : decode cX9_layShown 122 = .ok (.aload_n 0, 1) := by decide +kernel
theorem dX9_layShown_123 : decode cX9_layShown 123 = .ok (.getfield 96, 3) := by decide +kernel
theorem dX9_layShown_126 : decode cX9_layShown 126 = .ok (.iload_n 2, 1) := by decide +kernel
theorem dX9_layShown_127 : decode cX9_layShown 127 = .ok (.bipush 20, 2) := by decide +kernel
theorem dX9_layShown_129 : decode cX9_layShown 129 = .ok (.idiv, 1) := by decide +kernel
theorem dX9_layShown_130 : decode cX9_layShown 130 = .ok (.iaload, 1) := by decide +kernel
theorem dX9_layShown_131 : decode cX9_layShown 131 = .ok (.aload_n 0, 1) := by decide +kernel
theorem dX9_layShown_132 : decode cX9_layShown 132 = .ok (.getfield 96, 3) := by decide +kernel
theorem dX9_layShown_135 : decode cX9_layShown 135 = .ok (.iload_n 2, 1) := by decide +kernel
theorem dX9_layShown_136 : decode cX9_layShown 136 = .ok (.bipush 20, 2) := by decide +kernel
theorem dX9_layShown_138 : decode cX9_layShown 138 = .ok (.irem, 1) := by decide +kernel
theorem dX9_layShown_139 : decode cX9_layShown 139 = .ok (.iaload, 1) := by decide +kernel
theorem dX9_layShown_140 : decode cX9_layShown 140 = .ok (.if_icmp .ne 7, 3) := by decide +kernel
theorem dX9_layShown_143 : decode cX9_layShown 143 = .ok (.iconst 1, 1) := by decide +kernel
theorem dX9_layShown_144 : decode cX9_layShown 144 = .ok (.goto 4, 3) := by decide +kernel
theorem dX9_layShown_147 : decode cX9_layShown 147 = .ok (.iconst 0, 1) := by decide +kernel
theorem dX9_layShown_148 : decode cX9_layShown 148 = .ok (.istore_n 3, 1) := by decide +kernel
theorem dX9_layShown_149 : decode cX9_layShown 149 = .ok (.iload_n 3, 1) := by decide +kernel
theorem dX9_layShown_150 : decode cX9_layShown 150 = .ok (.ifCond .eq 28, 3) := by decide +kernel
theorem dX9_layShown_153 : decode cX9_layShown 153 = .ok (.aload_n 0, 1) := by decide +kernel
theorem dX9_layShown_154 : decode cX9_layShown 154 = .ok (.getfield 93, 3) := by decide +kernel
theorem dX9_layShown_157 : decode cX9_layShown 157 = .ok (.iload_n 2, 1) := by decide +kernel
theorem dX9_layShown_158 : decode cX9_layShown 158 = .ok (.iaload, 1) := by decide +kernel
theorem dX9_layShown_159 : decode cX9_layShown 159 = .ok (.bipush (-9), 2) := by decide +kernel
theorem dX9_layShown_161 : decode cX9_layShown 161 = .ok (.if_icmp .ne 17, 3) := by decide +kernel
theorem dX9_layShown_164 : decode cX9_layShown 164 = .ok (.aload_n 0, 1) := by decide +kernel
theorem dX9_layShown_165 : decode cX9_layShown 165 = .ok (.getfield 93, 3) := by decide +kernel
theorem dX9_layShown_168 : decode cX9_layShown 168 = .ok (.iload_n 2, 1) := by decide +kernel
theorem dX9_layShown_169 : decode cX9_layShown 169 = .ok (.aload_n 0, 1) := by decide +kernel
theorem dX9_layShown_170 : decode cX9_layShown 170 = .ok (.getfield 258, 3) := by decide +kernel
theorem dX9_layShown_173 : decode cX9_layShown 173 = .ok (.iconst 1, 1) := by decide +kernel
theorem dX9_layShown_174 : decode cX9_layShown 174 = .ok (.iadd, 1) := by decide +kernel
theorem dX9_layShown_175 : decode cX9_layShown 175 = .ok (.iastore, 1) := by decide +kernel
theorem dX9_layShown_176 : decode cX9_layShown 176 = .ok (.iconst 1, 1) := by decide +kernel
theorem dX9_layShown_177 : decode cX9_layShown 177 = .ok (.istore_n 1, 1) := by decide +kernel
theorem dX9_layShown_178 : decode cX9_layShown 178 = .ok (.iinc 2 1, 3) := by decide +kernel
theorem dX9_layShown_181 : decode cX9_layShown 181 = .ok (.goto (-88), 3) := by decide +kernel
theorem dX9_layShown_184 : decode cX9_layShown 184 = .ok (.aload_n 0, 1) := by decide +kernel
theorem dX9_layShown_185 : decode cX9_layShown 185 = .ok (.dup, 1) := by decide +kernel
theorem dX9_layShown_186 : decode cX9_layShown 186 = .ok (.getfield 258, 3) := by decide +kernel
theorem dX9_layShown_189 : decode cX9_layShown 189 = .ok (.iload_n 1, 1) := by decide +kernel
theorem dX9_layShown_190 : decode cX9_layShown 190 = .ok (.ifCond .eq 7, 3) := by decide +kernel
theorem dX9_layShown_193 : decode cX9_layShown 193 = .ok (.iconst 1, 1) := by decide +kernel
theorem dX9_layShown_194 : decode cX9_layShown 194 = .ok (.goto 4, 3) := by decide +kernel
theorem dX9_layShown_197 : decode cX9_layShown 197 = .ok (.iconst 0, 1) := by decide +kernel
theorem dX9_layShown_198 : decode cX9_layShown 198 = .ok (.iadd, 1) := by decide +kernel
theorem dX9_layShown_199 : decode cX9_layShown 199 = .ok (.putfield 258, 3) := by decide +kernel
theorem dX9_layShown_202 : decode cX9_layShown 202 = .ok (.goto (-125), 3) := by decide +kernel
theorem dX9_layShown_205 : decode cX9_layShown 205 = .ok (.return_, 1) := by decide +kernel
theorem dX9_shown_0 : decode cX9_shown 0 = .ok (.aload_n 0, 1) := by decide +kernel
theorem dX9_shown_1 : decode cX9_shown 1 = .ok (.iload_n 1, 1) := by decide +kernel
theorem dX9_shown_2 : decode cX9_shown 2 = .ok (.invokevirtual 109, 3) := by decide +kernel
theorem dX9_shown_5 : decode cX9_shown 5 = .ok (.ifCond .eq 11, 3) := by decide +kernel
theorem dX9_shown_8 : decode cX9_shown 8 = .ok (.aload_n 0, 1) := by decide +kernel
theorem dX9_shown_9 : decode cX9_shown 9 = .ok (.iload_n 2, 1) := by decide +kernel
theorem dX9_shown_10 : decode cX9_shown 10 = .ok (.invokevirtual 109, 3) := by decide +kernel
theorem dX9_shown_13 : decode cX9_shown 13 = .ok (.ifCond .ne 5, 3) := by decide +kernel
theorem dX9_shown_16 : decode cX9_shown 16 = .ok (.iconst (-1), 1) := by decide +kernel
theorem dX9_shown_17 : decode cX9_shown 17 = .ok (.ireturn, 1) := by decide +kernel
theorem dX9_shown_18 : decode cX9_shown 18 = .ok (.aload_n 0, 1) := by decide +kernel
theorem dX9_shown_19 : decode cX9_shown 19 = .ok (.invokevirtual 267, 3) := by decide +kernel
theorem dX9_shown_22 : decode cX9_shown 22 = .ok (.aload_n 0, 1) := by decide +kernel
theorem dX9_shown_23 : decode cX9_shown 23 = .ok (.getfield 93, 3) := by decide +kernel
theorem dX9_shown_26 : decode cX9_shown 26 = .ok (.bipush 20, 2) := by decide +kernel
theorem dX9_shown_28 : decode cX9_shown 28 = .ok (.iload_n 1, 1) := by decide +kernel
theorem dX9_shown_29 : decode cX9_shown 29 = .ok (.imul, 1) := by decide +kernel
theorem dX9_shown_30 : decode cX9_shown 30 = .ok (.iload_n 2, 1) := by decide +kernel
theorem dX9_shown_31 : decode cX9_shown 31 = .ok (.iadd, 1) := by decide +kernel
theorem dX9_shown_32 : decode cX9_shown 32 = .ok (.iaload, 1) := by decide +kernel
theorem dX9_shown_33 : decode cX9_shown 33 = .ok (.ireturn, 1) := by decide +kernel
theorem dX9_groups_0 : decode cX9_groups 0 = .ok (.aload_n 0, 1) := by decide +kernel
theorem dX9_groups_1 : decode cX9_groups 1 = .ok (.invokevirtual 267, 3) := by decide +kernel
theorem dX9_groups_4 : decode cX9_groups 4 = .ok (.iconst 0, 1) := by decide +kernel
theorem dX9_groups_5 : decode cX9_groups 5 = .ok (.istore_n 1, 1) := by decide +kernel
theorem dX9_groups_6 : decode cX9_groups 6 = .ok (.iconst 0, 1) := by decide +kernel
theorem dX9_groups_7 : decode cX9_groups 7 = .ok (.istore_n 2, 1) := by decide +kernel
theorem dX9_groups_8 : decode cX9_groups 8 = .ok (.iload_n 2, 1) := by decide +kernel
theorem dX9_groups_9 : decode cX9_groups 9 = .ok (.aload_n 0, 1) := by decide +kernel
theorem dX9_groups_10 : decode cX9_groups 10 = .ok (.getfield 7, 3) := by decide +kernel
theorem dX9_groups_13 : decode cX9_groups 13 = .ok (.if_icmp .ge 27, 3) := by decide +kernel
theorem dX9_groups_16 : decode cX9_groups 16 = .ok (.iload_n 1, 1) := by decide +kernel
theorem dX9_groups_17 : decode cX9_groups 17 = .ok (.aload_n 0, 1) := by decide +kernel
theorem dX9_groups_18 : decode cX9_groups 18 = .ok (.getfield 96, 3) := by decide +kernel
theorem dX9_groups_21 : decode cX9_groups 21 = .ok (.iload_n 2, 1) := by decide +kernel
theorem dX9_groups_22 : decode cX9_groups 22 = .ok (.iaload, 1) := by decide +kernel
theorem dX9_groups_23 : decode cX9_groups 23 = .ok (.iload_n 2, 1) := by decide +kernel
theorem dX9_groups_24 : decode cX9_groups 24 = .ok (.if_icmp .ne 7, 3) := by decide +kernel
theorem dX9_groups_27 : decode cX9_groups 27 = .ok (.iconst 1, 1) := by decide +kernel
theorem dX9_groups_28 : decode cX9_groups 28 = .ok (.goto 4, 3) := by decide +kernel
theorem dX9_groups_31 : decode cX9_groups 31 = .ok (.iconst 0, 1) := by decide +kernel
theorem dX9_groups_32 : decode cX9_groups 32 = .ok (.iadd, 1) := by decide +kernel
theorem dX9_groups_33 : decode cX9_groups 33 = .ok (.istore_n 1, 1) := by decide +kernel
theorem dX9_groups_34 : decode cX9_groups 34 = .ok (.iinc 2 1, 3) := by decide +kernel
theorem dX9_groups_37 : decode cX9_groups 37 = .ok (.goto (-29), 3) := by decide +kernel
theorem dX9_groups_40 : decode cX9_groups 40 = .ok (.iload_n 1, 1) := by decide +kernel
theorem dX9_groups_41 : decode cX9_groups 41 = .ok (.ireturn, 1) := by decide +kernel
theorem dX9_first_0 : decode cX9_first 0 = .ok (.aload_n 0, 1) := by decide +kernel
theorem dX9_first_1 : decode cX9_first 1 = .ok (.iload_n 1, 1) := by decide +kernel
theorem dX9_first_2 : decode cX9_first 2 = .ok (.invokevirtual 109, 3) := by decide +kernel
theorem dX9_first_5 : decode cX9_first 5 = .ok (.ifCond .ne 5, 3) := by decide +kernel
theorem dX9_first_8 : decode cX9_first 8 = .ok (.iconst (-1), 1) := by decide +kernel
theorem dX9_first_9 : decode cX9_first 9 = .ok (.ireturn, 1) := by decide +kernel
theorem dX9_first_10 : decode cX9_first 10 = .ok (.aload_n 0, 1) := by decide +kernel
theorem dX9_first_11 : decode cX9_first 11 = .ok (.invokevirtual 267, 3) := by decide +kernel
theorem dX9_first_14 : decode cX9_first 14 = .ok (.aload_n 0, 1) := by decide +kernel
theorem dX9_first_15 : decode cX9_first 15 = .ok (.getfield 96, 3) := by decide +kernel
theorem dX9_first_18 : decode cX9_first 18 = .ok (.iload_n 1, 1) := by decide +kernel
theorem dX9_first_19 : decode cX9_first 19 = .ok (.iaload, 1) := by decide +kernel
theorem dX9_first_20 : decode cX9_first 20 = .ok (.ireturn, 1) := by decide +kernel
theorem dX9_count_0 : decode cX9_count 0 = .ok (.iconst 0, 1) := by decide +kernel
theorem dX9_count_1 : decode cX9_count 1 = .ok (.istore_n 2, 1) := by decide +kernel
theorem dX9_count_2 : decode cX9_count 2 = .ok (.iconst 0, 1) := by decide +kernel
theorem dX9_count_3 : decode cX9_count 3 = .ok (.istore_n 3, 1) := by decide +kernel
theorem dX9_count_4 : decode cX9_count 4 = .ok (.iload_n 3, 1) := by decide +kernel
theorem dX9_count_5 : decode cX9_count 5 = .ok (.aload_n 0, 1) := by decide +kernel
theorem dX9_count_6 : decode cX9_count 6 = .ok (.getfield 187, 3) := by decide +kernel
theorem dX9_count_9 : decode cX9_count 9 = .ok (.if_icmp .ge 26, 3) := by decide +kernel
theorem dX9_count_12 : decode cX9_count 12 = .ok (.iload_n 2, 1) := by decide +kernel
theorem dX9_count_13 : decode cX9_count 13 = .ok (.aload_n 0, 1) := by decide +kernel
theorem dX9_count_14 : decode cX9_count 14 = .ok (.getfield 63, 3) := by decide +kernel
theorem dX9_count_17 : decode cX9_count 17 = .ok (.iload_n 3, 1) := by decide +kernel
theorem dX9_count_18 : decode cX9_count 18 = .ok (.baload, 1) := by decide +kernel
theorem dX9_count_19 : decode cX9_count 19 = .ok (.ifCond .eq 7, 3) := by decide +kernel
theorem dX9_count_22 : decode cX9_count 22 = .ok (.iconst 0, 1) := by decide +kernel
theorem dX9_count_23 : decode cX9_count 23 = .ok (.goto 4, 3) := by decide +kernel
theorem dX9_count_26 : decode cX9_count 26 = .ok (.iconst 1, 1) := by decide +kernel
theorem dX9_count_27 : decode cX9_count 27 = .ok (.iadd, 1) := by decide +kernel
theorem dX9_count_28 : decode cX9_count 28 = .ok (.istore_n 2, 1) := by decide +kernel
theorem dX9_count_29 : decode cX9_count 29 = .ok (.iinc 3 1, 3) := by decide +kernel
theorem dX9_count_32 : decode cX9_count 32 = .ok (.goto (-28), 3) := by decide +kernel
theorem dX9_count_35 : decode cX9_count 35 = .ok (.aload_n 0, 1) := by decide +kernel
theorem dX9_count_36 : decode cX9_count 36 = .ok (.invokevirtual 267, 3) := by decide +kernel
theorem dX9_count_39 : decode cX9_count 39 = .ok (.iload_n 1, 1) := by decide +kernel
theorem dX9_count_40 : decode cX9_count 40 = .ok (.tableswitch 58 0 4 #[36, 41, 46, 51, 53], 36) := by decide +kernel
theorem dX9_count_76 : decode cX9_count 76 = .ok (.aload_n 0, 1) := by decide +kernel
theorem dX9_count_77 : decode cX9_count 77 = .ok (.getfield 7, 3) := by decide +kernel
theorem dX9_count_80 : decode cX9_count 80 = .ok (.ireturn, 1) := by decide +kernel
theorem dX9_count_81 : decode cX9_count 81 = .ok (.aload_n 0, 1) := by decide +kernel
theorem dX9_count_82 : decode cX9_count 82 = .ok (.getfield 113, 3) := by decide +kernel
theorem dX9_count_85 : decode cX9_count 85 = .ok (.ireturn, 1) := by decide +kernel
theorem dX9_count_86 : decode cX9_count 86 = .ok (.aload_n 0, 1) := by decide +kernel
theorem dX9_count_87 : decode cX9_count 87 = .ok (.getfield 187, 3) := by decide +kernel
theorem dX9_count_90 : decode cX9_count 90 = .ok (.ireturn, 1) := by decide +kernel
theorem dX9_count_91 : decode cX9_count 91 = .ok (.iload_n 2, 1) := by decide +kernel
theorem dX9_count_92 : decode cX9_count 92 = .ok (.ireturn, 1) := by decide +kernel
theorem dX9_count_93 : decode cX9_count 93 = .ok (.aload_n 0, 1) := by decide +kernel
theorem dX9_count_94 : decode cX9_count 94 = .ok (.getfield 258, 3) := by decide +kernel
theorem dX9_count_97 : decode cX9_count 97 = .ok (.ireturn, 1) := by decide +kernel
theorem dX9_count_98 : decode cX9_count 98 = .ok (.bipush (-2), 2) := by decide +kernel
theorem dX9_count_100 : decode cX9_count 100 = .ok (.ireturn, 1) := by decide +kernel
theorem dJ6_bitCount_0f7a4_0 : decode cJ6_bitCount_0f7a4 0 = .ok (.iload_n 0, 1) := by decide +kernel
theorem dJ6_bitCount_0f7a4_1 : decode cJ6_bitCount_0f7a4 1 = .ok (.iload_n 0, 1) := by decide +kernel
theorem dJ6_bitCount_0f7a4_2 : decode cJ6_bitCount_0f7a4 2 = .ok (.iconst 1, 1) := by decide +kernel
theorem dJ6_bitCount_0f7a4_3 : decode cJ6_bitCount_0f7a4 3 = .ok (.iushr, 1) := by decide +kernel
theorem dJ6_bitCount_0f7a4_4 : decode cJ6_bitCount_0f7a4 4 = .ok (.ldc_w 265, 3) := by decide +kernel
theorem dJ6_bitCount_0f7a4_7 : decode cJ6_bitCount_0f7a4 7 = .ok (.iand, 1) := by decide +kernel
theorem dJ6_bitCount_0f7a4_8 : decode cJ6_bitCount_0f7a4 8 = .ok (.isub, 1) := by decide +kernel
theorem dJ6_bitCount_0f7a4_9 : decode cJ6_bitCount_0f7a4 9 = .ok (.istore_n 0, 1) := by decide +kernel
theorem dJ6_bitCount_0f7a4_10 : decode cJ6_bitCount_0f7a4 10 = .ok (.iload_n 0, 1) := by decide +kernel
theorem dJ6_bitCount_0f7a4_11 : decode cJ6_bitCount_0f7a4 11 = .ok (.ldc_w 266, 3) := by decide +kernel
theorem dJ6_bitCount_0f7a4_14 : decode cJ6_bitCount_0f7a4 14 = .ok (.iand, 1) := by decide +kernel
theorem dJ6_bitCount_0f7a4_15 : decode cJ6_bitCount_0f7a4 15 = .ok (.iload_n 0, 1) := by decide +kernel
theorem dJ6_bitCount_0f7a4_16 : decode cJ6_bitCount_0f7a4 16 = .ok (.iconst 2, 1) := by decide +kernel
theorem dJ6_bitCount_0f7a4_17 : decode cJ6_bitCount_0f7a4 17 = .ok (.iushr, 1) := by decide +kernel
theorem dJ6_bitCount_0f7a4_18 : decode cJ6_bitCount_0f7a4 18 = .ok (.ldc_w 266, 3) := by decide +kernel
theorem dJ6_bitCount_0f7a4_21 : decode cJ6_bitCount_0f7a4 21 = .ok (.iand, 1) := by decide +kernel
theorem dJ6_bitCount_0f7a4_22 : decode cJ6_bitCount_0f7a4 22 = .ok (.iadd, 1) := by decide +kernel
theorem dJ6_bitCount_0f7a4_23 : decode cJ6_bitCount_0f7a4 23 = .ok (.istore_n 0, 1) := by decide +kernel
theorem dJ6_bitCount_0f7a4_24 : decode cJ6_bitCount_0f7a4 24 = .ok (.iload_n 0, 1) := by decide +kernel
theorem dJ6_bitCount_0f7a4_25 : decode cJ6_bitCount_0f7a4 25 = .ok (.iload_n 0, 1) := by decide +kernel
theorem dJ6_bitCount_0f7a4_26 : decode cJ6_bitCount_0f7a4 26 = .ok (.iconst 4, 1) := by decide +kernel
theorem dJ6_bitCount_0f7a4_27 : decode cJ6_bitCount_0f7a4 27 = .ok (.iushr, 1) := by decide +kernel
theorem dJ6_bitCount_0f7a4_28 : decode cJ6_bitCount_0f7a4 28 = .ok (.iadd, 1) := by decide +kernel
theorem dJ6_bitCount_0f7a4_29 : decode cJ6_bitCount_0f7a4 29 = .ok (.ldc_w 267, 3) := by decide +kernel
theorem dJ6_bitCount_0f7a4_32 : decode cJ6_bitCount_0f7a4 32 = .ok (.iand, 1) := by decide +kernel
theorem dJ6_bitCount_0f7a4_33 : decode cJ6_bitCount_0f7a4 33 = .ok (.istore_n 0, 1) := by decide +kernel
theorem dJ6_bitCount_0f7a4_34 : decode cJ6_bitCount_0f7a4 34 = .ok (.iload_n 0, 1) := by decide +kernel
theorem dJ6_bitCount_0f7a4_35 : decode cJ6_bitCount_0f7a4 35 = .ok (.iload_n 0, 1) := by decide +kernel
theorem dJ6_bitCount_0f7a4_36 : decode cJ6_bitCount_0f7a4 36 = .ok (.bipush 8, 2) := by decide +kernel
theorem dJ6_bitCount_0f7a4_38 : decode cJ6_bitCount_0f7a4 38 = .ok (.iushr, 1) := by decide +kernel
theorem dJ6_bitCount_0f7a4_39 : decode cJ6_bitCount_0f7a4 39 = .ok (.iadd, 1) := by decide +kernel
theorem dJ6_bitCount_0f7a4_40 : decode cJ6_bitCount_0f7a4 40 = .ok (.istore_n 0, 1) := by decide +kernel
theorem dJ6_bitCount_0f7a4_41 : decode cJ6_bitCount_0f7a4 41 = .ok (.iload_n 0, 1) := by decide +kernel
theorem dJ6_bitCount_0f7a4_42 : decode cJ6_bitCount_0f7a4 42 = .ok (.iload_n 0, 1) := by decide +kernel
theorem dJ6_bitCount_0f7a4_43 : decode cJ6_bitCount_0f7a4 43 = .ok (.bipush 16, 2) := by decide +kernel
theorem dJ6_bitCount_0f7a4_45 : decode cJ6_bitCount_0f7a4 45 = .ok (.iushr, 1) := by decide +kernel
theorem dJ6_bitCount_0f7a4_46 : decode cJ6_bitCount_0f7a4 46 = .ok (.iadd, 1) := by decide +kernel
theorem dJ6_bitCount_0f7a4_47 : decode cJ6_bitCount_0f7a4 47 = .ok (.istore_n 0, 1) := by decide +kernel
theorem dJ6_bitCount_0f7a4_48 : decode cJ6_bitCount_0f7a4 48 = .ok (.iload_n 0, 1) := by decide +kernel
theorem dJ6_bitCount_0f7a4_49 : decode cJ6_bitCount_0f7a4 49 = .ok (.bipush 63, 2) := by decide +kernel
theorem dJ6_bitCount_0f7a4_51 : decode cJ6_bitCount_0f7a4 51 = .ok (.iand, 1) := by decide +kernel
theorem dJ6_bitCount_0f7a4_52 : decode cJ6_bitCount_0f7a4 52 = .ok (.ireturn, 1) := by decide +kernel
theorem dJ9_max_7cf53_0 : decode cJ9_max_7cf53 0 = .ok (.iload_n 0, 1) := by decide +kernel
theorem dJ9_max_7cf53_1 : decode cJ9_max_7cf53 1 = .ok (.iload_n 1, 1) := by decide +kernel
theorem dJ9_max_7cf53_2 : decode cJ9_max_7cf53 2 = .ok (.if_icmp .lt 7, 3) := by decide +kernel
theorem dJ9_max_7cf53_5 : decode cJ9_max_7cf53 5 = .ok (.iload_n 0, 1) := by decide +kernel
theorem dJ9_max_7cf53_6 : decode cJ9_max_7cf53 6 = .ok (.goto 4, 3) := by decide +kernel
theorem dJ9_max_7cf53_9 : decode cJ9_max_7cf53 9 = .ok (.iload_n 1, 1) := by decide +kernel
theorem dJ9_max_7cf53_10 : decode cJ9_max_7cf53 10 = .ok (.ireturn, 1) := by decide +kernel
theorem dJ9_min_7cf53_0 : decode cJ9_min_7cf53 0 = .ok (.iload_n 0, 1) := by decide +kernel
theorem dJ9_min_7cf53_1 : decode cJ9_min_7cf53 1 = .ok (.iload_n 1, 1) := by decide +kernel
theorem dJ9_min_7cf53_2 : decode cJ9_min_7cf53 2 = .ok (.if_icmp .gt 7, 3) := by decide +kernel
theorem dJ9_min_7cf53_5 : decode cJ9_min_7cf53 5 = .ok (.iload_n 0, 1) := by decide +kernel
theorem dJ9_min_7cf53_6 : decode cJ9_min_7cf53 6 = .ok (.goto 4, 3) := by decide +kernel
theorem dJ9_min_7cf53_9 : decode cJ9_min_7cf53 9 = .ok (.iload_n 1, 1) := by decide +kernel
theorem dJ9_min_7cf53_10 : decode cJ9_min_7cf53 10 = .ok (.ireturn, 1) := by decide +kernel
theorem dJ7_fill_53178_0 : decode cJ7_fill_53178 0 = .ok (.iconst 0, 1) := by decide +kernel
theorem dJ7_fill_53178_1 : decode cJ7_fill_53178 1 = .ok (.istore_n 2, 1) := by decide +kernel
theorem dJ7_fill_53178_2 : decode cJ7_fill_53178 2 = .ok (.aload_n 0, 1) := by decide +kernel
theorem dJ7_fill_53178_3 : decode cJ7_fill_53178 3 = .ok (.arraylength, 1) := by decide +kernel
theorem dJ7_fill_53178_4 : decode cJ7_fill_53178 4 = .ok (.istore_n 3, 1) := by decide +kernel
theorem dJ7_fill_53178_5 : decode cJ7_fill_53178 5 = .ok (.iload_n 2, 1) := by decide +kernel
theorem dJ7_fill_53178_6 : decode cJ7_fill_53178 6 = .ok (.iload_n 3, 1) := by decide +kernel
theorem dJ7_fill_53178_7 : decode cJ7_fill_53178 7 = .ok (.if_icmp .ge 13, 3) := by decide +kernel
theorem dJ7_fill_53178_10 : decode cJ7_fill_53178 10 = .ok (.aload_n 0, 1) := by decide +kernel
theorem dJ7_fill_53178_11 : decode cJ7_fill_53178 11 = .ok (.iload_n 2, 1) := by decide +kernel
theorem dJ7_fill_53178_12 : decode cJ7_fill_53178 12 = .ok (.iload_n 1, 1) := by decide +kernel
theorem dJ7_fill_53178_13 : decode cJ7_fill_53178 13 = .ok (.iastore, 1) := by decide +kernel
theorem dJ7_fill_53178_14 : decode cJ7_fill_53178 14 = .ok (.iinc 2 1, 3) := by decide +kernel
theorem dJ7_fill_53178_17 : decode cJ7_fill_53178 17 = .ok (.goto (-12), 3) := by decide +kernel
theorem dJ7_fill_53178_20 : decode cJ7_fill_53178 20 = .ok (.return_, 1) := by decide +kernel
theorem dL_law_0 : decode cL_law 0 = .ok (.new 7, 3) := by decide +kernel
theorem dL_law_3 : decode cL_law 3 = .ok (.dup, 1) := by decide +kernel
theorem dL_law_4 : decode cL_law 4 = .ok (.invokespecial 9, 3) := by decide +kernel
theorem dL_law_7 : decode cL_law 7 = .ok (.astore_n 1, 1) := by decide +kernel
theorem dL_law_8 : decode cL_law 8 = .ok (.new 10, 3) := by decide +kernel
theorem dL_law_11 : decode cL_law 11 = .ok (.dup, 1) := by decide +kernel
theorem dL_law_12 : decode cL_law 12 = .ok (.invokespecial 12, 3) := by decide +kernel
theorem dL_law_15 : decode cL_law 15 = .ok (.astore_n 2, 1) := by decide +kernel
theorem dL_law_16 : decode cL_law 16 = .ok (.iconst 0, 1) := by decide +kernel
theorem dL_law_17 : decode cL_law 17 = .ok (.istore_n 3, 1) := by decide +kernel
theorem dL_law_18 : decode cL_law 18 = .ok (.iload_n 3, 1) := by decide +kernel
theorem dL_law_19 : decode cL_law 19 = .ok (.aload_n 0, 1) := by decide +kernel
theorem dL_law_20 : decode cL_law 20 = .ok (.arraylength, 1) := by decide +kernel
theorem dL_law_21 : decode cL_law 21 = .ok (.iconst 5, 1) := by decide +kernel
theorem dL_law_22 : decode cL_law 22 = .ok (.isub, 1) := by decide +kernel
theorem dL_law_23 : decode cL_law 23 = .ok (.if_icmp .gt 1157, 3) := by decide +kernel
theorem dL_law_26 : decode cL_law 26 = .ok (.aload_n 0, 1) := by decide +kernel
theorem dL_law_27 : decode cL_law 27 = .ok (.iload_n 3, 1) := by decide +kernel
theorem dL_law_28 : decode cL_law 28 = .ok (.iaload, 1) := by decide +kernel
theorem dL_law_29 : decode cL_law 29 = .ok (.bipush 63, 2) := by decide +kernel
theorem dL_law_31 : decode cL_law 31 = .ok (.iand, 1) := by decide +kernel
theorem dL_law_32 : decode cL_law 32 = .ok (.tableswitch 1142 0 33 #[152, 185, 234, 267, 280, 329, 362, 395, 428, 461, 484, 517, 560, 613, 636, 659, 692, 735, 768, 801, 834, 883, 916, 929, 942, 955, 978, 991, 1004, 1027, 1050, 1083, 1096, 1119], 152) := by decide +kernel
theorem dL_law_184 : decode cL_law 184 = .ok (.aload_n 1, 1) := by decide +kernel
theorem dL_law_185 : decode cL_law 185 = .ok (.aload_n 0, 1) := by decide +kernel
theorem dL_law_186 : decode cL_law 186 = .ok (.iload_n 3, 1) := by decide +kernel
theorem dL_law_187 : decode cL_law 187 = .ok (.iconst 1, 1) := by decide +kernel
theorem dL_law_188 : decode cL_law 188 = .ok (.iadd, 1) := by decide +kernel
theorem dL_law_189 : decode cL_law 189 = .ok (.iaload, 1) := by decide +kernel
theorem dL_law_190 : decode cL_law 190 = .ok (.aload_n 0, 1) := by decide +kernel
theorem dL_law_191 : decode cL_law 191 = .ok (.iload_n 3, 1) := by decide +kernel
theorem dL_law_192 : decode cL_law 192 = .ok (.iconst 2, 1) := by decide +kernel
theorem dL_law_193 : decode cL_law 193 = .ok (.iadd, 1) := by decide +kernel
theorem dL_law_194 : decode cL_law 194 = .ok (.iaload, 1) := by decide +kernel
theorem dL_law_195 : decode cL_law 195 = .ok (.invokevirtual 13, 3) := by decide +kernel
theorem dL_law_198 : decode cL_law 198 = .ok (.aload_n 2, 1) := by decide +kernel
theorem dL_law_199 : decode cL_law 199 = .ok (.aload_n 0, 1) := by decide +kernel
theorem dL_law_200 : decode cL_law 200 = .ok (.iload_n 3, 1) := by decide +kernel
theorem dL_law_201 : decode cL_law 201 = .ok (.iconst 1, 1) := by decide +kernel
theorem dL_law_202 : decode cL_law 202 = .ok (.iadd, 1) := by decide +kernel
theorem dL_law_203 : decode cL_law 203 = .ok (.iaload, 1) := by decide +kernel
theorem dL_law_204 : decode cL_law 204 = .ok (.aload_n 0, 1) := by decide +kernel
theorem dL_law_205 : decode cL_law 205 = .ok (.iload_n 3, 1) := by decide +kernel
theorem dL_law_206 : decode cL_law 206 = .ok (.iconst 2, 1) := by decide +kernel
theorem dL_law_207 : decode cL_law 207 = .ok (.iadd, 1) := by decide +kernel
theorem dL_law_208 : decode cL_law 208 = .ok (.iaload, 1) := by decide +kernel
theorem dL_law_209 : decode cL_law 209 = .ok (.invokevirtual 17, 3) := by decide +kernel
theorem dL_law_212 : decode cL_law 212 = .ok (.if_icmp .eq 962, 3) := by decide +kernel
theorem dL_law_215 : decode cL_law 215 = .ok (.iconst 0, 1) := by decide +kernel
theorem dL_law_216 : decode cL_law 216 = .ok (.ireturn, 1) := by decide +kernel
theorem dL_law_217 : decode cL_law 217 = .ok (.aload_n 1, 1) := by decide +kernel
theorem dL_law_218 : decode cL_law 218 = .ok (.aload_n 0, 1) := by decide +kernel
theorem dL_law_219 : decode cL_law 219 = .ok (.iload_n 3, 1) := by decide +kernel
theorem dL_law_220 : decode cL_law 220 = .ok (.iconst 1, 1) := by decide +kernel
theorem dL_law_221 : decode cL_law 221 = .ok (.iadd, 1) := by decide +kernel
theorem dL_law_222 : decode cL_law 222 = .ok (.iaload, 1) := by decide +kernel
theorem dL_law_223 : decode cL_law 223 = .ok (.aload_n 0, 1) := by decide +kernel
theorem dL_law_224 : decode cL_law 224 = .ok (.iload_n 3, 1) := by decide +kernel
theorem dL_law_225 : decode cL_law 225 = .ok (.iconst 2, 1) := by decide +kernel
theorem dL_law_226 : decode cL_law 226 = .ok (.iadd, 1) := by decide +kernel
theorem dL_law_227 : decode cL_law 227 = .ok (.iaload, 1) := by decide +kernel
theorem dL_law_228 : decode cL_law 228 = .ok (.ifCond .eq 7, 3) := by decide +kernel
theorem dL_law_231 : decode cL_law 231 = .ok (.iconst 1, 1) := by decide +kernel
theorem dL_law_232 : decode cL_law 232 = .ok (.goto 4, 3) := by decide +kernel
theorem dL_law_235 : decode cL_law 235 = .ok (.iconst 0, 1) := by decide +kernel
theorem dL_law_236 : decode cL_law 236 = .ok (.invokevirtual 18, 3) := by decide +kernel
theorem dL_law_239 : decode cL_law 239 = .ok (.aload_n 2, 1) := by decide +kernel
theorem dL_law_240 : decode cL_law 240 = .ok (.aload_n 0, 1) := by decide +kernel
theorem dL_law_241 : decode cL_law 241 = .ok (.iload_n 3, 1) := by decide +kernel
theorem dL_law_242 : decode cL_law 242 = .ok (.iconst 1, 1) := by decide +kernel
theorem dL_law_243 : decode cL_law 243 = .ok (.iadd, 1) := by decide +kernel
theorem dL_law_244 : decode cL_law 244 = .ok (.iaload, 1) := by decide +kernel
theorem dL_law_245 : decode cL_law 245 = .ok (.aload_n 0, 1) := by decide +kernel
theorem dL_law_246 : decode cL_law 246 = .ok (.iload_n 3, 1) := by decide +kernel
theorem dL_law_247 : decode cL_law 247 = .ok (.iconst 2, 1) := by decide +kernel
theorem dL_law_248 : decode cL_law 248 = .ok (.iadd, 1) := by decide +kernel
theorem dL_law_249 : decode cL_law 249 = .ok (.iaload, 1) := by decide +kernel
theorem dL_law_250 : decode cL_law 250 = .ok (.ifCond .eq 7, 3) := by decide +kernel

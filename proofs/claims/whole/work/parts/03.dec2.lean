theorem dX6_load_34 : decode cX6_load 34 = .ok (.iload_n 1, 1) := by decide +kernel
theorem dX6_load_35 : decode cX6_load 35 = .ok (.irem, 1) := by decide +kernel
theorem dX6_load_36 : decode cX6_load 36 = .ok (.iastore, 1) := by decide +kernel
theorem dX6_load_37 : decode cX6_load 37 = .ok (.iload_n 3, 1) := by decide +kernel
theorem dX6_load_38 : decode cX6_load 38 = .ok (.iload_n 1, 1) := by decide +kernel
theorem dX6_load_39 : decode cX6_load 39 = .ok (.idiv, 1) := by decide +kernel
theorem dX6_load_40 : decode cX6_load 40 = .ok (.istore_n 3, 1) := by decide +kernel
theorem dX6_load_41 : decode cX6_load 41 = .ok (.iinc 4 (-1), 3) := by decide +kernel
theorem dX6_load_44 : decode cX6_load 44 = .ok (.goto (-22), 3) := by decide +kernel
theorem dX6_load_47 : decode cX6_load 47 = .ok (.return_, 1) := by decide +kernel
theorem dX6_advance_0 : decode cX6_advance 0 = .ok (.aload_n 0, 1) := by decide +kernel
theorem dX6_advance_1 : decode cX6_advance 1 = .ok (.getfield 20, 3) := by decide +kernel
theorem dX6_advance_4 : decode cX6_advance 4 = .ok (.aload_n 0, 1) := by decide +kernel
theorem dX6_advance_5 : decode cX6_advance 5 = .ok (.getfield 20, 3) := by decide +kernel
theorem dX6_advance_8 : decode cX6_advance 8 = .ok (.imul, 1) := by decide +kernel
theorem dX6_advance_9 : decode cX6_advance 9 = .ok (.iconst 1, 1) := by decide +kernel
theorem dX6_advance_10 : decode cX6_advance 10 = .ok (.isub, 1) := by decide +kernel
theorem dX6_advance_11 : decode cX6_advance 11 = .ok (.istore_n 1, 1) := by decide +kernel
theorem dX6_advance_12 : decode cX6_advance 12 = .ok (.iload_n 1, 1) := by decide +kernel
theorem dX6_advance_13 : decode cX6_advance 13 = .ok (.ifCond .lt 42, 3) := by decide +kernel
theorem dX6_advance_16 : decode cX6_advance 16 = .ok (.aload_n 0, 1) := by decide +kernel
theorem dX6_advance_17 : decode cX6_advance 17 = .ok (.getfield 9, 3) := by decide +kernel
theorem dX6_advance_20 : decode cX6_advance 20 = .ok (.iload_n 1, 1) := by decide +kernel
theorem dX6_advance_21 : decode cX6_advance 21 = .ok (.iaload, 1) := by decide +kernel
theorem dX6_advance_22 : decode cX6_advance 22 = .ok (.aload_n 0, 1) := by decide +kernel
theorem dX6_advance_23 : decode cX6_advance 23 = .ok (.getfield 20, 3) := by decide +kernel
theorem dX6_advance_26 : decode cX6_advance 26 = .ok (.iconst 1, 1) := by decide +kernel
theorem dX6_advance_27 : decode cX6_advance 27 = .ok (.isub, 1) := by decide +kernel
theorem dX6_advance_28 : decode cX6_advance 28 = .ok (.if_icmp .ge 14, 3) := by decide +kernel
theorem dX6_advance_31 : decode cX6_advance 31 = .ok (.aload_n 0, 1) := by decide +kernel
theorem dX6_advance_32 : decode cX6_advance 32 = .ok (.getfield 9, 3) := by decide +kernel
theorem dX6_advance_35 : decode cX6_advance 35 = .ok (.iload_n 1, 1) := by decide +kernel
theorem dX6_advance_36 : decode cX6_advance 36 = .ok (.dup2, 1) := by decide +kernel
theorem dX6_advance_37 : decode cX6_advance 37 = .ok (.iaload, 1) := by decide +kernel
theorem dX6_advance_38 : decode cX6_advance 38 = .ok (.iconst 1, 1) := by decide +kernel
theorem dX6_advance_39 : decode cX6_advance 39 = .ok (.iadd, 1) := by decide +kernel
theorem dX6_advance_40 : decode cX6_advance 40 = .ok (.iastore, 1) := by decide +kernel
theorem dX6_advance_41 : decode cX6_advance 41 = .ok (.return_, 1) := by decide +kernel
theorem dX6_advance_42 : decode cX6_advance 42 = .ok (.aload_n 0, 1) := by decide +kernel
theorem dX6_advance_43 : decode cX6_advance 43 = .ok (.getfield 9, 3) := by decide +kernel
theorem dX6_advance_46 : decode cX6_advance 46 = .ok (.iload_n 1, 1) := by decide +kernel
theorem dX6_advance_47 : decode cX6_advance 47 = .ok (.iconst 0, 1) := by decide +kernel
theorem dX6_advance_48 : decode cX6_advance 48 = .ok (.iastore, 1) := by decide +kernel
theorem dX6_advance_49 : decode cX6_advance 49 = .ok (.iinc 1 (-1), 3) := by decide +kernel
theorem dX6_advance_52 : decode cX6_advance 52 = .ok (.goto (-40), 3) := by decide +kernel
theorem dX6_advance_55 : decode cX6_advance 55 = .ok (.return_, 1) := by decide +kernel
theorem dX6_turnAbout_0 : decode cX6_turnAbout 0 = .ok (.iconst 0, 1) := by decide +kernel
theorem dX6_turnAbout_1 : decode cX6_turnAbout 1 = .ok (.istore_n 1, 1) := by decide +kernel
theorem dX6_turnAbout_2 : decode cX6_turnAbout 2 = .ok (.iload_n 1, 1) := by decide +kernel
theorem dX6_turnAbout_3 : decode cX6_turnAbout 3 = .ok (.aload_n 0, 1) := by decide +kernel
theorem dX6_turnAbout_4 : decode cX6_turnAbout 4 = .ok (.getfield 20, 3) := by decide +kernel
theorem dX6_turnAbout_7 : decode cX6_turnAbout 7 = .ok (.if_icmp .ge 76, 3) := by decide +kernel
theorem dX6_turnAbout_10 : decode cX6_turnAbout 10 = .ok (.iconst 0, 1) := by decide +kernel
theorem dX6_turnAbout_11 : decode cX6_turnAbout 11 = .ok (.istore_n 2, 1) := by decide +kernel
theorem dX6_turnAbout_12 : decode cX6_turnAbout 12 = .ok (.iload_n 2, 1) := by decide +kernel
theorem dX6_turnAbout_13 : decode cX6_turnAbout 13 = .ok (.iload_n 1, 1) := by decide +kernel
theorem dX6_turnAbout_14 : decode cX6_turnAbout 14 = .ok (.if_icmp .ge 63, 3) := by decide +kernel
theorem dX6_turnAbout_17 : decode cX6_turnAbout 17 = .ok (.aload_n 0, 1) := by decide +kernel
theorem dX6_turnAbout_18 : decode cX6_turnAbout 18 = .ok (.getfield 9, 3) := by decide +kernel
theorem dX6_turnAbout_21 : decode cX6_turnAbout 21 = .ok (.iload_n 1, 1) := by decide +kernel
theorem dX6_turnAbout_22 : decode cX6_turnAbout 22 = .ok (.aload_n 0, 1) := by decide +kernel
theorem dX6_turnAbout_23 : decode cX6_turnAbout 23 = .ok (.getfield 20, 3) := by decide +kernel
theorem dX6_turnAbout_26 : decode cX6_turnAbout 26 = .ok (.imul, 1) := by decide +kernel
theorem dX6_turnAbout_27 : decode cX6_turnAbout 27 = .ok (.iload_n 2, 1) := by decide +kernel
theorem dX6_turnAbout_28 : decode cX6_turnAbout 28 = .ok (.iadd, 1) := by decide +kernel
theorem dX6_turnAbout_29 : decode cX6_turnAbout 29 = .ok (.iaload, 1) := by decide +kernel
theorem dX6_turnAbout_30 : decode cX6_turnAbout 30 = .ok (.istore_n 3, 1) := by decide +kernel
theorem dX6_turnAbout_31 : decode cX6_turnAbout 31 = .ok (.aload_n 0, 1) := by decide +kernel
theorem dX6_turnAbout_32 : decode cX6_turnAbout 32 = .ok (.getfield 9, 3) := by decide +kernel
theorem dX6_turnAbout_35 : decode cX6_turnAbout 35 = .ok (.iload_n 1, 1) := by decide +kernel
theorem dX6_turnAbout_36 : decode cX6_turnAbout 36 = .ok (.aload_n 0, 1) := by decide +kernel
theorem dX6_turnAbout_37 : decode cX6_turnAbout 37 = .ok (.getfield 20, 3) := by decide +kernel
theorem dX6_turnAbout_40 : decode cX6_turnAbout 40 = .ok (.imul, 1) := by decide +kernel
theorem dX6_turnAbout_41 : decode cX6_turnAbout 41 = .ok (.iload_n 2, 1) := by decide +kernel
theorem dX6_turnAbout_42 : decode cX6_turnAbout 42 = .ok (.iadd, 1) := by decide +kernel
theorem dX6_turnAbout_43 : decode cX6_turnAbout 43 = .ok (.aload_n 0, 1) := by decide +kernel
theorem dX6_turnAbout_44 : decode cX6_turnAbout 44 = .ok (.getfield 9, 3) := by decide +kernel
theorem dX6_turnAbout_47 : decode cX6_turnAbout 47 = .ok (.iload_n 2, 1) := by decide +kernel
theorem dX6_turnAbout_48 : decode cX6_turnAbout 48 = .ok (.aload_n 0, 1) := by decide +kernel
theorem dX6_turnAbout_49 : decode cX6_turnAbout 49 = .ok (.getfield 20, 3) := by decide +kernel
theorem dX6_turnAbout_52 : decode cX6_turnAbout 52 = .ok (.imul, 1) := by decide +kernel
theorem dX6_turnAbout_53 : decode cX6_turnAbout 53 = .ok (.iload_n 1, 1) := by decide +kernel
theorem dX6_turnAbout_54 : decode cX6_turnAbout 54 = .ok (.iadd, 1) := by decide +kernel
theorem dX6_turnAbout_55 : decode cX6_turnAbout 55 = .ok (.iaload, 1) := by decide +kernel
theorem dX6_turnAbout_56 : decode cX6_turnAbout 56 = .ok (.iastore, 1) := by decide +kernel
theorem dX6_turnAbout_57 : decode cX6_turnAbout 57 = .ok (.aload_n 0, 1) := by decide +kernel
theorem dX6_turnAbout_58 : decode cX6_turnAbout 58 = .ok (.getfield 9, 3) := by decide +kernel
theorem dX6_turnAbout_61 : decode cX6_turnAbout 61 = .ok (.iload_n 2, 1) := by decide +kernel
theorem dX6_turnAbout_62 : decode cX6_turnAbout 62 = .ok (.aload_n 0, 1) := by decide +kernel
theorem dX6_turnAbout_63 : decode cX6_turnAbout 63 = .ok (.getfield 20, 3) := by decide +kernel
theorem dX6_turnAbout_66 : decode cX6_turnAbout 66 = .ok (.imul, 1) := by decide +kernel
theorem dX6_turnAbout_67 : decode cX6_turnAbout 67 = .ok (.iload_n 1, 1) := by decide +kernel
theorem dX6_turnAbout_68 : decode cX6_turnAbout 68 = .ok (.iadd, 1) := by decide +kernel
theorem dX6_turnAbout_69 : decode cX6_turnAbout 69 = .ok (.iload_n 3, 1) := by decide +kernel
theorem dX6_turnAbout_70 : decode cX6_turnAbout 70 = .ok (.iastore, 1) := by decide +kernel
theorem dX6_turnAbout_71 : decode cX6_turnAbout 71 = .ok (.iinc 2 1, 3) := by decide +kernel
theorem dX6_turnAbout_74 : decode cX6_turnAbout 74 = .ok (.goto (-62), 3) := by decide +kernel
theorem dX6_turnAbout_77 : decode cX6_turnAbout 77 = .ok (.iinc 1 1, 3) := by decide +kernel
theorem dX6_turnAbout_80 : decode cX6_turnAbout 80 = .ok (.goto (-78), 3) := by decide +kernel
theorem dX6_turnAbout_83 : decode cX6_turnAbout 83 = .ok (.return_, 1) := by decide +kernel
theorem dX6_renamedCell_0 : decode cX6_renamedCell 0 = .ok (.iload_n 1, 1) := by decide +kernel
theorem dX6_renamedCell_1 : decode cX6_renamedCell 1 = .ok (.iconst 3, 1) := by decide +kernel
theorem dX6_renamedCell_2 : decode cX6_renamedCell 2 = .ok (.imul, 1) := by decide +kernel
theorem dX6_renamedCell_3 : decode cX6_renamedCell 3 = .ok (.istore 4, 2) := by decide +kernel
theorem dX6_renamedCell_5 : decode cX6_renamedCell 5 = .ok (.getstatic 28, 3) := by decide +kernel
theorem dX6_renamedCell_8 : decode cX6_renamedCell 8 = .ok (.iload 4, 2) := by decide +kernel
theorem dX6_renamedCell_10 : decode cX6_renamedCell 10 = .ok (.aload_n 0, 1) := by decide +kernel
theorem dX6_renamedCell_11 : decode cX6_renamedCell 11 = .ok (.getfield 9, 3) := by decide +kernel
theorem dX6_renamedCell_14 : decode cX6_renamedCell 14 = .ok (.getstatic 31, 3) := by decide +kernel
theorem dX6_renamedCell_17 : decode cX6_renamedCell 17 = .ok (.iload 4, 2) := by decide +kernel
theorem dX6_renamedCell_19 : decode cX6_renamedCell 19 = .ok (.iload_n 2, 1) := by decide +kernel
theorem dX6_renamedCell_20 : decode cX6_renamedCell 20 = .ok (.iadd, 1) := by decide +kernel
theorem dX6_renamedCell_21 : decode cX6_renamedCell 21 = .ok (.iaload, 1) := by decide +kernel
theorem dX6_renamedCell_22 : decode cX6_renamedCell 22 = .ok (.aload_n 0, 1) := by decide +kernel
theorem dX6_renamedCell_23 : decode cX6_renamedCell 23 = .ok (.getfield 20, 3) := by decide +kernel
theorem dX6_renamedCell_26 : decode cX6_renamedCell 26 = .ok (.imul, 1) := by decide +kernel
theorem dX6_renamedCell_27 : decode cX6_renamedCell 27 = .ok (.getstatic 31, 3) := by decide +kernel
theorem dX6_renamedCell_30 : decode cX6_renamedCell 30 = .ok (.iload 4, 2) := by decide +kernel
theorem dX6_renamedCell_32 : decode cX6_renamedCell 32 = .ok (.iload_n 3, 1) := by decide +kernel
theorem dX6_renamedCell_33 : decode cX6_renamedCell 33 = .ok (.iadd, 1) := by decide +kernel
theorem dX6_renamedCell_34 : decode cX6_renamedCell 34 = .ok (.iaload, 1) := by decide +kernel
theorem dX6_renamedCell_35 : decode cX6_renamedCell 35 = .ok (.iadd, 1) := by decide +kernel
theorem dX6_renamedCell_36 : decode cX6_renamedCell 36 = .ok (.iaload, 1) := by decide +kernel
theorem dX6_renamedCell_37 : decode cX6_renamedCell 37 = .ok (.iadd, 1) := by decide +kernel
theorem dX6_renamedCell_38 : decode cX6_renamedCell 38 = .ok (.iaload, 1) := by decide +kernel
theorem dX6_renamedCell_39 : decode cX6_renamedCell 39 = .ok (.ireturn, 1) := by decide +kernel
theorem dX6_compareRenamed_0 : decode cX6_compareRenamed 0 = .ok (.iconst 0, 1) := by decide +kernel
theorem dX6_compareRenamed_1 : decode cX6_compareRenamed 1 = .ok (.istore_n 2, 1) := by decide +kernel
theorem dX6_compareRenamed_2 : decode cX6_compareRenamed 2 = .ok (.iload_n 2, 1) := by decide +kernel
theorem dX6_compareRenamed_3 : decode cX6_compareRenamed 3 = .ok (.aload_n 0, 1) := by decide +kernel
theorem dX6_compareRenamed_4 : decode cX6_compareRenamed 4 = .ok (.getfield 20, 3) := by decide +kernel
theorem dX6_compareRenamed_7 : decode cX6_compareRenamed 7 = .ok (.if_icmp .ge 56, 3) := by decide +kernel
theorem dX6_compareRenamed_10 : decode cX6_compareRenamed 10 = .ok (.iconst 0, 1) := by decide +kernel
theorem dX6_compareRenamed_11 : decode cX6_compareRenamed 11 = .ok (.istore_n 3, 1) := by decide +kernel
theorem dX6_compareRenamed_12 : decode cX6_compareRenamed 12 = .ok (.iload_n 3, 1) := by decide +kernel
theorem dX6_compareRenamed_13 : decode cX6_compareRenamed 13 = .ok (.aload_n 0, 1) := by decide +kernel
theorem dX6_compareRenamed_14 : decode cX6_compareRenamed 14 = .ok (.getfield 20, 3) := by decide +kernel
theorem dX6_compareRenamed_17 : decode cX6_compareRenamed 17 = .ok (.if_icmp .ge 40, 3) := by decide +kernel
theorem dX6_compareRenamed_20 : decode cX6_compareRenamed 20 = .ok (.aload_n 0, 1) := by decide +kernel
theorem dX6_compareRenamed_21 : decode cX6_compareRenamed 21 = .ok (.iload_n 1, 1) := by decide +kernel
theorem dX6_compareRenamed_22 : decode cX6_compareRenamed 22 = .ok (.iload_n 2, 1) := by decide +kernel
theorem dX6_compareRenamed_23 : decode cX6_compareRenamed 23 = .ok (.iload_n 3, 1) := by decide +kernel
theorem dX6_compareRenamed_24 : decode cX6_compareRenamed 24 = .ok (.invokevirtual 34, 3) := by decide +kernel
theorem dX6_compareRenamed_27 : decode cX6_compareRenamed 27 = .ok (.aload_n 0, 1) := by decide +kernel
theorem dX6_compareRenamed_28 : decode cX6_compareRenamed 28 = .ok (.getfield 9, 3) := by decide +kernel
theorem dX6_compareRenamed_31 : decode cX6_compareRenamed 31 = .ok (.iload_n 2, 1) := by decide +kernel
theorem dX6_compareRenamed_32 : decode cX6_compareRenamed 32 = .ok (.aload_n 0, 1) := by decide +kernel
theorem dX6_compareRenamed_33 : decode cX6_compareRenamed 33 = .ok (.getfield 20, 3) := by decide +kernel
theorem dX6_compareRenamed_36 : decode cX6_compareRenamed 36 = .ok (.imul, 1) := by decide +kernel
theorem dX6_compareRenamed_37 : decode cX6_compareRenamed 37 = .ok (.iload_n 3, 1) := by decide +kernel
theorem dX6_compareRenamed_38 : decode cX6_compareRenamed 38 = .ok (.iadd, 1) := by decide +kernel
theorem dX6_compareRenamed_39 : decode cX6_compareRenamed 39 = .ok (.iaload, 1) := by decide +kernel
theorem dX6_compareRenamed_40 : decode cX6_compareRenamed 40 = .ok (.isub, 1) := by decide +kernel
theorem dX6_compareRenamed_41 : decode cX6_compareRenamed 41 = .ok (.istore 4, 2) := by decide +kernel
theorem dX6_compareRenamed_43 : decode cX6_compareRenamed 43 = .ok (.iload 4, 2) := by decide +kernel
theorem dX6_compareRenamed_45 : decode cX6_compareRenamed 45 = .ok (.ifCond .eq 6, 3) := by decide +kernel
theorem dX6_compareRenamed_48 : decode cX6_compareRenamed 48 = .ok (.iload 4, 2) := by decide +kernel
theorem dX6_compareRenamed_50 : decode cX6_compareRenamed 50 = .ok (.ireturn, 1) := by decide +kernel
theorem dX6_compareRenamed_51 : decode cX6_compareRenamed 51 = .ok (.iinc 3 1, 3) := by decide +kernel
theorem dX6_compareRenamed_54 : decode cX6_compareRenamed 54 = .ok (.goto (-42), 3) := by decide +kernel
theorem dX6_compareRenamed_57 : decode cX6_compareRenamed 57 = .ok (.iinc 2 1, 3) := by decide +kernel
theorem dX6_compareRenamed_60 : decode cX6_compareRenamed 60 = .ok (.goto (-58), 3) := by decide +kernel
theorem dX6_compareRenamed_63 : decode cX6_compareRenamed 63 = .ok (.iconst 0, 1) := by decide +kernel
theorem dX6_compareRenamed_64 : decode cX6_compareRenamed 64 = .ok (.ireturn, 1) := by decide +kernel
theorem dX6_renamedNumber_0 : decode cX6_renamedNumber 0 = .ok (.iconst 0, 1) := by decide +kernel
theorem dX6_renamedNumber_1 : decode cX6_renamedNumber 1 = .ok (.istore_n 2, 1) := by decide +kernel
theorem dX6_renamedNumber_2 : decode cX6_renamedNumber 2 = .ok (.iconst 0, 1) := by decide +kernel
theorem dX6_renamedNumber_3 : decode cX6_renamedNumber 3 = .ok (.istore_n 3, 1) := by decide +kernel
theorem dX6_renamedNumber_4 : decode cX6_renamedNumber 4 = .ok (.iload_n 3, 1) := by decide +kernel
theorem dX6_renamedNumber_5 : decode cX6_renamedNumber 5 = .ok (.aload_n 0, 1) := by decide +kernel
theorem dX6_renamedNumber_6 : decode cX6_renamedNumber 6 = .ok (.getfield 20, 3) := by decide +kernel
theorem dX6_renamedNumber_9 : decode cX6_renamedNumber 9 = .ok (.if_icmp .ge 43, 3) := by decide +kernel
theorem dX6_renamedNumber_12 : decode cX6_renamedNumber 12 = .ok (.iconst 0, 1) := by decide +kernel
theorem dX6_renamedNumber_13 : decode cX6_renamedNumber 13 = .ok (.istore 4, 2) := by decide +kernel
theorem dX6_renamedNumber_15 : decode cX6_renamedNumber 15 = .ok (.iload 4, 2) := by decide +kernel
theorem dX6_renamedNumber_17 : decode cX6_renamedNumber 17 = .ok (.aload_n 0, 1) := by decide +kernel
theorem dX6_renamedNumber_18 : decode cX6_renamedNumber 18 = .ok (.getfield 20, 3) := by decide +kernel
theorem dX6_renamedNumber_21 : decode cX6_renamedNumber 21 = .ok (.if_icmp .ge 25, 3) := by decide +kernel
theorem dX6_renamedNumber_24 : decode cX6_renamedNumber 24 = .ok (.iload_n 2, 1) := by decide +kernel
theorem dX6_renamedNumber_25 : decode cX6_renamedNumber 25 = .ok (.aload_n 0, 1) := by decide +kernel
theorem dX6_renamedNumber_26 : decode cX6_renamedNumber 26 = .ok (.getfield 20, 3) := by decide +kernel
theorem dX6_renamedNumber_29 : decode cX6_renamedNumber 29 = .ok (.imul, 1) := by decide +kernel
theorem dX6_renamedNumber_30 : decode cX6_renamedNumber 30 = .ok (.aload_n 0, 1) := by decide +kernel
theorem dX6_renamedNumber_31 : decode cX6_renamedNumber 31 = .ok (.iload_n 1, 1) := by decide +kernel
theorem dX6_renamedNumber_32 : decode cX6_renamedNumber 32 = .ok (.iload_n 3, 1) := by decide +kernel
theorem dX6_renamedNumber_33 : decode cX6_renamedNumber 33 = .ok (.iload 4, 2) := by decide +kernel
theorem dX6_renamedNumber_35 : decode cX6_renamedNumber 35 = .ok (.invokevirtual 34, 3) := by decide +kernel
theorem dX6_renamedNumber_38 : decode cX6_renamedNumber 38 = .ok (.iadd, 1) := by decide +kernel
theorem dX6_renamedNumber_39 : decode cX6_renamedNumber 39 = .ok (.istore_n 2, 1) := by decide +kernel
theorem dX6_renamedNumber_40 : decode cX6_renamedNumber 40 = .ok (.iinc 4 1, 3) := by decide +kernel
theorem dX6_renamedNumber_43 : decode cX6_renamedNumber 43 = .ok (.goto (-28), 3) := by decide +kernel
theorem dX6_renamedNumber_46 : decode cX6_renamedNumber 46 = .ok (.iinc 3 1, 3) := by decide +kernel
theorem dX6_renamedNumber_49 : decode cX6_renamedNumber 49 = .ok (.goto (-45), 3) := by decide +kernel
theorem dX6_renamedNumber_52 : decode cX6_renamedNumber 52 = .ok (.iload_n 2, 1) := by decide +kernel
theorem dX6_renamedNumber_53 : decode cX6_renamedNumber 53 = .ok (.ireturn, 1) := by decide +kernel
theorem dX6_leastNumber_0 : decode cX6_leastNumber 0 = .ok (.aload_n 0, 1) := by decide +kernel
theorem dX6_leastNumber_1 : decode cX6_leastNumber 1 = .ok (.iconst 0, 1) := by decide +kernel
theorem dX6_leastNumber_2 : decode cX6_leastNumber 2 = .ok (.invokevirtual 38, 3) := by decide +kernel
theorem dX6_leastNumber_5 : decode cX6_leastNumber 5 = .ok (.istore_n 1, 1) := by decide +kernel
theorem dX6_leastNumber_6 : decode cX6_leastNumber 6 = .ok (.iconst 1, 1) := by decide +kernel
theorem dX6_leastNumber_7 : decode cX6_leastNumber 7 = .ok (.istore_n 2, 1) := by decide +kernel
theorem dX6_leastNumber_8 : decode cX6_leastNumber 8 = .ok (.iload_n 2, 1) := by decide +kernel
theorem dX6_leastNumber_9 : decode cX6_leastNumber 9 = .ok (.getstatic 42, 3) := by decide +kernel
theorem dX6_leastNumber_12 : decode cX6_leastNumber 12 = .ok (.aload_n 0, 1) := by decide +kernel
theorem dX6_leastNumber_13 : decode cX6_leastNumber 13 = .ok (.getfield 20, 3) := by decide +kernel
theorem dX6_leastNumber_16 : decode cX6_leastNumber 16 = .ok (.iaload, 1) := by decide +kernel
theorem dX6_leastNumber_17 : decode cX6_leastNumber 17 = .ok (.if_icmp .ge 19, 3) := by decide +kernel
theorem dX6_leastNumber_20 : decode cX6_leastNumber 20 = .ok (.iload_n 1, 1) := by decide +kernel
theorem dX6_leastNumber_21 : decode cX6_leastNumber 21 = .ok (.aload_n 0, 1) := by decide +kernel
theorem dX6_leastNumber_22 : decode cX6_leastNumber 22 = .ok (.iload_n 2, 1) := by decide +kernel
theorem dX6_leastNumber_23 : decode cX6_leastNumber 23 = .ok (.invokevirtual 38, 3) := by decide +kernel
theorem dX6_leastNumber_26 : decode cX6_leastNumber 26 = .ok (.invokestatic 45, 3) := by decide +kernel
theorem dX6_leastNumber_29 : decode cX6_leastNumber 29 = .ok (.istore_n 1, 1) := by decide +kernel
theorem dX6_leastNumber_30 : decode cX6_leastNumber 30 = .ok (.iinc 2 1, 3) := by decide +kernel
theorem dX6_leastNumber_33 : decode cX6_leastNumber 33 = .ok (.goto (-25), 3) := by decide +kernel
theorem dX6_leastNumber_36 : decode cX6_leastNumber 36 = .ok (.iload_n 1, 1) := by decide +kernel
theorem dX6_leastNumber_37 : decode cX6_leastNumber 37 = .ok (.ireturn, 1) := by decide +kernel
theorem dX6_likesIfLeast_0 : decode cX6_likesIfLeast 0 = .ok (.iconst 1, 1) := by decide +kernel
theorem dX6_likesIfLeast_1 : decode cX6_likesIfLeast 1 = .ok (.istore_n 1, 1) := by decide +kernel
theorem dX6_likesIfLeast_2 : decode cX6_likesIfLeast 2 = .ok (.iconst 1, 1) := by decide +kernel
theorem dX6_likesIfLeast_3 : decode cX6_likesIfLeast 3 = .ok (.istore_n 2, 1) := by decide +kernel
theorem dX6_likesIfLeast_4 : decode cX6_likesIfLeast 4 = .ok (.iload_n 2, 1) := by decide +kernel
theorem dX6_likesIfLeast_5 : decode cX6_likesIfLeast 5 = .ok (.getstatic 42, 3) := by decide +kernel
theorem dX6_likesIfLeast_8 : decode cX6_likesIfLeast 8 = .ok (.aload_n 0, 1) := by decide +kernel
theorem dX6_likesIfLeast_9 : decode cX6_likesIfLeast 9 = .ok (.getfield 20, 3) := by decide +kernel
theorem dX6_likesIfLeast_12 : decode cX6_likesIfLeast 12 = .ok (.iaload, 1) := by decide +kernel
theorem dX6_likesIfLeast_13 : decode cX6_likesIfLeast 13 = .ok (.if_icmp .ge 28, 3) := by decide +kernel
theorem dX6_likesIfLeast_16 : decode cX6_likesIfLeast 16 = .ok (.aload_n 0, 1) := by decide +kernel
theorem dX6_likesIfLeast_17 : decode cX6_likesIfLeast 17 = .ok (.iload_n 2, 1) := by decide +kernel
theorem dX6_likesIfLeast_18 : decode cX6_likesIfLeast 18 = .ok (.invokevirtual 51, 3) := by decide +kernel
theorem dX6_likesIfLeast_21 : decode cX6_likesIfLeast 21 = .ok (.istore_n 3, 1) := by decide +kernel
theorem dX6_likesIfLeast_22 : decode cX6_likesIfLeast 22 = .ok (.iload_n 3, 1) := by decide +kernel
theorem dX6_likesIfLeast_23 : decode cX6_likesIfLeast 23 = .ok (.ifCond .ge 5, 3) := by decide +kernel
theorem dX6_likesIfLeast_26 : decode cX6_likesIfLeast 26 = .ok (.iconst 0, 1) := by decide +kernel
theorem dX6_likesIfLeast_27 : decode cX6_likesIfLeast 27 = .ok (.ireturn, 1) := by decide +kernel
theorem dX6_likesIfLeast_28 : decode cX6_likesIfLeast 28 = .ok (.iload_n 3, 1) := by decide +kernel
theorem dX6_likesIfLeast_29 : decode cX6_likesIfLeast 29 = .ok (.ifCond .ne 6, 3) := by decide +kernel
theorem dX6_likesIfLeast_32 : decode cX6_likesIfLeast 32 = .ok (.iinc 1 1, 3) := by decide +kernel
theorem dX6_likesIfLeast_35 : decode cX6_likesIfLeast 35 = .ok (.iinc 2 1, 3) := by decide +kernel
theorem dX6_likesIfLeast_38 : decode cX6_likesIfLeast 38 = .ok (.goto (-34), 3) := by decide +kernel
theorem dX6_likesIfLeast_41 : decode cX6_likesIfLeast 41 = .ok (.getstatic 42, 3) := by decide +kernel
theorem dX6_likesIfLeast_44 : decode cX6_likesIfLeast 44 = .ok (.aload_n 0, 1) := by decide +kernel
theorem dX6_likesIfLeast_45 : decode cX6_likesIfLeast 45 = .ok (.getfield 20, 3) := by decide +kernel
theorem dX6_likesIfLeast_48 : decode cX6_likesIfLeast 48 = .ok (.iaload, 1) := by decide +kernel
theorem dX6_likesIfLeast_49 : decode cX6_likesIfLeast 49 = .ok (.iload_n 1, 1) := by decide +kernel
theorem dX6_likesIfLeast_50 : decode cX6_likesIfLeast 50 = .ok (.idiv, 1) := by decide +kernel
theorem dX6_likesIfLeast_51 : decode cX6_likesIfLeast 51 = .ok (.ireturn, 1) := by decide +kernel
theorem dX6_thingsFor_0 : decode cX6_thingsFor 0 = .ok (.iload_n 2, 1) := by decide +kernel
theorem dX6_thingsFor_1 : decode cX6_thingsFor 1 = .ok (.iload_n 1, 1) := by decide +kernel
theorem dX6_thingsFor_2 : decode cX6_thingsFor 2 = .ok (.ishr, 1) := by decide +kernel
theorem dX6_thingsFor_3 : decode cX6_thingsFor 3 = .ok (.iconst 1, 1) := by decide +kernel
theorem dX6_thingsFor_4 : decode cX6_thingsFor 4 = .ok (.iand, 1) := by decide +kernel
theorem dX6_thingsFor_5 : decode cX6_thingsFor 5 = .ok (.ifCond .eq 10, 3) := by decide +kernel
theorem dX6_thingsFor_8 : decode cX6_thingsFor 8 = .ok (.aload_n 0, 1) := by decide +kernel
theorem dX6_thingsFor_9 : decode cX6_thingsFor 9 = .ok (.getfield 20, 3) := by decide +kernel
theorem dX6_thingsFor_12 : decode cX6_thingsFor 12 = .ok (.goto 4, 3) := by decide +kernel
theorem dX6_thingsFor_15 : decode cX6_thingsFor 15 = .ok (.iconst 1, 1) := by decide +kernel
theorem dX6_thingsFor_16 : decode cX6_thingsFor 16 = .ok (.ireturn, 1) := by decide +kernel
theorem dX6_alikeForZ_0 : decode cX6_alikeForZ 0 = .ok (.aload_n 1, 1) := by decide +kernel
theorem dX6_alikeForZ_1 : decode cX6_alikeForZ 1 = .ok (.getfield 54, 3) := by decide +kernel
theorem dX6_alikeForZ_4 : decode cX6_alikeForZ 4 = .ok (.iload_n 2, 1) := by decide +kernel
theorem dX6_alikeForZ_5 : decode cX6_alikeForZ 5 = .ok (.iaload, 1) := by decide +kernel
theorem dX6_alikeForZ_6 : decode cX6_alikeForZ 6 = .ok (.aload_n 1, 1) := by decide +kernel
theorem dX6_alikeForZ_7 : decode cX6_alikeForZ 7 = .ok (.getfield 54, 3) := by decide +kernel
theorem dX6_alikeForZ_10 : decode cX6_alikeForZ 10 = .ok (.iload_n 3, 1) := by decide +kernel
theorem dX6_alikeForZ_11 : decode cX6_alikeForZ 11 = .ok (.iaload, 1) := by decide +kernel
theorem dX6_alikeForZ_12 : decode cX6_alikeForZ 12 = .ok (.ior, 1) := by decide +kernel
theorem dX6_alikeForZ_13 : decode cX6_alikeForZ 13 = .ok (.istore 7, 2) := by decide +kernel
theorem dX6_alikeForZ_15 : decode cX6_alikeForZ 15 = .ok (.iconst 0, 1) := by decide +kernel
theorem dX6_alikeForZ_16 : decode cX6_alikeForZ 16 = .ok (.istore 8, 2) := by decide +kernel
theorem dX6_alikeForZ_18 : decode cX6_alikeForZ 18 = .ok (.iload 8, 2) := by decide +kernel
theorem dX6_alikeForZ_20 : decode cX6_alikeForZ 20 = .ok (.iload 6, 2) := by decide +kernel
theorem dX6_alikeForZ_22 : decode cX6_alikeForZ 22 = .ok (.if_icmp .ge 123, 3) := by decide +kernel
theorem dX6_alikeForZ_25 : decode cX6_alikeForZ 25 = .ok (.aload_n 0, 1) := by decide +kernel
theorem dX6_alikeForZ_26 : decode cX6_alikeForZ 26 = .ok (.getfield 17, 3) := by decide +kernel
theorem dX6_alikeForZ_29 : decode cX6_alikeForZ 29 = .ok (.iconst 0, 1) := by decide +kernel
theorem dX6_alikeForZ_30 : decode cX6_alikeForZ 30 = .ok (.iload 4, 2) := by decide +kernel
theorem dX6_alikeForZ_32 : decode cX6_alikeForZ 32 = .ok (.iastore, 1) := by decide +kernel
theorem dX6_alikeForZ_33 : decode cX6_alikeForZ 33 = .ok (.aload_n 0, 1) := by decide +kernel
theorem dX6_alikeForZ_34 : decode cX6_alikeForZ 34 = .ok (.getfield 17, 3) := by decide +kernel
theorem dX6_alikeForZ_37 : decode cX6_alikeForZ 37 = .ok (.iconst 1, 1) := by decide +kernel
theorem dX6_alikeForZ_38 : decode cX6_alikeForZ 38 = .ok (.iload 5, 2) := by decide +kernel
theorem dX6_alikeForZ_40 : decode cX6_alikeForZ 40 = .ok (.iastore, 1) := by decide +kernel
theorem dX6_alikeForZ_41 : decode cX6_alikeForZ 41 = .ok (.aload_n 0, 1) := by decide +kernel
theorem dX6_alikeForZ_42 : decode cX6_alikeForZ 42 = .ok (.getfield 17, 3) := by decide +kernel
theorem dX6_alikeForZ_45 : decode cX6_alikeForZ 45 = .ok (.iconst 2, 1) := by decide +kernel
theorem dX6_alikeForZ_46 : decode cX6_alikeForZ 46 = .ok (.iload 8, 2) := by decide +kernel
theorem dX6_alikeForZ_48 : decode cX6_alikeForZ 48 = .ok (.iastore, 1) := by decide +kernel
theorem dX6_alikeForZ_49 : decode cX6_alikeForZ 49 = .ok (.iconst 3, 1) := by decide +kernel
theorem dX6_alikeForZ_50 : decode cX6_alikeForZ 50 = .ok (.istore 9, 2) := by decide +kernel
theorem dX6_alikeForZ_52 : decode cX6_alikeForZ 52 = .ok (.iload 9, 2) := by decide +kernel
theorem dX6_alikeForZ_54 : decode cX6_alikeForZ 54 = .ok (.iload_n 2, 1) := by decide +kernel
theorem dX6_alikeForZ_55 : decode cX6_alikeForZ 55 = .ok (.if_icmp .le 9, 3) := by decide +kernel
theorem dX6_alikeForZ_58 : decode cX6_alikeForZ 58 = .ok (.iload 9, 2) := by decide +kernel
theorem dX6_alikeForZ_60 : decode cX6_alikeForZ 60 = .ok (.iload_n 3, 1) := by decide +kernel
theorem dX6_alikeForZ_61 : decode cX6_alikeForZ 61 = .ok (.if_icmp .gt 61, 3) := by decide +kernel
theorem dX6_alikeForZ_64 : decode cX6_alikeForZ 64 = .ok (.iload 7, 2) := by decide +kernel
theorem dX6_alikeForZ_66 : decode cX6_alikeForZ 66 = .ok (.iload 9, 2) := by decide +kernel
theorem dX6_alikeForZ_68 : decode cX6_alikeForZ 68 = .ok (.ishr, 1) := by decide +kernel
theorem dX6_alikeForZ_69 : decode cX6_alikeForZ 69 = .ok (.iconst 1, 1) := by decide +kernel
theorem dX6_alikeForZ_70 : decode cX6_alikeForZ 70 = .ok (.iand, 1) := by decide +kernel
theorem dX6_alikeForZ_71 : decode cX6_alikeForZ 71 = .ok (.ifCond .eq 45, 3) := by decide +kernel
theorem dX6_alikeForZ_74 : decode cX6_alikeForZ 74 = .ok (.aload_n 0, 1) := by decide +kernel
theorem dX6_alikeForZ_75 : decode cX6_alikeForZ 75 = .ok (.getfield 17, 3) := by decide +kernel
theorem dX6_alikeForZ_78 : decode cX6_alikeForZ 78 = .ok (.iload 9, 2) := by decide +kernel
theorem dX6_alikeForZ_80 : decode cX6_alikeForZ 80 = .ok (.aload_n 0, 1) := by decide +kernel
theorem dX6_alikeForZ_81 : decode cX6_alikeForZ 81 = .ok (.getfield 9, 3) := by decide +kernel
theorem dX6_alikeForZ_84 : decode cX6_alikeForZ 84 = .ok (.aload_n 0, 1) := by decide +kernel
theorem dX6_alikeForZ_85 : decode cX6_alikeForZ 85 = .ok (.getfield 17, 3) := by decide +kernel
theorem dX6_alikeForZ_88 : decode cX6_alikeForZ 88 = .ok (.aload_n 1, 1) := by decide +kernel
theorem dX6_alikeForZ_89 : decode cX6_alikeForZ 89 = .ok (.getfield 57, 3) := by decide +kernel
theorem dX6_alikeForZ_92 : decode cX6_alikeForZ 92 = .ok (.iload 9, 2) := by decide +kernel
theorem dX6_alikeForZ_94 : decode cX6_alikeForZ 94 = .ok (.iaload, 1) := by decide +kernel
theorem dX6_alikeForZ_95 : decode cX6_alikeForZ 95 = .ok (.iaload, 1) := by decide +kernel
theorem dX6_alikeForZ_96 : decode cX6_alikeForZ 96 = .ok (.aload_n 0, 1) := by decide +kernel
theorem dX6_alikeForZ_97 : decode cX6_alikeForZ 97 = .ok (.getfield 20, 3) := by decide +kernel
theorem dX6_alikeForZ_100 : decode cX6_alikeForZ 100 = .ok (.imul, 1) := by decide +kernel
theorem dX6_alikeForZ_101 : decode cX6_alikeForZ 101 = .ok (.aload_n 0, 1) := by decide +kernel
theorem dX6_alikeForZ_102 : decode cX6_alikeForZ 102 = .ok (.getfield 17, 3) := by decide +kernel
theorem dX6_alikeForZ_105 : decode cX6_alikeForZ 105 = .ok (.aload_n 1, 1) := by decide +kernel
theorem dX6_alikeForZ_106 : decode cX6_alikeForZ 106 = .ok (.getfield 60, 3) := by decide +kernel
theorem dX6_alikeForZ_109 : decode cX6_alikeForZ 109 = .ok (.iload 9, 2) := by decide +kernel
theorem dX6_alikeForZ_111 : decode cX6_alikeForZ 111 = .ok (.iaload, 1) := by decide +kernel
theorem dX6_alikeForZ_112 : decode cX6_alikeForZ 112 = .ok (.iaload, 1) := by decide +kernel
theorem dX6_alikeForZ_113 : decode cX6_alikeForZ 113 = .ok (.iadd, 1) := by decide +kernel
theorem dX6_alikeForZ_114 : decode cX6_alikeForZ 114 = .ok (.iaload, 1) := by decide +kernel
theorem dX6_alikeForZ_115 : decode cX6_alikeForZ 115 = .ok (.iastore, 1) := by decide +kernel
theorem dX6_alikeForZ_116 : decode cX6_alikeForZ 116 = .ok (.iinc 9 1, 3) := by decide +kernel
theorem dX6_alikeForZ_119 : decode cX6_alikeForZ 119 = .ok (.goto (-67), 3) := by decide +kernel
theorem dX6_alikeForZ_122 : decode cX6_alikeForZ 122 = .ok (.aload_n 0, 1) := by decide +kernel
theorem dX6_alikeForZ_123 : decode cX6_alikeForZ 123 = .ok (.getfield 17, 3) := by decide +kernel
theorem dX6_alikeForZ_126 : decode cX6_alikeForZ 126 = .ok (.iload_n 2, 1) := by decide +kernel
theorem dX6_alikeForZ_127 : decode cX6_alikeForZ 127 = .ok (.iaload, 1) := by decide +kernel
theorem dX6_alikeForZ_128 : decode cX6_alikeForZ 128 = .ok (.aload_n 0, 1) := by decide +kernel
theorem dX6_alikeForZ_129 : decode cX6_alikeForZ 129 = .ok (.getfield 17, 3) := by decide +kernel
theorem dX6_alikeForZ_132 : decode cX6_alikeForZ 132 = .ok (.iload_n 3, 1) := by decide +kernel
theorem dX6_alikeForZ_133 : decode cX6_alikeForZ 133 = .ok (.iaload, 1) := by decide +kernel
theorem dX6_alikeForZ_134 : decode cX6_alikeForZ 134 = .ok (.if_icmp .eq 5, 3) := by decide +kernel
theorem dX6_alikeForZ_137 : decode cX6_alikeForZ 137 = .ok (.iconst 0, 1) := by decide +kernel
theorem dX6_alikeForZ_138 : decode cX6_alikeForZ 138 = .ok (.ireturn, 1) := by decide +kernel
theorem dX6_alikeForZ_139 : decode cX6_alikeForZ 139 = .ok (.iinc 8 1, 3) := by decide +kernel
theorem dX6_alikeForZ_142 : decode cX6_alikeForZ 142 = .ok (.goto (-124), 3) := by decide +kernel
theorem dX6_alikeForZ_145 : decode cX6_alikeForZ 145 = .ok (.iconst 1, 1) := by decide +kernel
theorem dX6_alikeForZ_146 : decode cX6_alikeForZ 146 = .ok (.ireturn, 1) := by decide +kernel
theorem dX6_keepsLaw_0 : decode cX6_keepsLaw 0 = .ok (.iload_n 2, 1) := by decide +kernel
theorem dX6_keepsLaw_1 : decode cX6_keepsLaw 1 = .ok (.iload_n 3, 1) := by decide +kernel
theorem dX6_keepsLaw_2 : decode cX6_keepsLaw 2 = .ok (.if_icmp .ne 5, 3) := by decide +kernel
theorem dX6_keepsLaw_5 : decode cX6_keepsLaw 5 = .ok (.iconst 1, 1) := by decide +kernel
theorem dX6_keepsLaw_6 : decode cX6_keepsLaw 6 = .ok (.ireturn, 1) := by decide +kernel
theorem dX6_keepsLaw_7 : decode cX6_keepsLaw 7 = .ok (.aload_n 1, 1) := by decide +kernel
theorem dX6_keepsLaw_8 : decode cX6_keepsLaw 8 = .ok (.getfield 54, 3) := by decide +kernel
theorem dX6_keepsLaw_11 : decode cX6_keepsLaw 11 = .ok (.iload_n 2, 1) := by decide +kernel
theorem dX6_keepsLaw_12 : decode cX6_keepsLaw 12 = .ok (.iaload, 1) := by decide +kernel
theorem dX6_keepsLaw_13 : decode cX6_keepsLaw 13 = .ok (.aload_n 1, 1) := by decide +kernel
theorem dX6_keepsLaw_14 : decode cX6_keepsLaw 14 = .ok (.getfield 54, 3) := by decide +kernel
theorem dX6_keepsLaw_17 : decode cX6_keepsLaw 17 = .ok (.iload_n 3, 1) := by decide +kernel
theorem dX6_keepsLaw_18 : decode cX6_keepsLaw 18 = .ok (.iaload, 1) := by decide +kernel
theorem dX6_keepsLaw_19 : decode cX6_keepsLaw 19 = .ok (.ior, 1) := by decide +kernel
theorem dX6_keepsLaw_20 : decode cX6_keepsLaw 20 = .ok (.istore 4, 2) := by decide +kernel
theorem dX6_keepsLaw_22 : decode cX6_keepsLaw 22 = .ok (.aload_n 0, 1) := by decide +kernel
theorem dX6_keepsLaw_23 : decode cX6_keepsLaw 23 = .ok (.iconst 0, 1) := by decide +kernel
theorem dX6_keepsLaw_24 : decode cX6_keepsLaw 24 = .ok (.iload 4, 2) := by decide +kernel
theorem dX6_keepsLaw_26 : decode cX6_keepsLaw 26 = .ok (.invokevirtual 63, 3) := by decide +kernel
theorem dX6_keepsLaw_29 : decode cX6_keepsLaw 29 = .ok (.istore 5, 2) := by decide +kernel
theorem dX6_keepsLaw_31 : decode cX6_keepsLaw 31 = .ok (.aload_n 0, 1) := by decide +kernel
theorem dX6_keepsLaw_32 : decode cX6_keepsLaw 32 = .ok (.iconst 1, 1) := by decide +kernel
theorem dX6_keepsLaw_33 : decode cX6_keepsLaw 33 = .ok (.iload 4, 2) := by decide +kernel
theorem dX6_keepsLaw_35 : decode cX6_keepsLaw 35 = .ok (.invokevirtual 63, 3) := by decide +kernel
theorem dX6_keepsLaw_38 : decode cX6_keepsLaw 38 = .ok (.istore 6, 2) := by decide +kernel
theorem dX6_keepsLaw_40 : decode cX6_keepsLaw 40 = .ok (.aload_n 0, 1) := by decide +kernel
theorem dX6_keepsLaw_41 : decode cX6_keepsLaw 41 = .ok (.iconst 2, 1) := by decide +kernel
theorem dX6_keepsLaw_42 : decode cX6_keepsLaw 42 = .ok (.iload 4, 2) := by decide +kernel
theorem dX6_keepsLaw_44 : decode cX6_keepsLaw 44 = .ok (.invokevirtual 63, 3) := by decide +kernel
theorem dX6_keepsLaw_47 : decode cX6_keepsLaw 47 = .ok (.istore 7, 2) := by decide +kernel
theorem dX6_keepsLaw_49 : decode cX6_keepsLaw 49 = .ok (.iconst 0, 1) := by decide +kernel
theorem dX6_keepsLaw_50 : decode cX6_keepsLaw 50 = .ok (.istore 8, 2) := by decide +kernel
theorem dX6_keepsLaw_52 : decode cX6_keepsLaw 52 = .ok (.iload 8, 2) := by decide +kernel
theorem dX6_keepsLaw_54 : decode cX6_keepsLaw 54 = .ok (.iload 5, 2) := by decide +kernel
theorem dX6_keepsLaw_56 : decode cX6_keepsLaw 56 = .ok (.if_icmp .ge 43, 3) := by decide +kernel
theorem dX6_keepsLaw_59 : decode cX6_keepsLaw 59 = .ok (.iconst 0, 1) := by decide +kernel
theorem dX6_keepsLaw_60 : decode cX6_keepsLaw 60 = .ok (.istore 9, 2) := by decide +kernel
theorem dX6_keepsLaw_62 : decode cX6_keepsLaw 62 = .ok (.iload 9, 2) := by decide +kernel
theorem dX6_keepsLaw_64 : decode cX6_keepsLaw 64 = .ok (.iload 6, 2) := by decide +kernel
theorem dX6_keepsLaw_66 : decode cX6_keepsLaw 66 = .ok (.if_icmp .ge 27, 3) := by decide +kernel
theorem dX6_keepsLaw_69 : decode cX6_keepsLaw 69 = .ok (.aload_n 0, 1) := by decide +kernel
theorem dX6_keepsLaw_70 : decode cX6_keepsLaw 70 = .ok (.aload_n 1, 1) := by decide +kernel
theorem dX6_keepsLaw_71 : decode cX6_keepsLaw 71 = .ok (.iload_n 2, 1) := by decide +kernel
theorem dX6_keepsLaw_72 : decode cX6_keepsLaw 72 = .ok (.iload_n 3, 1) := by decide +kernel
theorem dX6_keepsLaw_73 : decode cX6_keepsLaw 73 = .ok (.iload 8, 2) := by decide +kernel
theorem dX6_keepsLaw_75 : decode cX6_keepsLaw 75 = .ok (.iload 9, 2) := by decide +kernel
theorem dX6_keepsLaw_77 : decode cX6_keepsLaw 77 = .ok (.iload 7, 2) := by decide +kernel
theorem dX6_keepsLaw_79 : decode cX6_keepsLaw 79 = .ok (.invokevirtual 66, 3) := by decide +kernel
theorem dX6_keepsLaw_82 : decode cX6_keepsLaw 82 = .ok (.ifCond .ne 5, 3) := by decide +kernel
theorem dX6_keepsLaw_85 : decode cX6_keepsLaw 85 = .ok (.iconst 0, 1) := by decide +kernel
theorem dX6_keepsLaw_86 : decode cX6_keepsLaw 86 = .ok (.ireturn, 1) := by decide +kernel
theorem dX6_keepsLaw_87 : decode cX6_keepsLaw 87 = .ok (.iinc 9 1, 3) := by decide +kernel
theorem dX6_keepsLaw_90 : decode cX6_keepsLaw 90 = .ok (.goto (-28), 3) := by decide +kernel
theorem dX6_keepsLaw_93 : decode cX6_keepsLaw 93 = .ok (.iinc 8 1, 3) := by decide +kernel
theorem dX6_keepsLaw_96 : decode cX6_keepsLaw 96 = .ok (.goto (-44), 3) := by decide +kernel
theorem dX6_keepsLaw_99 : decode cX6_keepsLaw 99 = .ok (.iconst 1, 1) := by decide +kernel
theorem dX6_keepsLaw_100 : decode cX6_keepsLaw 100 = .ok (.ireturn, 1) := by decide +kernel
theorem dX6_pairsAlike_0 : decode cX6_pairsAlike 0 = .ok (.aload_n 0, 1) := by decide +kernel
theorem dX6_pairsAlike_1 : decode cX6_pairsAlike 1 = .ok (.iconst 2, 1) := by decide +kernel
theorem dX6_pairsAlike_2 : decode cX6_pairsAlike 2 = .ok (.aload_n 1, 1) := by decide +kernel
theorem dX6_pairsAlike_3 : decode cX6_pairsAlike 3 = .ok (.getfield 54, 3) := by decide +kernel
theorem dX6_pairsAlike_6 : decode cX6_pairsAlike 6 = .ok (.iload_n 2, 1) := by decide +kernel
theorem dX6_pairsAlike_7 : decode cX6_pairsAlike 7 = .ok (.iaload, 1) := by decide +kernel
theorem dX6_pairsAlike_8 : decode cX6_pairsAlike 8 = .ok (.aload_n 1, 1) := by decide +kernel
theorem dX6_pairsAlike_9 : decode cX6_pairsAlike 9 = .ok (.getfield 54, 3) := by decide +kernel
theorem dX6_pairsAlike_12 : decode cX6_pairsAlike 12 = .ok (.iload_n 3, 1) := by decide +kernel
theorem dX6_pairsAlike_13 : decode cX6_pairsAlike 13 = .ok (.iaload, 1) := by decide +kernel
theorem dX6_pairsAlike_14 : decode cX6_pairsAlike 14 = .ok (.ior, 1) := by decide +kernel
theorem dX6_pairsAlike_15 : decode cX6_pairsAlike 15 = .ok (.invokevirtual 63, 3) := by decide +kernel
theorem dX6_pairsAlike_18 : decode cX6_pairsAlike 18 = .ok (.istore 4, 2) := by decide +kernel
theorem dX6_pairsAlike_20 : decode cX6_pairsAlike 20 = .ok (.iconst 0, 1) := by decide +kernel
theorem dX6_pairsAlike_21 : decode cX6_pairsAlike 21 = .ok (.istore 5, 2) := by decide +kernel
theorem dX6_pairsAlike_23 : decode cX6_pairsAlike 23 = .ok (.iconst 0, 1) := by decide +kernel
theorem dX6_pairsAlike_24 : decode cX6_pairsAlike 24 = .ok (.istore 6, 2) := by decide +kernel
theorem dX6_pairsAlike_26 : decode cX6_pairsAlike 26 = .ok (.iload 6, 2) := by decide +kernel
theorem dX6_pairsAlike_28 : decode cX6_pairsAlike 28 = .ok (.aload_n 0, 1) := by decide +kernel
theorem dX6_pairsAlike_29 : decode cX6_pairsAlike 29 = .ok (.getfield 20, 3) := by decide +kernel
theorem dX6_pairsAlike_32 : decode cX6_pairsAlike 32 = .ok (.if_icmp .ge 60, 3) := by decide +kernel
theorem dX6_pairsAlike_35 : decode cX6_pairsAlike 35 = .ok (.iconst 0, 1) := by decide +kernel
theorem dX6_pairsAlike_36 : decode cX6_pairsAlike 36 = .ok (.istore 7, 2) := by decide +kernel
theorem dX6_pairsAlike_38 : decode cX6_pairsAlike 38 = .ok (.iload 7, 2) := by decide +kernel
theorem dX6_pairsAlike_40 : decode cX6_pairsAlike 40 = .ok (.aload_n 0, 1) := by decide +kernel
theorem dX6_pairsAlike_41 : decode cX6_pairsAlike 41 = .ok (.getfield 20, 3) := by decide +kernel
theorem dX6_pairsAlike_44 : decode cX6_pairsAlike 44 = .ok (.if_icmp .ge 42, 3) := by decide +kernel
theorem dX6_pairsAlike_47 : decode cX6_pairsAlike 47 = .ok (.aload_n 0, 1) := by decide +kernel
theorem dX6_pairsAlike_48 : decode cX6_pairsAlike 48 = .ok (.aload_n 1, 1) := by decide +kernel
theorem dX6_pairsAlike_49 : decode cX6_pairsAlike 49 = .ok (.iload_n 2, 1) := by decide +kernel
theorem dX6_pairsAlike_50 : decode cX6_pairsAlike 50 = .ok (.iload_n 3, 1) := by decide +kernel
theorem dX6_pairsAlike_51 : decode cX6_pairsAlike 51 = .ok (.iload 6, 2) := by decide +kernel
theorem dX6_pairsAlike_53 : decode cX6_pairsAlike 53 = .ok (.iload 7, 2) := by decide +kernel
theorem dX6_pairsAlike_55 : decode cX6_pairsAlike 55 = .ok (.iload 4, 2) := by decide +kernel
theorem dX6_pairsAlike_57 : decode cX6_pairsAlike 57 = .ok (.invokevirtual 66, 3) := by decide +kernel
theorem dX6_pairsAlike_60 : decode cX6_pairsAlike 60 = .ok (.ifCond .eq 20, 3) := by decide +kernel
theorem dX6_pairsAlike_63 : decode cX6_pairsAlike 63 = .ok (.iload 5, 2) := by decide +kernel
theorem dX6_pairsAlike_65 : decode cX6_pairsAlike 65 = .ok (.iconst 1, 1) := by decide +kernel
theorem dX6_pairsAlike_66 : decode cX6_pairsAlike 66 = .ok (.iload 6, 2) := by decide +kernel
theorem dX6_pairsAlike_68 : decode cX6_pairsAlike 68 = .ok (.aload_n 0, 1) := by decide +kernel
theorem dX6_pairsAlike_69 : decode cX6_pairsAlike 69 = .ok (.getfield 20, 3) := by decide +kernel
theorem dX6_pairsAlike_72 : decode cX6_pairsAlike 72 = .ok (.imul, 1) := by decide +kernel
theorem dX6_pairsAlike_73 : decode cX6_pairsAlike 73 = .ok (.iload 7, 2) := by decide +kernel
theorem dX6_pairsAlike_75 : decode cX6_pairsAlike 75 = .ok (.iadd, 1) := by decide +kernel
theorem dX6_pairsAlike_76 : decode cX6_pairsAlike 76 = .ok (.ishl, 1) := by decide +kernel
theorem dX6_pairsAlike_77 : decode cX6_pairsAlike 77 = .ok (.ior, 1) := by decide +kernel
theorem dX6_pairsAlike_78 : decode cX6_pairsAlike 78 = .ok (.istore 5, 2) := by decide +kernel
theorem dX6_pairsAlike_80 : decode cX6_pairsAlike 80 = .ok (.iinc 7 1, 3) := by decide +kernel
theorem dX6_pairsAlike_83 : decode cX6_pairsAlike 83 = .ok (.goto (-45), 3) := by decide +kernel
theorem dX6_pairsAlike_86 : decode cX6_pairsAlike 86 = .ok (.iinc 6 1, 3) := by decide +kernel
theorem dX6_pairsAlike_89 : decode cX6_pairsAlike 89 = .ok (.goto (-63), 3) := by decide +kernel
theorem dX6_pairsAlike_92 : decode cX6_pairsAlike 92 = .ok (.iload 5, 2) := by decide +kernel
theorem dX6_pairsAlike_94 : decode cX6_pairsAlike 94 = .ok (.ireturn, 1) := by decide +kernel
theorem dX7_init_0 : decode cX7_init 0 = .ok (.aload_n 0, 1) := by decide +kernel
theorem dX7_init_1 : decode cX7_init 1 = .ok (.invokespecial 3, 3) := by decide +kernel
theorem dX7_init_4 : decode cX7_init 4 = .ok (.aload_n 0, 1) := by decide +kernel
theorem dX7_init_5 : decode cX7_init 5 = .ok (.bipush 20, 2) := by decide +kernel
theorem dX7_init_7 : decode cX7_init 7 = .ok (.newarray .int, 2) := by decide +kernel
theorem dX7_init_9 : decode cX7_init 9 = .ok (.putfield 11, 3) := by decide +kernel
theorem dX7_init_12 : decode cX7_init 12 = .ok (.aload_n 0, 1) := by decide +kernel
theorem dX7_init_13 : decode cX7_init 13 = .ok (.bipush 20, 2) := by decide +kernel
theorem dX7_init_15 : decode cX7_init 15 = .ok (.newarray .int, 2) := by decide +kernel
theorem dX7_init_17 : decode cX7_init 17 = .ok (.putfield 15, 3) := by decide +kernel
theorem dX7_init_20 : decode cX7_init 20 = .ok (.aload_n 0, 1) := by decide +kernel
theorem dX7_init_21 : decode cX7_init 21 = .ok (.bipush 20, 2) := by decide +kernel
theorem dX7_init_23 : decode cX7_init 23 = .ok (.newarray .int, 2) := by decide +kernel
theorem dX7_init_25 : decode cX7_init 25 = .ok (.putfield 18, 3) := by decide +kernel
theorem dX7_init_28 : decode cX7_init 28 = .ok (.aload_n 0, 1) := by decide +kernel
theorem dX7_init_29 : decode cX7_init 29 = .ok (.iconst 3, 1) := by decide +kernel
theorem dX7_init_30 : decode cX7_init 30 = .ok (.putfield 21, 3) := by decide +kernel
theorem dX7_init_33 : decode cX7_init 33 = .ok (.iconst 0, 1) := by decide +kernel
theorem dX7_init_34 : decode cX7_init 34 = .ok (.istore_n 1, 1) := by decide +kernel
theorem dX7_init_35 : decode cX7_init 35 = .ok (.iload_n 1, 1) := by decide +kernel
theorem dX7_init_36 : decode cX7_init 36 = .ok (.iconst 3, 1) := by decide +kernel
theorem dX7_init_37 : decode cX7_init 37 = .ok (.if_icmp .ge 34, 3) := by decide +kernel
theorem dX7_init_40 : decode cX7_init 40 = .ok (.aload_n 0, 1) := by decide +kernel
theorem dX7_init_41 : decode cX7_init 41 = .ok (.getfield 11, 3) := by decide +kernel
theorem dX7_init_44 : decode cX7_init 44 = .ok (.iload_n 1, 1) := by decide +kernel
theorem dX7_init_45 : decode cX7_init 45 = .ok (.bipush (-9), 2) := by decide +kernel
theorem dX7_init_47 : decode cX7_init 47 = .ok (.iastore, 1) := by decide +kernel
theorem dX7_init_48 : decode cX7_init 48 = .ok (.aload_n 0, 1) := by decide +kernel
theorem dX7_init_49 : decode cX7_init 49 = .ok (.getfield 15, 3) := by decide +kernel
theorem dX7_init_52 : decode cX7_init 52 = .ok (.iload_n 1, 1) := by decide +kernel
theorem dX7_init_53 : decode cX7_init 53 = .ok (.bipush (-9), 2) := by decide +kernel
theorem dX7_init_55 : decode cX7_init 55 = .ok (.iastore, 1) := by decide +kernel
theorem dX7_init_56 : decode cX7_init 56 = .ok (.aload_n 0, 1) := by decide +kernel
theorem dX7_init_57 : decode cX7_init 57 = .ok (.getfield 18, 3) := by decide +kernel
theorem dX7_init_60 : decode cX7_init 60 = .ok (.iload_n 1, 1) := by decide +kernel
theorem dX7_init_61 : decode cX7_init 61 = .ok (.iconst 1, 1) := by decide +kernel
theorem dX7_init_62 : decode cX7_init 62 = .ok (.iload_n 1, 1) := by decide +kernel
theorem dX7_init_63 : decode cX7_init 63 = .ok (.ishl, 1) := by decide +kernel
theorem dX7_init_64 : decode cX7_init 64 = .ok (.iastore, 1) := by decide +kernel
theorem dX7_init_65 : decode cX7_init 65 = .ok (.iinc 1 1, 3) := by decide +kernel
theorem dX7_init_68 : decode cX7_init 68 = .ok (.goto (-33), 3) := by decide +kernel
theorem dX7_init_71 : decode cX7_init 71 = .ok (.return_, 1) := by decide +kernel
theorem dX7_has_0 : decode cX7_has 0 = .ok (.iload_n 1, 1) := by decide +kernel
theorem dX7_has_1 : decode cX7_has 1 = .ok (.ifCond .lt 15, 3) := by decide +kernel
theorem dX7_has_4 : decode cX7_has 4 = .ok (.iload_n 1, 1) := by decide +kernel
theorem dX7_has_5 : decode cX7_has 5 = .ok (.aload_n 0, 1) := by decide +kernel
theorem dX7_has_6 : decode cX7_has 6 = .ok (.getfield 21, 3) := by decide +kernel
theorem dX7_has_9 : decode cX7_has 9 = .ok (.if_icmp .ge 7, 3) := by decide +kernel
theorem dX7_has_12 : decode cX7_has 12 = .ok (.iconst 1, 1) := by decide +kernel
theorem dX7_has_13 : decode cX7_has 13 = .ok (.goto 4, 3) := by decide +kernel
theorem dX7_has_16 : decode cX7_has 16 = .ok (.iconst 0, 1) := by decide +kernel
theorem dX7_has_17 : decode cX7_has 17 = .ok (.ireturn, 1) := by decide +kernel
theorem dX7_find_0 : decode cX7_find 0 = .ok (.iconst 3, 1) := by decide +kernel
theorem dX7_find_1 : decode cX7_find 1 = .ok (.istore_n 3, 1) := by decide +kernel
theorem dX7_find_2 : decode cX7_find 2 = .ok (.iload_n 3, 1) := by decide +kernel
theorem dX7_find_3 : decode cX7_find 3 = .ok (.aload_n 0, 1) := by decide +kernel
theorem dX7_find_4 : decode cX7_find 4 = .ok (.getfield 21, 3) := by decide +kernel
theorem dX7_find_7 : decode cX7_find 7 = .ok (.if_icmp .ge 31, 3) := by decide +kernel
theorem dX7_find_10 : decode cX7_find 10 = .ok (.aload_n 0, 1) := by decide +kernel
theorem dX7_find_11 : decode cX7_find 11 = .ok (.getfield 11, 3) := by decide +kernel
theorem dX7_find_14 : decode cX7_find 14 = .ok (.iload_n 3, 1) := by decide +kernel
theorem dX7_find_15 : decode cX7_find 15 = .ok (.iaload, 1) := by decide +kernel
theorem dX7_find_16 : decode cX7_find 16 = .ok (.iload_n 1, 1) := by decide +kernel
theorem dX7_find_17 : decode cX7_find 17 = .ok (.if_icmp .ne 15, 3) := by decide +kernel
theorem dX7_find_20 : decode cX7_find 20 = .ok (.aload_n 0, 1) := by decide +kernel
theorem dX7_find_21 : decode cX7_find 21 = .ok (.getfield 15, 3) := by decide +kernel
theorem dX7_find_24 : decode cX7_find 24 = .ok (.iload_n 3, 1) := by decide +kernel
theorem dX7_find_25 : decode cX7_find 25 = .ok (.iaload, 1) := by decide +kernel
theorem dX7_find_26 : decode cX7_find 26 = .ok (.iload_n 2, 1) := by decide +kernel
theorem dX7_find_27 : decode cX7_find 27 = .ok (.if_icmp .ne 5, 3) := by decide +kernel
theorem dX7_find_30 : decode cX7_find 30 = .ok (.iload_n 3, 1) := by decide +kernel
theorem dX7_find_31 : decode cX7_find 31 = .ok (.ireturn, 1) := by decide +kernel
theorem dX7_find_32 : decode cX7_find 32 = .ok (.iinc 3 1, 3) := by decide +kernel
theorem dX7_find_35 : decode cX7_find 35 = .ok (.goto (-33), 3) := by decide +kernel
theorem dX7_find_38 : decode cX7_find 38 = .ok (.bipush (-9), 2) := by decide +kernel
theorem dX7_find_40 : decode cX7_find 40 = .ok (.ireturn, 1) := by decide +kernel
theorem dX7_add_0 : decode cX7_add 0 = .ok (.aload_n 0, 1) := by decide +kernel
theorem dX7_add_1 : decode cX7_add 1 = .ok (.getfield 21, 3) := by decide +kernel
theorem dX7_add_4 : decode cX7_add 4 = .ok (.bipush 20, 2) := by decide +kernel
theorem dX7_add_6 : decode cX7_add 6 = .ok (.if_icmp .lt 6, 3) := by decide +kernel
theorem dX7_add_9 : decode cX7_add 9 = .ok (.bipush (-4), 2) := by decide +kernel
theorem dX7_add_11 : decode cX7_add 11 = .ok (.ireturn, 1) := by decide +kernel
theorem dX7_add_12 : decode cX7_add 12 = .ok (.aload_n 0, 1) := by decide +kernel
theorem dX7_add_13 : decode cX7_add 13 = .ok (.dup, 1) := by decide +kernel
theorem dX7_add_14 : decode cX7_add 14 = .ok (.getfield 21, 3) := by decide +kernel
theorem dX7_add_17 : decode cX7_add 17 = .ok (.dup_x1, 1) := by decide +kernel
theorem dX7_add_18 : decode cX7_add 18 = .ok (.iconst 1, 1) := by decide +kernel
theorem dX7_add_19 : decode cX7_add 19 = .ok (.iadd, 1) := by decide +kernel
theorem dX7_add_20 : decode cX7_add 20 = .ok (.putfield 21, 3) := by decide +kernel
theorem dX7_add_23 : decode cX7_add 23 = .ok (.istore_n 3, 1) := by decide +kernel
theorem dX7_add_24 : decode cX7_add 24 = .ok (.aload_n 0, 1) := by decide +kernel
theorem dX7_add_25 : decode cX7_add 25 = .ok (.getfield 11, 3) := by decide +kernel
theorem dX7_add_28 : decode cX7_add 28 = .ok (.iload_n 3, 1) := by decide +kernel
theorem dX7_add_29 : decode cX7_add 29 = .ok (.iload_n 1, 1) := by decide +kernel
theorem dX7_add_30 : decode cX7_add 30 = .ok (.iastore, 1) := by decide +kernel
theorem dX7_add_31 : decode cX7_add 31 = .ok (.aload_n 0, 1) := by decide +kernel
theorem dX7_add_32 : decode cX7_add 32 = .ok (.getfield 15, 3) := by decide +kernel
theorem dX7_add_35 : decode cX7_add 35 = .ok (.iload_n 3, 1) := by decide +kernel
theorem dX7_add_36 : decode cX7_add 36 = .ok (.iload_n 2, 1) := by decide +kernel
theorem dX7_add_37 : decode cX7_add 37 = .ok (.iastore, 1) := by decide +kernel
theorem dX7_add_38 : decode cX7_add 38 = .ok (.aload_n 0, 1) := by decide +kernel
theorem dX7_add_39 : decode cX7_add 39 = .ok (.getfield 18, 3) := by decide +kernel
theorem dX7_add_42 : decode cX7_add 42 = .ok (.iload_n 3, 1) := by decide +kernel
theorem dX7_add_43 : decode cX7_add 43 = .ok (.iconst 1, 1) := by decide +kernel
theorem dX7_add_44 : decode cX7_add 44 = .ok (.iload_n 3, 1) := by decide +kernel
theorem dX7_add_45 : decode cX7_add 45 = .ok (.ishl, 1) := by decide +kernel
theorem dX7_add_46 : decode cX7_add 46 = .ok (.aload_n 0, 1) := by decide +kernel
theorem dX7_add_47 : decode cX7_add 47 = .ok (.getfield 18, 3) := by decide +kernel
theorem dX7_add_50 : decode cX7_add 50 = .ok (.iload_n 1, 1) := by decide +kernel
theorem dX7_add_51 : decode cX7_add 51 = .ok (.iaload, 1) := by decide +kernel
theorem dX7_add_52 : decode cX7_add 52 = .ok (.ior, 1) := by decide +kernel
theorem dX7_add_53 : decode cX7_add 53 = .ok (.aload_n 0, 1) := by decide +kernel
theorem dX7_add_54 : decode cX7_add 54 = .ok (.getfield 18, 3) := by decide +kernel
theorem dX7_add_57 : decode cX7_add 57 = .ok (.iload_n 2, 1) := by decide +kernel
theorem dX7_add_58 : decode cX7_add 58 = .ok (.iaload, 1) := by decide +kernel
theorem dX7_add_59 : decode cX7_add 59 = .ok (.ior, 1) := by decide +kernel
theorem dX7_add_60 : decode cX7_add 60 = .ok (.iastore, 1) := by decide +kernel
theorem dX7_add_61 : decode cX7_add 61 = .ok (.iload_n 3, 1) := by decide +kernel
theorem dX7_add_62 : decode cX7_add 62 = .ok (.ireturn, 1) := by decide +kernel
theorem dX8_init_0 : decode cX8_init 0 = .ok (.aload_n 0, 1) := by decide +kernel
theorem dX8_init_1 : decode cX8_init 1 = .ok (.invokespecial 1, 3) := by decide +kernel
theorem dX8_init_4 : decode cX8_init 4 = .ok (.aload_n 0, 1) := by decide +kernel
theorem dX8_init_5 : decode cX8_init 5 = .ok (.new 7, 3) := by decide +kernel
theorem dX8_init_8 : decode cX8_init 8 = .ok (.dup, 1) := by decide +kernel
theorem dX8_init_9 : decode cX8_init 9 = .ok (.invokespecial 9, 3) := by decide +kernel
theorem dX8_init_12 : decode cX8_init 12 = .ok (.putfield 10, 3) := by decide +kernel
theorem dX8_init_15 : decode cX8_init 15 = .ok (.aload_n 0, 1) := by decide +kernel
theorem dX8_init_16 : decode cX8_init 16 = .ok (.new 16, 3) := by decide +kernel
theorem dX8_init_19 : decode cX8_init 19 = .ok (.dup, 1) := by decide +kernel
theorem dX8_init_20 : decode cX8_init 20 = .ok (.invokespecial 18, 3) := by decide +kernel
theorem dX8_init_23 : decode cX8_init 23 = .ok (.putfield 19, 3) := by decide +kernel
theorem dX8_init_26 : decode cX8_init 26 = .ok (.aload_n 0, 1) := by decide +kernel
theorem dX8_init_27 : decode cX8_init 27 = .ok (.new 23, 3) := by decide +kernel
theorem dX8_init_30 : decode cX8_init 30 = .ok (.dup, 1) := by decide +kernel
theorem dX8_init_31 : decode cX8_init 31 = .ok (.invokespecial 25, 3) := by decide +kernel
theorem dX8_init_34 : decode cX8_init 34 = .ok (.putfield 26, 3) := by decide +kernel
theorem dX8_init_37 : decode cX8_init 37 = .ok (.aload_n 0, 1) := by decide +kernel
theorem dX8_init_38 : decode cX8_init 38 = .ok (.new 30, 3) := by decide +kernel
theorem dX8_init_41 : decode cX8_init 41 = .ok (.dup, 1) := by decide +kernel
theorem dX8_init_42 : decode cX8_init 42 = .ok (.aload_n 0, 1) := by decide +kernel
theorem dX8_init_43 : decode cX8_init 43 = .ok (.getfield 26, 3) := by decide +kernel
theorem dX8_init_46 : decode cX8_init 46 = .ok (.invokespecial 32, 3) := by decide +kernel
theorem dX8_init_49 : decode cX8_init 49 = .ok (.putfield 35, 3) := by decide +kernel
theorem dX8_init_52 : decode cX8_init 52 = .ok (.aload_n 0, 1) := by decide +kernel
theorem dX8_init_53 : decode cX8_init 53 = .ok (.new 39, 3) := by decide +kernel
theorem dX8_init_56 : decode cX8_init 56 = .ok (.dup, 1) := by decide +kernel
theorem dX8_init_57 : decode cX8_init 57 = .ok (.invokespecial 41, 3) := by decide +kernel
theorem dX8_init_60 : decode cX8_init 60 = .ok (.putfield 42, 3) := by decide +kernel
theorem dX8_init_63 : decode cX8_init 63 = .ok (.aload_n 0, 1) := by decide +kernel
theorem dX8_init_64 : decode cX8_init 64 = .ok (.new 46, 3) := by decide +kernel
theorem dX8_init_67 : decode cX8_init 67 = .ok (.dup, 1) := by decide +kernel
theorem dX8_init_68 : decode cX8_init 68 = .ok (.aload_n 0, 1) := by decide +kernel
theorem dX8_init_69 : decode cX8_init 69 = .ok (.getfield 10, 3) := by decide +kernel
theorem dX8_init_72 : decode cX8_init 72 = .ok (.aload_n 0, 1) := by decide +kernel
theorem dX8_init_73 : decode cX8_init 73 = .ok (.getfield 35, 3) := by decide +kernel
theorem dX8_init_76 : decode cX8_init 76 = .ok (.aload_n 0, 1) := by decide +kernel
theorem dX8_init_77 : decode cX8_init 77 = .ok (.getfield 42, 3) := by decide +kernel
theorem dX8_init_80 : decode cX8_init 80 = .ok (.aload_n 0, 1) := by decide +kernel
theorem dX8_init_81 : decode cX8_init 81 = .ok (.getfield 26, 3) := by decide +kernel
theorem dX8_init_84 : decode cX8_init 84 = .ok (.invokespecial 48, 3) := by decide +kernel
theorem dX8_init_87 : decode cX8_init 87 = .ok (.putfield 51, 3) := by decide +kernel
theorem dX8_init_90 : decode cX8_init 90 = .ok (.aload_n 0, 1) := by decide +kernel
theorem dX8_init_91 : decode cX8_init 91 = .ok (.new 55, 3) := by decide +kernel
theorem dX8_init_94 : decode cX8_init 94 = .ok (.dup, 1) := by decide +kernel
theorem dX8_init_95 : decode cX8_init 95 = .ok (.invokespecial 57, 3) := by decide +kernel
theorem dX8_init_98 : decode cX8_init 98 = .ok (.putfield 58, 3) := by decide +kernel
theorem dX8_init_101 : decode cX8_init 101 = .ok (.aload_n 0, 1) := by decide +kernel
theorem dX8_init_102 : decode cX8_init 102 = .ok (.iconst 3, 1) := by decide +kernel
theorem dX8_init_103 : decode cX8_init 103 = .ok (.newarray .int, 2) := by decide +kernel
theorem dX8_init_105 : decode cX8_init 105 = .ok (.putfield 62, 3) := by decide +kernel
theorem dX8_init_108 : decode cX8_init 108 = .ok (.aload_n 0, 1) := by decide +kernel
theorem dX8_init_109 : decode cX8_init 109 = .ok (.getfield 62, 3) := by decide +kernel
theorem dX8_init_112 : decode cX8_init 112 = .ok (.iconst 1, 1) := by decide +kernel
theorem dX8_init_113 : decode cX8_init 113 = .ok (.invokestatic 66, 3) := by decide +kernel
theorem dX8_init_116 : decode cX8_init 116 = .ok (.return_, 1) := by decide +kernel
theorem dX8_put_0 : decode cX8_put 0 = .ok (.aload_n 0, 1) := by decide +kernel
theorem dX8_put_1 : decode cX8_put 1 = .ok (.getfield 10, 3) := by decide +kernel
theorem dX8_put_4 : decode cX8_put 4 = .ok (.iload_n 1, 1) := by decide +kernel
theorem dX8_put_5 : decode cX8_put 5 = .ok (.invokevirtual 72, 3) := by decide +kernel
theorem dX8_put_8 : decode cX8_put 8 = .ok (.ifCond .eq 14, 3) := by decide +kernel
theorem dX8_put_11 : decode cX8_put 11 = .ok (.aload_n 0, 1) := by decide +kernel
theorem dX8_put_12 : decode cX8_put 12 = .ok (.getfield 10, 3) := by decide +kernel
theorem dX8_put_15 : decode cX8_put 15 = .ok (.iload_n 2, 1) := by decide +kernel
theorem dX8_put_16 : decode cX8_put 16 = .ok (.invokevirtual 72, 3) := by decide +kernel
theorem dX8_put_19 : decode cX8_put 19 = .ok (.ifCond .ne 5, 3) := by decide +kernel
theorem dX8_put_22 : decode cX8_put 22 = .ok (.iconst (-1), 1) := by decide +kernel
theorem dX8_put_23 : decode cX8_put 23 = .ok (.ireturn, 1) := by decide +kernel
theorem dX8_put_24 : decode cX8_put 24 = .ok (.aload_n 0, 1) := by decide +kernel
theorem dX8_put_25 : decode cX8_put 25 = .ok (.getfield 10, 3) := by decide +kernel
theorem dX8_put_28 : decode cX8_put 28 = .ok (.iload_n 1, 1) := by decide +kernel
theorem dX8_put_29 : decode cX8_put 29 = .ok (.iload_n 2, 1) := by decide +kernel
theorem dX8_put_30 : decode cX8_put 30 = .ok (.invokevirtual 76, 3) := by decide +kernel
theorem dX8_put_33 : decode cX8_put 33 = .ok (.istore_n 3, 1) := by decide +kernel
theorem dX8_put_34 : decode cX8_put 34 = .ok (.iload_n 3, 1) := by decide +kernel
theorem dX8_put_35 : decode cX8_put 35 = .ok (.bipush (-9), 2) := by decide +kernel
theorem dX8_put_37 : decode cX8_put 37 = .ok (.if_icmp .eq 5, 3) := by decide +kernel
theorem dX8_put_40 : decode cX8_put 40 = .ok (.iload_n 3, 1) := by decide +kernel
theorem dX8_put_41 : decode cX8_put 41 = .ok (.ireturn, 1) := by decide +kernel
theorem dX8_put_42 : decode cX8_put 42 = .ok (.aload_n 0, 1) := by decide +kernel
theorem dX8_put_43 : decode cX8_put 43 = .ok (.getfield 10, 3) := by decide +kernel
theorem dX8_put_46 : decode cX8_put 46 = .ok (.iload_n 1, 1) := by decide +kernel
theorem dX8_put_47 : decode cX8_put 47 = .ok (.iload_n 2, 1) := by decide +kernel
theorem dX8_put_48 : decode cX8_put 48 = .ok (.invokevirtual 80, 3) := by decide +kernel
theorem dX8_put_51 : decode cX8_put 51 = .ok (.istore 4, 2) := by decide +kernel
theorem dX8_put_53 : decode cX8_put 53 = .ok (.iload 4, 2) := by decide +kernel
theorem dX8_put_55 : decode cX8_put 55 = .ok (.bipush (-4), 2) := by decide +kernel
theorem dX8_put_57 : decode cX8_put 57 = .ok (.if_icmp .eq 10, 3) := by decide +kernel
theorem dX8_put_60 : decode cX8_put 60 = .ok (.aload_n 0, 1) := by decide +kernel
theorem dX8_put_61 : decode cX8_put 61 = .ok (.getfield 58, 3) := by decide +kernel
theorem dX8_put_64 : decode cX8_put 64 = .ok (.invokevirtual 83, 3) := by decide +kernel
theorem dX8_put_67 : decode cX8_put 67 = .ok (.iload 4, 2) := by decide +kernel
theorem dX8_put_69 : decode cX8_put 69 = .ok (.ireturn, 1) := by decide +kernel
theorem dX8_part_0 : decode cX8_part 0 = .ok (.aload_n 0, 1) := by decide +kernel
theorem dX8_part_1 : decode cX8_part 1 = .ok (.getfield 10, 3) := by decide +kernel
theorem dX8_part_4 : decode cX8_part 4 = .ok (.iload_n 1, 1) := by decide +kernel
theorem dX8_part_5 : decode cX8_part 5 = .ok (.invokevirtual 72, 3) := by decide +kernel
theorem dX8_part_8 : decode cX8_part 8 = .ok (.ifCond .ne 5, 3) := by decide +kernel
theorem dX8_part_11 : decode cX8_part 11 = .ok (.iconst (-1), 1) := by decide +kernel
theorem dX8_part_12 : decode cX8_part 12 = .ok (.ireturn, 1) := by decide +kernel
theorem dX8_part_13 : decode cX8_part 13 = .ok (.iload_n 2, 1) := by decide +kernel
theorem dX8_part_14 : decode cX8_part 14 = .ok (.ifCond .eq 15, 3) := by decide +kernel
theorem dX8_part_17 : decode cX8_part 17 = .ok (.aload_n 0, 1) := by decide +kernel
theorem dX8_part_18 : decode cX8_part 18 = .ok (.getfield 10, 3) := by decide +kernel
theorem dX8_part_21 : decode cX8_part 21 = .ok (.getfield 86, 3) := by decide +kernel
theorem dX8_part_24 : decode cX8_part 24 = .ok (.iload_n 1, 1) := by decide +kernel
theorem dX8_part_25 : decode cX8_part 25 = .ok (.iaload, 1) := by decide +kernel
theorem dX8_part_26 : decode cX8_part 26 = .ok (.goto 12, 3) := by decide +kernel
theorem dX8_part_29 : decode cX8_part 29 = .ok (.aload_n 0, 1) := by decide +kernel
theorem dX8_part_30 : decode cX8_part 30 = .ok (.getfield 10, 3) := by decide +kernel
theorem dX8_part_33 : decode cX8_part 33 = .ok (.getfield 89, 3) := by decide +kernel
theorem dX8_part_36 : decode cX8_part 36 = .ok (.iload_n 1, 1) := by decide +kernel
theorem dX8_part_37 : decode cX8_part 37 = .ok (.iaload, 1) := by decide +kernel
theorem dX8_part_38 : decode cX8_part 38 = .ok (.ireturn, 1) := by decide +kernel
theorem dX8_law_0 : decode cX8_law 0 = .ok (.aload_n 0, 1) := by decide +kernel
theorem dX8_law_1 : decode cX8_law 1 = .ok (.getfield 10, 3) := by decide +kernel
theorem dX8_law_4 : decode cX8_law 4 = .ok (.iload_n 1, 1) := by decide +kernel
theorem dX8_law_5 : decode cX8_law 5 = .ok (.invokevirtual 72, 3) := by decide +kernel
theorem dX8_law_8 : decode cX8_law 8 = .ok (.ifCond .eq 14, 3) := by decide +kernel
theorem dX8_law_11 : decode cX8_law 11 = .ok (.aload_n 0, 1) := by decide +kernel
theorem dX8_law_12 : decode cX8_law 12 = .ok (.getfield 10, 3) := by decide +kernel
theorem dX8_law_15 : decode cX8_law 15 = .ok (.iload_n 2, 1) := by decide +kernel
theorem dX8_law_16 : decode cX8_law 16 = .ok (.invokevirtual 72, 3) := by decide +kernel
theorem dX8_law_19 : decode cX8_law 19 = .ok (.ifCond .ne 5, 3) := by decide +kernel
theorem dX8_law_22 : decode cX8_law 22 = .ok (.iconst (-1), 1) := by decide +kernel
theorem dX8_law_23 : decode cX8_law 23 = .ok (.ireturn, 1) := by decide +kernel
theorem dX8_law_24 : decode cX8_law 24 = .ok (.aload_n 0, 1) := by decide +kernel
theorem dX8_law_25 : decode cX8_law 25 = .ok (.getfield 19, 3) := by decide +kernel
theorem dX8_law_28 : decode cX8_law 28 = .ok (.iload_n 1, 1) := by decide +kernel
theorem dX8_law_29 : decode cX8_law 29 = .ok (.iload_n 2, 1) := by decide +kernel
theorem dX8_law_30 : decode cX8_law 30 = .ok (.invokevirtual 92, 3) := by decide +kernel
theorem dX8_law_33 : decode cX8_law 33 = .ok (.istore_n 3, 1) := by decide +kernel
theorem dX8_law_34 : decode cX8_law 34 = .ok (.iload_n 3, 1) := by decide +kernel
theorem dX8_law_35 : decode cX8_law 35 = .ok (.bipush (-4), 2) := by decide +kernel
theorem dX8_law_37 : decode cX8_law 37 = .ok (.if_icmp .eq 7, 3) := by decide +kernel
theorem dX8_law_40 : decode cX8_law 40 = .ok (.aload_n 0, 1) := by decide +kernel
theorem dX8_law_41 : decode cX8_law 41 = .ok (.invokevirtual 93, 3) := by decide +kernel
theorem dX8_law_44 : decode cX8_law 44 = .ok (.iload_n 3, 1) := by decide +kernel
theorem dX8_law_45 : decode cX8_law 45 = .ok (.ireturn, 1) := by decide +kernel
theorem dX8_unlaw_0 : decode cX8_unlaw 0 = .ok (.aload_n 0, 1) := by decide +kernel
theorem dX8_unlaw_1 : decode cX8_unlaw 1 = .ok (.getfield 19, 3) := by decide +kernel
theorem dX8_unlaw_4 : decode cX8_unlaw 4 = .ok (.getfield 96, 3) := by decide +kernel
theorem dX8_unlaw_7 : decode cX8_unlaw 7 = .ok (.ifCond .ne 6, 3) := by decide +kernel
theorem dX8_unlaw_10 : decode cX8_unlaw 10 = .ok (.bipush (-3), 2) := by decide +kernel
theorem dX8_unlaw_12 : decode cX8_unlaw 12 = .ok (.ireturn, 1) := by decide +kernel
theorem dX8_unlaw_13 : decode cX8_unlaw 13 = .ok (.aload_n 0, 1) := by decide +kernel
theorem dX8_unlaw_14 : decode cX8_unlaw 14 = .ok (.getfield 19, 3) := by decide +kernel
theorem dX8_unlaw_17 : decode cX8_unlaw 17 = .ok (.dup, 1) := by decide +kernel
theorem dX8_unlaw_18 : decode cX8_unlaw 18 = .ok (.getfield 96, 3) := by decide +kernel
theorem dX8_unlaw_21 : decode cX8_unlaw 21 = .ok (.iconst 1, 1) := by decide +kernel
theorem dX8_unlaw_22 : decode cX8_unlaw 22 = .ok (.isub, 1) := by decide +kernel
theorem dX8_unlaw_23 : decode cX8_unlaw 23 = .ok (.putfield 96, 3) := by decide +kernel
theorem dX8_unlaw_26 : decode cX8_unlaw 26 = .ok (.aload_n 0, 1) := by decide +kernel
theorem dX8_unlaw_27 : decode cX8_unlaw 27 = .ok (.invokevirtual 93, 3) := by decide +kernel
theorem dX8_unlaw_30 : decode cX8_unlaw 30 = .ok (.aload_n 0, 1) := by decide +kernel
theorem dX8_unlaw_31 : decode cX8_unlaw 31 = .ok (.getfield 19, 3) := by decide +kernel
theorem dX8_unlaw_34 : decode cX8_unlaw 34 = .ok (.getfield 96, 3) := by decide +kernel
theorem dX8_unlaw_37 : decode cX8_unlaw 37 = .ok (.ireturn, 1) := by decide +kernel
theorem dX8_worlds_0 : decode cX8_worlds 0 = .ok (.iload_n 1, 1) := by decide +kernel
theorem dX8_worlds_1 : decode cX8_worlds 1 = .ok (.invokestatic 100, 3) := by decide +kernel
theorem dX8_worlds_4 : decode cX8_worlds 4 = .ok (.ifCond .ne 6, 3) := by decide +kernel
theorem dX8_worlds_7 : decode cX8_worlds 7 = .ok (.bipush (-2), 2) := by decide +kernel
theorem dX8_worlds_9 : decode cX8_worlds 9 = .ok (.ireturn, 1) := by decide +kernel
theorem dX8_worlds_10 : decode cX8_worlds 10 = .ok (.aload_n 0, 1) := by decide +kernel
theorem dX8_worlds_11 : decode cX8_worlds 11 = .ok (.invokevirtual 103, 3) := by decide +kernel
theorem dX8_worlds_14 : decode cX8_worlds 14 = .ok (.aload_n 0, 1) := by decide +kernel
theorem dX8_worlds_15 : decode cX8_worlds 15 = .ok (.getfield 35, 3) := by decide +kernel
theorem dX8_worlds_18 : decode cX8_worlds 18 = .ok (.iload_n 1, 1) := by decide +kernel
theorem dX8_worlds_19 : decode cX8_worlds 19 = .ok (.aload_n 0, 1) := by decide +kernel
theorem dX8_worlds_20 : decode cX8_worlds 20 = .ok (.getfield 19, 3) := by decide +kernel
theorem dX8_worlds_23 : decode cX8_worlds 23 = .ok (.invokevirtual 106, 3) := by decide +kernel
theorem dX8_worlds_26 : decode cX8_worlds 26 = .ok (.iload_n 2, 1) := by decide +kernel
theorem dX8_worlds_27 : decode cX8_worlds 27 = .ok (.invokevirtual 110, 3) := by decide +kernel
theorem dX8_worlds_30 : decode cX8_worlds 30 = .ok (.ireturn, 1) := by decide +kernel
theorem dX8_number_0 : decode cX8_number 0 = .ok (.iload_n 1, 1) := by decide +kernel
theorem dX8_number_1 : decode cX8_number 1 = .ok (.invokestatic 100, 3) := by decide +kernel
theorem dX8_number_4 : decode cX8_number 4 = .ok (.ifCond .ne 6, 3) := by decide +kernel
theorem dX8_number_7 : decode cX8_number 7 = .ok (.bipush (-2), 2) := by decide +kernel
theorem dX8_number_9 : decode cX8_number 9 = .ok (.ireturn, 1) := by decide +kernel
theorem dX8_number_10 : decode cX8_number 10 = .ok (.aload_n 0, 1) := by decide +kernel
theorem dX8_number_11 : decode cX8_number 11 = .ok (.invokevirtual 103, 3) := by decide +kernel
theorem dX8_number_14 : decode cX8_number 14 = .ok (.aload_n 0, 1) := by decide +kernel
theorem dX8_number_15 : decode cX8_number 15 = .ok (.getfield 35, 3) := by decide +kernel
theorem dX8_number_18 : decode cX8_number 18 = .ok (.iload_n 1, 1) := by decide +kernel
theorem dX8_number_19 : decode cX8_number 19 = .ok (.aload_n 0, 1) := by decide +kernel
theorem dX8_number_20 : decode cX8_number 20 = .ok (.getfield 19, 3) := by decide +kernel
theorem dX8_number_23 : decode cX8_number 23 = .ok (.invokevirtual 106, 3) := by decide +kernel
theorem dX8_number_26 : decode cX8_number 26 = .ok (.iload_n 2, 1) := by decide +kernel
theorem dX8_number_27 : decode cX8_number 27 = .ok (.invokevirtual 114, 3) := by decide +kernel
theorem dX8_number_30 : decode cX8_number 30 = .ok (.ireturn, 1) := by decide +kernel
theorem dX8_keeps_0 : decode cX8_keeps 0 = .ok (.iload_n 1, 1) := by decide +kernel
theorem dX8_keeps_1 : decode cX8_keeps 1 = .ok (.iload_n 2, 1) := by decide +kernel
theorem dX8_keeps_2 : decode cX8_keeps 2 = .ok (.invokestatic 118, 3) := by decide +kernel
theorem dX8_keeps_5 : decode cX8_keeps 5 = .ok (.ifCond .ne 6, 3) := by decide +kernel
theorem dX8_keeps_8 : decode cX8_keeps 8 = .ok (.bipush (-2), 2) := by decide +kernel
theorem dX8_keeps_10 : decode cX8_keeps 10 = .ok (.ireturn, 1) := by decide +kernel
theorem dX8_keeps_11 : decode cX8_keeps 11 = .ok (.aload_n 0, 1) := by decide +kernel
theorem dX8_keeps_12 : decode cX8_keeps 12 = .ok (.iload_n 1, 1) := by decide +kernel
theorem dX8_keeps_13 : decode cX8_keeps 13 = .ok (.iload_n 2, 1) := by decide +kernel
theorem dX8_keeps_14 : decode cX8_keeps 14 = .ok (.invokevirtual 122, 3) := by decide +kernel
theorem dX8_keeps_17 : decode cX8_keeps 17 = .ok (.bipush (-9), 2) := by decide +kernel
theorem dX8_keeps_19 : decode cX8_keeps 19 = .ok (.if_icmp .ne 7, 3) := by decide +kernel
theorem dX8_keeps_22 : decode cX8_keeps 22 = .ok (.iconst 1, 1) := by decide +kernel
theorem dX8_keeps_23 : decode cX8_keeps 23 = .ok (.goto 4, 3) := by decide +kernel
theorem dX8_keeps_26 : decode cX8_keeps 26 = .ok (.iconst 0, 1) := by decide +kernel
theorem dX8_keeps_27 : decode cX8_keeps 27 = .ok (.ireturn, 1) := by decide +kernel
theorem dX8_breaks_0 : decode cX8_breaks 0 = .ok (.iload_n 1, 1) := by decide +kernel
theorem dX8_breaks_1 : decode cX8_breaks 1 = .ok (.iload_n 2, 1) := by decide +kernel
theorem dX8_breaks_2 : decode cX8_breaks 2 = .ok (.invokestatic 118, 3) := by decide +kernel
theorem dX8_breaks_5 : decode cX8_breaks 5 = .ok (.ifCond .ne 6, 3) := by decide +kernel
theorem dX8_breaks_8 : decode cX8_breaks 8 = .ok (.bipush (-2), 2) := by decide +kernel
theorem dX8_breaks_10 : decode cX8_breaks 10 = .ok (.ireturn, 1) := by decide +kernel
theorem dX8_breaks_11 : decode cX8_breaks 11 = .ok (.aload_n 0, 1) := by decide +kernel
theorem dX8_breaks_12 : decode cX8_breaks 12 = .ok (.iload_n 1, 1) := by decide +kernel
theorem dX8_breaks_13 : decode cX8_breaks 13 = .ok (.iload_n 2, 1) := by decide +kernel
theorem dX8_breaks_14 : decode cX8_breaks 14 = .ok (.invokevirtual 122, 3) := by decide +kernel
theorem dX8_breaks_17 : decode cX8_breaks 17 = .ok (.ireturn, 1) := by decide +kernel
theorem dX8_plain_0 : decode cX8_plain 0 = .ok (.iload_n 1, 1) := by decide +kernel
theorem dX8_plain_1 : decode cX8_plain 1 = .ok (.iload_n 2, 1) := by decide +kernel
theorem dX8_plain_2 : decode cX8_plain 2 = .ok (.invokestatic 118, 3) := by decide +kernel
theorem dX8_plain_5 : decode cX8_plain 5 = .ok (.ifCond .ne 6, 3) := by decide +kernel
theorem dX8_plain_8 : decode cX8_plain 8 = .ok (.bipush (-2), 2) := by decide +kernel
theorem dX8_plain_10 : decode cX8_plain 10 = .ok (.ireturn, 1) := by decide +kernel
theorem dX8_plain_11 : decode cX8_plain 11 = .ok (.aload_n 0, 1) := by decide +kernel
theorem dX8_plain_12 : decode cX8_plain 12 = .ok (.getfield 26, 3) := by decide +kernel
theorem dX8_plain_15 : decode cX8_plain 15 = .ok (.iload_n 1, 1) := by decide +kernel
theorem dX8_plain_16 : decode cX8_plain 16 = .ok (.iload_n 2, 1) := by decide +kernel
theorem dX8_plain_17 : decode cX8_plain 17 = .ok (.invokevirtual 125, 3) := by decide +kernel
theorem dX8_plain_20 : decode cX8_plain 20 = .ok (.aload_n 0, 1) := by decide +kernel
theorem dX8_plain_21 : decode cX8_plain 21 = .ok (.getfield 26, 3) := by decide +kernel
theorem dX8_plain_24 : decode cX8_plain 24 = .ok (.invokevirtual 129, 3) := by decide +kernel
theorem dX8_plain_27 : decode cX8_plain 27 = .ok (.ireturn, 1) := by decide +kernel
theorem dX8_list_0 : decode cX8_list 0 = .ok (.iload_n 1, 1) := by decide +kernel
theorem dX8_list_1 : decode cX8_list 1 = .ok (.ifCond .eq 11, 3) := by decide +kernel
theorem dX8_list_4 : decode cX8_list 4 = .ok (.iload_n 1, 1) := by decide +kernel
theorem dX8_list_5 : decode cX8_list 5 = .ok (.iconst 1, 1) := by decide +kernel
theorem dX8_list_6 : decode cX8_list 6 = .ok (.if_icmp .eq 6, 3) := by decide +kernel
theorem dX8_list_9 : decode cX8_list 9 = .ok (.bipush (-2), 2) := by decide +kernel
theorem dX8_list_11 : decode cX8_list 11 = .ok (.ireturn, 1) := by decide +kernel
theorem dX8_list_12 : decode cX8_list 12 = .ok (.aload_n 0, 1) := by decide +kernel
theorem dX8_list_13 : decode cX8_list 13 = .ok (.invokevirtual 103, 3) := by decide +kernel
theorem dX8_list_16 : decode cX8_list 16 = .ok (.iload_n 1, 1) := by decide +kernel
theorem dX8_list_17 : decode cX8_list 17 = .ok (.ifCond .ne 13, 3) := by decide +kernel
theorem dX8_list_20 : decode cX8_list 20 = .ok (.aload_n 0, 1) := by decide +kernel
theorem dX8_list_21 : decode cX8_list 21 = .ok (.getfield 51, 3) := by decide +kernel
theorem dX8_list_24 : decode cX8_list 24 = .ok (.getfield 132, 3) := by decide +kernel
theorem dX8_list_27 : decode cX8_list 27 = .ok (.goto 10, 3) := by decide +kernel
theorem dX8_list_30 : decode cX8_list 30 = .ok (.aload_n 0, 1) := by decide +kernel
theorem dX8_list_31 : decode cX8_list 31 = .ok (.getfield 51, 3) := by decide +kernel
theorem dX8_list_34 : decode cX8_list 34 = .ok (.getfield 133, 3) := by decide +kernel
theorem dX8_list_37 : decode cX8_list 37 = .ok (.ireturn, 1) := by decide +kernel
theorem dX8_world_0 : decode cX8_world 0 = .ok (.aload_n 0, 1) := by decide +kernel
theorem dX8_world_1 : decode cX8_world 1 = .ok (.invokevirtual 103, 3) := by decide +kernel
theorem dX8_world_4 : decode cX8_world 4 = .ok (.aload_n 0, 1) := by decide +kernel
theorem dX8_world_5 : decode cX8_world 5 = .ok (.getfield 51, 3) := by decide +kernel
theorem dX8_world_8 : decode cX8_world 8 = .ok (.iload_n 1, 1) := by decide +kernel
theorem dX8_world_9 : decode cX8_world 9 = .ok (.invokevirtual 136, 3) := by decide +kernel
theorem dX8_world_12 : decode cX8_world 12 = .ok (.ifCond .ne 5, 3) := by decide +kernel
theorem dX8_world_15 : decode cX8_world 15 = .ok (.iconst (-1), 1) := by decide +kernel
theorem dX8_world_16 : decode cX8_world 16 = .ok (.ireturn, 1) := by decide +kernel
theorem dX8_world_17 : decode cX8_world 17 = .ok (.iload_n 2, 1) := by decide +kernel
theorem dX8_world_18 : decode cX8_world 18 = .ok (.ifCond .eq 11, 3) := by decide +kernel
theorem dX8_world_21 : decode cX8_world 21 = .ok (.iload_n 2, 1) := by decide +kernel
theorem dX8_world_22 : decode cX8_world 22 = .ok (.iconst 1, 1) := by decide +kernel
theorem dX8_world_23 : decode cX8_world 23 = .ok (.if_icmp .eq 6, 3) := by decide +kernel
theorem dX8_world_26 : decode cX8_world 26 = .ok (.bipush (-2), 2) := by decide +kernel
theorem dX8_world_28 : decode cX8_world 28 = .ok (.ireturn, 1) := by decide +kernel
theorem dX8_world_29 : decode cX8_world 29 = .ok (.iload_n 2, 1) := by decide +kernel
theorem dX8_world_30 : decode cX8_world 30 = .ok (.ifCond .ne 14, 3) := by decide +kernel
theorem dX8_world_33 : decode cX8_world 33 = .ok (.aload_n 0, 1) := by decide +kernel
theorem dX8_world_34 : decode cX8_world 34 = .ok (.getfield 51, 3) := by decide +kernel
theorem dX8_world_37 : decode cX8_world 37 = .ok (.iload_n 1, 1) := by decide +kernel
theorem dX8_world_38 : decode cX8_world 38 = .ok (.invokevirtual 137, 3) := by decide +kernel
theorem dX8_world_41 : decode cX8_world 41 = .ok (.goto 20, 3) := by decide +kernel
theorem dX8_world_44 : decode cX8_world 44 = .ok (.aload_n 0, 1) := by decide +kernel
theorem dX8_world_45 : decode cX8_world 45 = .ok (.getfield 35, 3) := by decide +kernel
theorem dX8_world_48 : decode cX8_world 48 = .ok (.getfield 141, 3) := by decide +kernel
theorem dX8_world_51 : decode cX8_world 51 = .ok (.aload_n 0, 1) := by decide +kernel
theorem dX8_world_52 : decode cX8_world 52 = .ok (.getfield 51, 3) := by decide +kernel
theorem dX8_world_55 : decode cX8_world 55 = .ok (.getfield 144, 3) := by decide +kernel
theorem dX8_world_58 : decode cX8_world 58 = .ok (.iload_n 1, 1) := by decide +kernel
theorem dX8_world_59 : decode cX8_world 59 = .ok (.iaload, 1) := by decide +kernel
theorem dX8_world_60 : decode cX8_world 60 = .ok (.iaload, 1) := by decide +kernel
theorem dX8_world_61 : decode cX8_world 61 = .ok (.ireturn, 1) := by decide +kernel
theorem dX8_make_0 : decode cX8_make 0 = .ok (.iload_n 1, 1) := by decide +kernel
theorem dX8_make_1 : decode cX8_make 1 = .ok (.ifCond .lt 9, 3) := by decide +kernel
theorem dX8_make_4 : decode cX8_make 4 = .ok (.iload_n 1, 1) := by decide +kernel
theorem dX8_make_5 : decode cX8_make 5 = .ok (.bipush 6, 2) := by decide +kernel
theorem dX8_make_7 : decode cX8_make 7 = .ok (.if_icmp .le 6, 3) := by decide +kernel
theorem dX8_make_10 : decode cX8_make 10 = .ok (.bipush (-2), 2) := by decide +kernel
theorem dX8_make_12 : decode cX8_make 12 = .ok (.ireturn, 1) := by decide +kernel
theorem dX8_make_13 : decode cX8_make 13 = .ok (.aload_n 0, 1) := by decide +kernel
theorem dX8_make_14 : decode cX8_make 14 = .ok (.iload_n 1, 1) := by decide +kernel
theorem dX8_make_15 : decode cX8_make 15 = .ok (.iload_n 2, 1) := by decide +kernel
theorem dX8_make_16 : decode cX8_make 16 = .ok (.invokevirtual 147, 3) := by decide +kernel
theorem dX8_make_19 : decode cX8_make 19 = .ok (.ifCond .ne 5, 3) := by decide +kernel
theorem dX8_make_22 : decode cX8_make 22 = .ok (.iconst (-1), 1) := by decide +kernel
theorem dX8_make_23 : decode cX8_make 23 = .ok (.ireturn, 1) := by decide +kernel
theorem dX8_make_24 : decode cX8_make 24 = .ok (.iload_n 1, 1) := by decide +kernel
theorem dX8_make_25 : decode cX8_make 25 = .ok (.ifCond .eq 8, 3) := by decide +kernel
theorem dX8_make_28 : decode cX8_make 28 = .ok (.iload_n 1, 1) := by decide +kernel
theorem dX8_make_29 : decode cX8_make 29 = .ok (.iconst 2, 1) := by decide +kernel
theorem dX8_make_30 : decode cX8_make 30 = .ok (.if_icmp .ne 7, 3) := by decide +kernel
theorem dX8_make_33 : decode cX8_make 33 = .ok (.iconst 1, 1) := by decide +kernel
theorem dX8_make_34 : decode cX8_make 34 = .ok (.goto 4, 3) := by decide +kernel
theorem dX8_make_37 : decode cX8_make 37 = .ok (.iconst 0, 1) := by decide +kernel
theorem dX8_make_38 : decode cX8_make 38 = .ok (.istore 4, 2) := by decide +kernel
theorem dX8_make_40 : decode cX8_make 40 = .ok (.iload 4, 2) := by decide +kernel
theorem dX8_make_42 : decode cX8_make 42 = .ok (.ifCond .eq 14, 3) := by decide +kernel
theorem dX8_make_45 : decode cX8_make 45 = .ok (.aload_n 0, 1) := by decide +kernel
theorem dX8_make_46 : decode cX8_make 46 = .ok (.iload_n 1, 1) := by decide +kernel
theorem dX8_make_47 : decode cX8_make 47 = .ok (.iload_n 3, 1) := by decide +kernel
theorem dX8_make_48 : decode cX8_make 48 = .ok (.invokevirtual 147, 3) := by decide +kernel
theorem dX8_make_51 : decode cX8_make 51 = .ok (.ifCond .ne 5, 3) := by decide +kernel
theorem dX8_make_54 : decode cX8_make 54 = .ok (.iconst (-1), 1) := by decide +kernel
theorem dX8_make_55 : decode cX8_make 55 = .ok (.ireturn, 1) := by decide +kernel
theorem dX8_make_56 : decode cX8_make 56 = .ok (.aload_n 0, 1) := by decide +kernel
theorem dX8_make_57 : decode cX8_make 57 = .ok (.getfield 42, 3) := by decide +kernel
theorem dX8_make_60 : decode cX8_make 60 = .ok (.iload_n 1, 1) := by decide +kernel
theorem dX8_make_61 : decode cX8_make 61 = .ok (.iload_n 2, 1) := by decide +kernel
theorem dX8_make_62 : decode cX8_make 62 = .ok (.iload 4, 2) := by decide +kernel
theorem dX8_make_64 : decode cX8_make 64 = .ok (.ifCond .eq 7, 3) := by decide +kernel
theorem dX8_make_67 : decode cX8_make 67 = .ok (.iload_n 3, 1) := by decide +kernel
theorem dX8_make_68 : decode cX8_make 68 = .ok (.goto 4, 3) := by decide +kernel
theorem dX8_make_71 : decode cX8_make 71 = .ok (.iconst 0, 1) := by decide +kernel
theorem dX8_make_72 : decode cX8_make 72 = .ok (.invokevirtual 150, 3) := by decide +kernel
theorem dX8_make_75 : decode cX8_make 75 = .ok (.ireturn, 1) := by decide +kernel
theorem dX8_yes_0 : decode cX8_yes 0 = .ok (.aload_n 0, 1) := by decide +kernel
theorem dX8_yes_1 : decode cX8_yes 1 = .ok (.getfield 42, 3) := by decide +kernel
theorem dX8_yes_4 : decode cX8_yes 4 = .ok (.iload_n 1, 1) := by decide +kernel
theorem dX8_yes_5 : decode cX8_yes 5 = .ok (.invokevirtual 152, 3) := by decide +kernel
theorem dX8_yes_8 : decode cX8_yes 8 = .ok (.ifCond .ne 5, 3) := by decide +kernel
theorem dX8_yes_11 : decode cX8_yes 11 = .ok (.iconst (-1), 1) := by decide +kernel
theorem dX8_yes_12 : decode cX8_yes 12 = .ok (.ireturn, 1) := by decide +kernel
theorem dX8_yes_13 : decode cX8_yes 13 = .ok (.aload_n 0, 1) := by decide +kernel
theorem dX8_yes_14 : decode cX8_yes 14 = .ok (.invokevirtual 103, 3) := by decide +kernel
theorem dX8_yes_17 : decode cX8_yes 17 = .ok (.aload_n 0, 1) := by decide +kernel
theorem dX8_yes_18 : decode cX8_yes 18 = .ok (.getfield 51, 3) := by decide +kernel
theorem dX8_yes_21 : decode cX8_yes 21 = .ok (.iload_n 2, 1) := by decide +kernel
theorem dX8_yes_22 : decode cX8_yes 22 = .ok (.invokevirtual 136, 3) := by decide +kernel
theorem dX8_yes_25 : decode cX8_yes 25 = .ok (.ifCond .ne 5, 3) := by decide +kernel
theorem dX8_yes_28 : decode cX8_yes 28 = .ok (.iconst (-1), 1) := by decide +kernel
theorem dX8_yes_29 : decode cX8_yes 29 = .ok (.ireturn, 1) := by decide +kernel
theorem dX8_yes_30 : decode cX8_yes 30 = .ok (.aload_n 0, 1) := by decide +kernel
theorem dX8_yes_31 : decode cX8_yes 31 = .ok (.getfield 51, 3) := by decide +kernel
theorem dX8_yes_34 : decode cX8_yes 34 = .ok (.iload_n 2, 1) := by decide +kernel
theorem dX8_yes_35 : decode cX8_yes 35 = .ok (.invokevirtual 137, 3) := by decide +kernel
theorem dX8_yes_38 : decode cX8_yes 38 = .ok (.istore 5, 2) := by decide +kernel
theorem dX8_yes_40 : decode cX8_yes 40 = .ok (.iload_n 3, 1) := by decide +kernel
theorem dX8_yes_41 : decode cX8_yes 41 = .ok (.ifCond .lt 21, 3) := by decide +kernel
theorem dX8_yes_44 : decode cX8_yes 44 = .ok (.iload_n 3, 1) := by decide +kernel
theorem dX8_yes_45 : decode cX8_yes 45 = .ok (.iload 5, 2) := by decide +kernel
theorem dX8_yes_47 : decode cX8_yes 47 = .ok (.if_icmp .ge 15, 3) := by decide +kernel
theorem dX8_yes_50 : decode cX8_yes 50 = .ok (.iload 4, 2) := by decide +kernel
theorem dX8_yes_52 : decode cX8_yes 52 = .ok (.ifCond .lt 10, 3) := by decide +kernel
theorem dX8_yes_55 : decode cX8_yes 55 = .ok (.iload 4, 2) := by decide +kernel
theorem dX8_yes_57 : decode cX8_yes 57 = .ok (.iload 5, 2) := by decide +kernel
theorem dX8_yes_59 : decode cX8_yes 59 = .ok (.if_icmp .lt 6, 3) := by decide +kernel
theorem dX8_yes_62 : decode cX8_yes 62 = .ok (.bipush (-2), 2) := by decide +kernel
theorem dX8_yes_64 : decode cX8_yes 64 = .ok (.ireturn, 1) := by decide +kernel
theorem dX8_yes_65 : decode cX8_yes 65 = .ok (.aload_n 0, 1) := by decide +kernel
theorem dX8_yes_66 : decode cX8_yes 66 = .ok (.getfield 51, 3) := by decide +kernel
theorem dX8_yes_69 : decode cX8_yes 69 = .ok (.iload_n 1, 1) := by decide +kernel
theorem dX8_yes_70 : decode cX8_yes 70 = .ok (.iload_n 2, 1) := by decide +kernel
theorem dX8_yes_71 : decode cX8_yes 71 = .ok (.invokevirtual 153, 3) := by decide +kernel
theorem dX8_yes_74 : decode cX8_yes 74 = .ok (.iload_n 3, 1) := by decide +kernel
theorem dX8_yes_75 : decode cX8_yes 75 = .ok (.iload 5, 2) := by decide +kernel
theorem dX8_yes_77 : decode cX8_yes 77 = .ok (.imul, 1) := by decide +kernel
theorem dX8_yes_78 : decode cX8_yes 78 = .ok (.iload 4, 2) := by decide +kernel
theorem dX8_yes_80 : decode cX8_yes 80 = .ok (.iadd, 1) := by decide +kernel
theorem dX8_yes_81 : decode cX8_yes 81 = .ok (.ishr, 1) := by decide +kernel
theorem dX8_yes_82 : decode cX8_yes 82 = .ok (.iconst 1, 1) := by decide +kernel
theorem dX8_yes_83 : decode cX8_yes 83 = .ok (.iand, 1) := by decide +kernel
theorem dX8_yes_84 : decode cX8_yes 84 = .ok (.ireturn, 1) := by decide +kernel
theorem dX8_many_0 : decode cX8_many 0 = .ok (.aload_n 0, 1) := by decide +kernel
theorem dX8_many_1 : decode cX8_many 1 = .ok (.getfield 42, 3) := by decide +kernel
theorem dX8_many_4 : decode cX8_many 4 = .ok (.iload_n 1, 1) := by decide +kernel
theorem dX8_many_5 : decode cX8_many 5 = .ok (.invokevirtual 152, 3) := by decide +kernel
theorem dX8_many_8 : decode cX8_many 8 = .ok (.ifCond .ne 5, 3) := by decide +kernel
theorem dX8_many_11 : decode cX8_many 11 = .ok (.iconst (-1), 1) := by decide +kernel
theorem dX8_many_12 : decode cX8_many 12 = .ok (.ireturn, 1) := by decide +kernel
theorem dX8_many_13 : decode cX8_many 13 = .ok (.aload_n 0, 1) := by decide +kernel
theorem dX8_many_14 : decode cX8_many 14 = .ok (.invokevirtual 103, 3) := by decide +kernel
theorem dX8_many_17 : decode cX8_many 17 = .ok (.aload_n 0, 1) := by decide +kernel
theorem dX8_many_18 : decode cX8_many 18 = .ok (.getfield 51, 3) := by decide +kernel
theorem dX8_many_21 : decode cX8_many 21 = .ok (.iload_n 1, 1) := by decide +kernel
theorem dX8_many_22 : decode cX8_many 22 = .ok (.invokevirtual 156, 3) := by decide +kernel
theorem dX8_many_25 : decode cX8_many 25 = .ok (.ireturn, 1) := by decide +kernel
theorem dX8_twin_0 : decode cX8_twin 0 = .ok (.aload_n 0, 1) := by decide +kernel
theorem dX8_twin_1 : decode cX8_twin 1 = .ok (.getfield 42, 3) := by decide +kernel
theorem dX8_twin_4 : decode cX8_twin 4 = .ok (.iload_n 1, 1) := by decide +kernel
theorem dX8_twin_5 : decode cX8_twin 5 = .ok (.invokevirtual 152, 3) := by decide +kernel
theorem dX8_twin_8 : decode cX8_twin 8 = .ok (.ifCond .ne 5, 3) := by decide +kernel
theorem dX8_twin_11 : decode cX8_twin 11 = .ok (.iconst (-1), 1) := by decide +kernel
theorem dX8_twin_12 : decode cX8_twin 12 = .ok (.ireturn, 1) := by decide +kernel
theorem dX8_twin_13 : decode cX8_twin 13 = .ok (.aload_n 0, 1) := by decide +kernel
theorem dX8_twin_14 : decode cX8_twin 14 = .ok (.invokevirtual 103, 3) := by decide +kernel
theorem dX8_twin_17 : decode cX8_twin 17 = .ok (.iconst 0, 1) := by decide +kernel
theorem dX8_twin_18 : decode cX8_twin 18 = .ok (.istore_n 2, 1) := by decide +kernel
theorem dX8_twin_19 : decode cX8_twin 19 = .ok (.iload_n 2, 1) := by decide +kernel
theorem dX8_twin_20 : decode cX8_twin 20 = .ok (.iload_n 1, 1) := by decide +kernel
theorem dX8_twin_21 : decode cX8_twin 21 = .ok (.if_icmp .ge 23, 3) := by decide +kernel
theorem dX8_twin_24 : decode cX8_twin 24 = .ok (.aload_n 0, 1) := by decide +kernel
theorem dX8_twin_25 : decode cX8_twin 25 = .ok (.getfield 51, 3) := by decide +kernel
theorem dX8_twin_28 : decode cX8_twin 28 = .ok (.iload_n 2, 1) := by decide +kernel
theorem dX8_twin_29 : decode cX8_twin 29 = .ok (.iload_n 1, 1) := by decide +kernel
theorem dX8_twin_30 : decode cX8_twin 30 = .ok (.invokevirtual 159, 3) := by decide +kernel
theorem dX8_twin_33 : decode cX8_twin 33 = .ok (.ifCond .eq 5, 3) := by decide +kernel
theorem dX8_twin_36 : decode cX8_twin 36 = .ok (.iload_n 2, 1) := by decide +kernel
theorem dX8_twin_37 : decode cX8_twin 37 = .ok (.ireturn, 1) := by decide +kernel
theorem dX8_twin_38 : decode cX8_twin 38 = .ok (.iinc 2 1, 3) := by decide +kernel
theorem dX8_twin_41 : decode cX8_twin 41 = .ok (.goto (-22), 3) := by decide +kernel
theorem dX8_twin_44 : decode cX8_twin 44 = .ok (.bipush (-9), 2) := by decide +kernel
theorem dX8_twin_46 : decode cX8_twin 46 = .ok (.ireturn, 1) := by decide +kernel
theorem dX8_butFor_0 : decode cX8_butFor 0 = .ok (.aload_n 0, 1) := by decide +kernel
theorem dX8_butFor_1 : decode cX8_butFor 1 = .ok (.getfield 42, 3) := by decide +kernel
theorem dX8_butFor_4 : decode cX8_butFor 4 = .ok (.iload_n 1, 1) := by decide +kernel
theorem dX8_butFor_5 : decode cX8_butFor 5 = .ok (.invokevirtual 152, 3) := by decide +kernel
theorem dX8_butFor_8 : decode cX8_butFor 8 = .ok (.ifCond .eq 14, 3) := by decide +kernel
theorem dX8_butFor_11 : decode cX8_butFor 11 = .ok (.aload_n 0, 1) := by decide +kernel
theorem dX8_butFor_12 : decode cX8_butFor 12 = .ok (.getfield 42, 3) := by decide +kernel
theorem dX8_butFor_15 : decode cX8_butFor 15 = .ok (.iload_n 2, 1) := by decide +kernel
theorem dX8_butFor_16 : decode cX8_butFor 16 = .ok (.invokevirtual 152, 3) := by decide +kernel
theorem dX8_butFor_19 : decode cX8_butFor 19 = .ok (.ifCond .ne 5, 3) := by decide +kernel
theorem dX8_butFor_22 : decode cX8_butFor 22 = .ok (.iconst (-1), 1) := by decide +kernel
theorem dX8_butFor_23 : decode cX8_butFor 23 = .ok (.ireturn, 1) := by decide +kernel
theorem dX8_butFor_24 : decode cX8_butFor 24 = .ok (.aload_n 0, 1) := by decide +kernel

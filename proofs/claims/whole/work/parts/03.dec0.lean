theorem dX0_whole_0 : decode cX0_whole 0 = .ok (.iconst 1, 1) := by decide +kernel
theorem dX0_whole_1 : decode cX0_whole 1 = .ok (.iload_n 0, 1) := by decide +kernel
theorem dX0_whole_2 : decode cX0_whole 2 = .ok (.iload_n 0, 1) := by decide +kernel
theorem dX0_whole_3 : decode cX0_whole 3 = .ok (.imul, 1) := by decide +kernel
theorem dX0_whole_4 : decode cX0_whole 4 = .ok (.ishl, 1) := by decide +kernel
theorem dX0_whole_5 : decode cX0_whole 5 = .ok (.iconst 1, 1) := by decide +kernel
theorem dX0_whole_6 : decode cX0_whole 6 = .ok (.isub, 1) := by decide +kernel
theorem dX0_whole_7 : decode cX0_whole 7 = .ok (.ireturn, 1) := by decide +kernel
theorem dX0_made_0 : decode cX0_made 0 = .ok (.iload_n 0, 1) := by decide +kernel
theorem dX0_made_1 : decode cX0_made 1 = .ok (.tableswitch 54 1 5 #[35, 44, 54, 54, 48], 35) := by decide +kernel
theorem dX0_made_36 : decode cX0_made 36 = .ok (.iload_n 2, 1) := by decide +kernel
theorem dX0_made_37 : decode cX0_made 37 = .ok (.iconst (-1), 1) := by decide +kernel
theorem dX0_made_38 : decode cX0_made 38 = .ok (.ixor, 1) := by decide +kernel
theorem dX0_made_39 : decode cX0_made 39 = .ok (.iload_n 1, 1) := by decide +kernel
theorem dX0_made_40 : decode cX0_made 40 = .ok (.invokestatic 7, 3) := by decide +kernel
theorem dX0_made_43 : decode cX0_made 43 = .ok (.iand, 1) := by decide +kernel
theorem dX0_made_44 : decode cX0_made 44 = .ok (.ireturn, 1) := by decide +kernel
theorem dX0_made_45 : decode cX0_made 45 = .ok (.iload_n 2, 1) := by decide +kernel
theorem dX0_made_46 : decode cX0_made 46 = .ok (.iload_n 3, 1) := by decide +kernel
theorem dX0_made_47 : decode cX0_made 47 = .ok (.iand, 1) := by decide +kernel
theorem dX0_made_48 : decode cX0_made 48 = .ok (.ireturn, 1) := by decide +kernel
theorem dX0_made_49 : decode cX0_made 49 = .ok (.iload_n 1, 1) := by decide +kernel
theorem dX0_made_50 : decode cX0_made 50 = .ok (.iload_n 2, 1) := by decide +kernel
theorem dX0_made_51 : decode cX0_made 51 = .ok (.invokestatic 13, 3) := by decide +kernel
theorem dX0_made_54 : decode cX0_made 54 = .ok (.ireturn, 1) := by decide +kernel
theorem dX0_made_55 : decode cX0_made 55 = .ok (.iload_n 0, 1) := by decide +kernel
theorem dX0_made_56 : decode cX0_made 56 = .ok (.iload_n 1, 1) := by decide +kernel
theorem dX0_made_57 : decode cX0_made 57 = .ok (.iload_n 2, 1) := by decide +kernel
theorem dX0_made_58 : decode cX0_made 58 = .ok (.invokestatic 17, 3) := by decide +kernel
theorem dX0_made_61 : decode cX0_made 61 = .ok (.ireturn, 1) := by decide +kernel
theorem dX0_turnedAbout_0 : decode cX0_turnedAbout 0 = .ok (.iconst 0, 1) := by decide +kernel
theorem dX0_turnedAbout_1 : decode cX0_turnedAbout 1 = .ok (.istore_n 2, 1) := by decide +kernel
theorem dX0_turnedAbout_2 : decode cX0_turnedAbout 2 = .ok (.iconst 0, 1) := by decide +kernel
theorem dX0_turnedAbout_3 : decode cX0_turnedAbout 3 = .ok (.istore_n 3, 1) := by decide +kernel
theorem dX0_turnedAbout_4 : decode cX0_turnedAbout 4 = .ok (.iload_n 3, 1) := by decide +kernel
theorem dX0_turnedAbout_5 : decode cX0_turnedAbout 5 = .ok (.iload_n 0, 1) := by decide +kernel
theorem dX0_turnedAbout_6 : decode cX0_turnedAbout 6 = .ok (.if_icmp .ge 44, 3) := by decide +kernel
theorem dX0_turnedAbout_9 : decode cX0_turnedAbout 9 = .ok (.iconst 0, 1) := by decide +kernel
theorem dX0_turnedAbout_10 : decode cX0_turnedAbout 10 = .ok (.istore 4, 2) := by decide +kernel
theorem dX0_turnedAbout_12 : decode cX0_turnedAbout 12 = .ok (.iload 4, 2) := by decide +kernel
theorem dX0_turnedAbout_14 : decode cX0_turnedAbout 14 = .ok (.iload_n 0, 1) := by decide +kernel
theorem dX0_turnedAbout_15 : decode cX0_turnedAbout 15 = .ok (.if_icmp .ge 29, 3) := by decide +kernel
theorem dX0_turnedAbout_18 : decode cX0_turnedAbout 18 = .ok (.iload_n 2, 1) := by decide +kernel
theorem dX0_turnedAbout_19 : decode cX0_turnedAbout 19 = .ok (.iload_n 1, 1) := by decide +kernel
theorem dX0_turnedAbout_20 : decode cX0_turnedAbout 20 = .ok (.iload 4, 2) := by decide +kernel
theorem dX0_turnedAbout_22 : decode cX0_turnedAbout 22 = .ok (.iload_n 0, 1) := by decide +kernel
theorem dX0_turnedAbout_23 : decode cX0_turnedAbout 23 = .ok (.imul, 1) := by decide +kernel
theorem dX0_turnedAbout_24 : decode cX0_turnedAbout 24 = .ok (.iload_n 3, 1) := by decide +kernel
theorem dX0_turnedAbout_25 : decode cX0_turnedAbout 25 = .ok (.iadd, 1) := by decide +kernel
theorem dX0_turnedAbout_26 : decode cX0_turnedAbout 26 = .ok (.ishr, 1) := by decide +kernel
theorem dX0_turnedAbout_27 : decode cX0_turnedAbout 27 = .ok (.iconst 1, 1) := by decide +kernel
theorem dX0_turnedAbout_28 : decode cX0_turnedAbout 28 = .ok (.iand, 1) := by decide +kernel
theorem dX0_turnedAbout_29 : decode cX0_turnedAbout 29 = .ok (.iload_n 3, 1) := by decide +kernel
theorem dX0_turnedAbout_30 : decode cX0_turnedAbout 30 = .ok (.iload_n 0, 1) := by decide +kernel
theorem dX0_turnedAbout_31 : decode cX0_turnedAbout 31 = .ok (.imul, 1) := by decide +kernel
theorem dX0_turnedAbout_32 : decode cX0_turnedAbout 32 = .ok (.iload 4, 2) := by decide +kernel
theorem dX0_turnedAbout_34 : decode cX0_turnedAbout 34 = .ok (.iadd, 1) := by decide +kernel
theorem dX0_turnedAbout_35 : decode cX0_turnedAbout 35 = .ok (.ishl, 1) := by decide +kernel
theorem dX0_turnedAbout_36 : decode cX0_turnedAbout 36 = .ok (.ior, 1) := by decide +kernel
theorem dX0_turnedAbout_37 : decode cX0_turnedAbout 37 = .ok (.istore_n 2, 1) := by decide +kernel
theorem dX0_turnedAbout_38 : decode cX0_turnedAbout 38 = .ok (.iinc 4 1, 3) := by decide +kernel
theorem dX0_turnedAbout_41 : decode cX0_turnedAbout 41 = .ok (.goto (-29), 3) := by decide +kernel
theorem dX0_turnedAbout_44 : decode cX0_turnedAbout 44 = .ok (.iinc 3 1, 3) := by decide +kernel
theorem dX0_turnedAbout_47 : decode cX0_turnedAbout 47 = .ok (.goto (-43), 3) := by decide +kernel
theorem dX0_turnedAbout_50 : decode cX0_turnedAbout 50 = .ok (.iload_n 2, 1) := by decide +kernel
theorem dX0_turnedAbout_51 : decode cX0_turnedAbout 51 = .ok (.ireturn, 1) := by decide +kernel
theorem dX0_byLines_0 : decode cX0_byLines 0 = .ok (.iconst 1, 1) := by decide +kernel
theorem dX0_byLines_1 : decode cX0_byLines 1 = .ok (.iload_n 1, 1) := by decide +kernel
theorem dX0_byLines_2 : decode cX0_byLines 2 = .ok (.ishl, 1) := by decide +kernel
theorem dX0_byLines_3 : decode cX0_byLines 3 = .ok (.iconst 1, 1) := by decide +kernel
theorem dX0_byLines_4 : decode cX0_byLines 4 = .ok (.isub, 1) := by decide +kernel
theorem dX0_byLines_5 : decode cX0_byLines 5 = .ok (.istore_n 3, 1) := by decide +kernel
theorem dX0_byLines_6 : decode cX0_byLines 6 = .ok (.iconst 0, 1) := by decide +kernel
theorem dX0_byLines_7 : decode cX0_byLines 7 = .ok (.istore 4, 2) := by decide +kernel
theorem dX0_byLines_9 : decode cX0_byLines 9 = .ok (.iconst 0, 1) := by decide +kernel
theorem dX0_byLines_10 : decode cX0_byLines 10 = .ok (.istore 5, 2) := by decide +kernel
theorem dX0_byLines_12 : decode cX0_byLines 12 = .ok (.iload 5, 2) := by decide +kernel
theorem dX0_byLines_14 : decode cX0_byLines 14 = .ok (.iload_n 1, 1) := by decide +kernel
theorem dX0_byLines_15 : decode cX0_byLines 15 = .ok (.if_icmp .ge 89, 3) := by decide +kernel
theorem dX0_byLines_18 : decode cX0_byLines 18 = .ok (.iload_n 2, 1) := by decide +kernel
theorem dX0_byLines_19 : decode cX0_byLines 19 = .ok (.iload 5, 2) := by decide +kernel
theorem dX0_byLines_21 : decode cX0_byLines 21 = .ok (.iload_n 1, 1) := by decide +kernel
theorem dX0_byLines_22 : decode cX0_byLines 22 = .ok (.imul, 1) := by decide +kernel
theorem dX0_byLines_23 : decode cX0_byLines 23 = .ok (.ishr, 1) := by decide +kernel
theorem dX0_byLines_24 : decode cX0_byLines 24 = .ok (.iload_n 3, 1) := by decide +kernel
theorem dX0_byLines_25 : decode cX0_byLines 25 = .ok (.iand, 1) := by decide +kernel
theorem dX0_byLines_26 : decode cX0_byLines 26 = .ok (.istore 6, 2) := by decide +kernel
theorem dX0_byLines_28 : decode cX0_byLines 28 = .ok (.iload_n 0, 1) := by decide +kernel
theorem dX0_byLines_29 : decode cX0_byLines 29 = .ok (.iconst 3, 1) := by decide +kernel
theorem dX0_byLines_30 : decode cX0_byLines 30 = .ok (.if_icmp .ne 17, 3) := by decide +kernel
theorem dX0_byLines_33 : decode cX0_byLines 33 = .ok (.iload 6, 2) := by decide +kernel
theorem dX0_byLines_35 : decode cX0_byLines 35 = .ok (.iload_n 3, 1) := by decide +kernel
theorem dX0_byLines_36 : decode cX0_byLines 36 = .ok (.if_icmp .ne 7, 3) := by decide +kernel
theorem dX0_byLines_39 : decode cX0_byLines 39 = .ok (.iconst 1, 1) := by decide +kernel
theorem dX0_byLines_40 : decode cX0_byLines 40 = .ok (.goto 40, 3) := by decide +kernel
theorem dX0_byLines_43 : decode cX0_byLines 43 = .ok (.iconst 0, 1) := by decide +kernel
theorem dX0_byLines_44 : decode cX0_byLines 44 = .ok (.goto 36, 3) := by decide +kernel
theorem dX0_byLines_47 : decode cX0_byLines 47 = .ok (.iload_n 0, 1) := by decide +kernel
theorem dX0_byLines_48 : decode cX0_byLines 48 = .ok (.iconst 4, 1) := by decide +kernel
theorem dX0_byLines_49 : decode cX0_byLines 49 = .ok (.if_icmp .ne 16, 3) := by decide +kernel
theorem dX0_byLines_52 : decode cX0_byLines 52 = .ok (.iload 6, 2) := by decide +kernel
theorem dX0_byLines_54 : decode cX0_byLines 54 = .ok (.ifCond .eq 7, 3) := by decide +kernel
theorem dX0_byLines_57 : decode cX0_byLines 57 = .ok (.iconst 1, 1) := by decide +kernel
theorem dX0_byLines_58 : decode cX0_byLines 58 = .ok (.goto 22, 3) := by decide +kernel
theorem dX0_byLines_61 : decode cX0_byLines 61 = .ok (.iconst 0, 1) := by decide +kernel
theorem dX0_byLines_62 : decode cX0_byLines 62 = .ok (.goto 18, 3) := by decide +kernel
theorem dX0_byLines_65 : decode cX0_byLines 65 = .ok (.iload 6, 2) := by decide +kernel
theorem dX0_byLines_67 : decode cX0_byLines 67 = .ok (.iload 5, 2) := by decide +kernel
theorem dX0_byLines_69 : decode cX0_byLines 69 = .ok (.ishr, 1) := by decide +kernel
theorem dX0_byLines_70 : decode cX0_byLines 70 = .ok (.iconst 1, 1) := by decide +kernel
theorem dX0_byLines_71 : decode cX0_byLines 71 = .ok (.iand, 1) := by decide +kernel
theorem dX0_byLines_72 : decode cX0_byLines 72 = .ok (.ifCond .eq 7, 3) := by decide +kernel
theorem dX0_byLines_75 : decode cX0_byLines 75 = .ok (.iconst 1, 1) := by decide +kernel
theorem dX0_byLines_76 : decode cX0_byLines 76 = .ok (.goto 4, 3) := by decide +kernel
theorem dX0_byLines_79 : decode cX0_byLines 79 = .ok (.iconst 0, 1) := by decide +kernel
theorem dX0_byLines_80 : decode cX0_byLines 80 = .ok (.istore 7, 2) := by decide +kernel
theorem dX0_byLines_82 : decode cX0_byLines 82 = .ok (.iload 7, 2) := by decide +kernel
theorem dX0_byLines_84 : decode cX0_byLines 84 = .ok (.ifCond .eq 14, 3) := by decide +kernel
theorem dX0_byLines_87 : decode cX0_byLines 87 = .ok (.iload 4, 2) := by decide +kernel
theorem dX0_byLines_89 : decode cX0_byLines 89 = .ok (.iload_n 3, 1) := by decide +kernel
theorem dX0_byLines_90 : decode cX0_byLines 90 = .ok (.iload 5, 2) := by decide +kernel
theorem dX0_byLines_92 : decode cX0_byLines 92 = .ok (.iload_n 1, 1) := by decide +kernel
theorem dX0_byLines_93 : decode cX0_byLines 93 = .ok (.imul, 1) := by decide +kernel
theorem dX0_byLines_94 : decode cX0_byLines 94 = .ok (.ishl, 1) := by decide +kernel
theorem dX0_byLines_95 : decode cX0_byLines 95 = .ok (.ior, 1) := by decide +kernel
theorem dX0_byLines_96 : decode cX0_byLines 96 = .ok (.istore 4, 2) := by decide +kernel
theorem dX0_byLines_98 : decode cX0_byLines 98 = .ok (.iinc 5 1, 3) := by decide +kernel
theorem dX0_byLines_101 : decode cX0_byLines 101 = .ok (.goto (-89), 3) := by decide +kernel
theorem dX0_byLines_104 : decode cX0_byLines 104 = .ok (.iload 4, 2) := by decide +kernel
theorem dX0_byLines_106 : decode cX0_byLines 106 = .ok (.ireturn, 1) := by decide +kernel
theorem dX1_init_0 : decode cX1_init 0 = .ok (.aload_n 0, 1) := by decide +kernel
theorem dX1_init_1 : decode cX1_init 1 = .ok (.invokespecial 3, 3) := by decide +kernel
theorem dX1_init_4 : decode cX1_init 4 = .ok (.aload_n 0, 1) := by decide +kernel
theorem dX1_init_5 : decode cX1_init 5 = .ok (.sipush 3341, 3) := by decide +kernel
theorem dX1_init_8 : decode cX1_init 8 = .ok (.newarray .int, 2) := by decide +kernel
theorem dX1_init_10 : decode cX1_init 10 = .ok (.putfield 11, 3) := by decide +kernel
theorem dX1_init_13 : decode cX1_init 13 = .ok (.aload_n 0, 1) := by decide +kernel
theorem dX1_init_14 : decode cX1_init 14 = .ok (.sipush 3341, 3) := by decide +kernel
theorem dX1_init_17 : decode cX1_init 17 = .ok (.newarray .int, 2) := by decide +kernel
theorem dX1_init_19 : decode cX1_init 19 = .ok (.putfield 15, 3) := by decide +kernel
theorem dX1_init_22 : decode cX1_init 22 = .ok (.aload_n 0, 1) := by decide +kernel
theorem dX1_init_23 : decode cX1_init 23 = .ok (.sipush 3341, 3) := by decide +kernel
theorem dX1_init_26 : decode cX1_init 26 = .ok (.newarray .int, 2) := by decide +kernel
theorem dX1_init_28 : decode cX1_init 28 = .ok (.putfield 18, 3) := by decide +kernel
theorem dX1_init_31 : decode cX1_init 31 = .ok (.aload_n 0, 1) := by decide +kernel
theorem dX1_init_32 : decode cX1_init 32 = .ok (.sipush 3341, 3) := by decide +kernel
theorem dX1_init_35 : decode cX1_init 35 = .ok (.newarray .int, 2) := by decide +kernel
theorem dX1_init_37 : decode cX1_init 37 = .ok (.putfield 21, 3) := by decide +kernel
theorem dX1_init_40 : decode cX1_init 40 = .ok (.aload_n 0, 1) := by decide +kernel
theorem dX1_init_41 : decode cX1_init 41 = .ok (.iconst 0, 1) := by decide +kernel
theorem dX1_init_42 : decode cX1_init 42 = .ok (.putfield 24, 3) := by decide +kernel
theorem dX1_init_45 : decode cX1_init 45 = .ok (.aload_n 0, 1) := by decide +kernel
theorem dX1_init_46 : decode cX1_init 46 = .ok (.iconst 0, 1) := by decide +kernel
theorem dX1_init_47 : decode cX1_init 47 = .ok (.putfield 28, 3) := by decide +kernel
theorem dX1_init_50 : decode cX1_init 50 = .ok (.aload_n 0, 1) := by decide +kernel
theorem dX1_init_51 : decode cX1_init 51 = .ok (.iconst 0, 1) := by decide +kernel
theorem dX1_init_52 : decode cX1_init 52 = .ok (.putfield 31, 3) := by decide +kernel
theorem dX1_init_55 : decode cX1_init 55 = .ok (.aload_n 0, 1) := by decide +kernel
theorem dX1_init_56 : decode cX1_init 56 = .ok (.aload_n 1, 1) := by decide +kernel
theorem dX1_init_57 : decode cX1_init 57 = .ok (.putfield 35, 3) := by decide +kernel
theorem dX1_init_60 : decode cX1_init 60 = .ok (.aload_n 0, 1) := by decide +kernel
theorem dX1_init_61 : decode cX1_init 61 = .ok (.getfield 21, 3) := by decide +kernel
theorem dX1_init_64 : decode cX1_init 64 = .ok (.iconst 0, 1) := by decide +kernel
theorem dX1_init_65 : decode cX1_init 65 = .ok (.invokestatic 39, 3) := by decide +kernel
theorem dX1_init_68 : decode cX1_init 68 = .ok (.iconst 1, 1) := by decide +kernel
theorem dX1_init_69 : decode cX1_init 69 = .ok (.invokestatic 39, 3) := by decide +kernel
theorem dX1_init_72 : decode cX1_init 72 = .ok (.ior, 1) := by decide +kernel
theorem dX1_init_73 : decode cX1_init 73 = .ok (.invokestatic 43, 3) := by decide +kernel
theorem dX1_init_76 : decode cX1_init 76 = .ok (.return_, 1) := by decide +kernel
theorem dX1_slotBit_0 : decode cX1_slotBit 0 = .ok (.iconst 1, 1) := by decide +kernel
theorem dX1_slotBit_1 : decode cX1_slotBit 1 = .ok (.bipush 6, 2) := by decide +kernel
theorem dX1_slotBit_3 : decode cX1_slotBit 3 = .ok (.iload_n 0, 1) := by decide +kernel
theorem dX1_slotBit_4 : decode cX1_slotBit 4 = .ok (.iadd, 1) := by decide +kernel
theorem dX1_slotBit_5 : decode cX1_slotBit 5 = .ok (.ishl, 1) := by decide +kernel
theorem dX1_slotBit_6 : decode cX1_slotBit 6 = .ok (.ireturn, 1) := by decide +kernel
theorem dX1_sizeOf_0 : decode cX1_sizeOf 0 = .ok (.iload_n 1, 1) := by decide +kernel
theorem dX1_sizeOf_1 : decode cX1_sizeOf 1 = .ok (.getstatic 51, 3) := by decide +kernel
theorem dX1_sizeOf_4 : decode cX1_sizeOf 4 = .ok (.iconst 2, 1) := by decide +kernel
theorem dX1_sizeOf_5 : decode cX1_sizeOf 5 = .ok (.iaload, 1) := by decide +kernel
theorem dX1_sizeOf_6 : decode cX1_sizeOf 6 = .ok (.if_icmp .ge 7, 3) := by decide +kernel
theorem dX1_sizeOf_9 : decode cX1_sizeOf 9 = .ok (.iconst 1, 1) := by decide +kernel
theorem dX1_sizeOf_10 : decode cX1_sizeOf 10 = .ok (.goto 17, 3) := by decide +kernel
theorem dX1_sizeOf_13 : decode cX1_sizeOf 13 = .ok (.iload_n 1, 1) := by decide +kernel
theorem dX1_sizeOf_14 : decode cX1_sizeOf 14 = .ok (.getstatic 51, 3) := by decide +kernel
theorem dX1_sizeOf_17 : decode cX1_sizeOf 17 = .ok (.iconst 3, 1) := by decide +kernel
theorem dX1_sizeOf_18 : decode cX1_sizeOf 18 = .ok (.iaload, 1) := by decide +kernel
theorem dX1_sizeOf_19 : decode cX1_sizeOf 19 = .ok (.if_icmp .ge 7, 3) := by decide +kernel
theorem dX1_sizeOf_22 : decode cX1_sizeOf 22 = .ok (.iconst 2, 1) := by decide +kernel
theorem dX1_sizeOf_23 : decode cX1_sizeOf 23 = .ok (.goto 4, 3) := by decide +kernel
theorem dX1_sizeOf_26 : decode cX1_sizeOf 26 = .ok (.iconst 3, 1) := by decide +kernel
theorem dX1_sizeOf_27 : decode cX1_sizeOf 27 = .ok (.ireturn, 1) := by decide +kernel
theorem dX1_fill_0 : decode cX1_fill 0 = .ok (.iconst 0, 1) := by decide +kernel
theorem dX1_fill_1 : decode cX1_fill 1 = .ok (.istore_n 1, 1) := by decide +kernel
theorem dX1_fill_2 : decode cX1_fill 2 = .ok (.iconst 1, 1) := by decide +kernel
theorem dX1_fill_3 : decode cX1_fill 3 = .ok (.istore_n 2, 1) := by decide +kernel
theorem dX1_fill_4 : decode cX1_fill 4 = .ok (.iload_n 2, 1) := by decide +kernel
theorem dX1_fill_5 : decode cX1_fill 5 = .ok (.iconst 3, 1) := by decide +kernel
theorem dX1_fill_6 : decode cX1_fill 6 = .ok (.if_icmp .gt 81, 3) := by decide +kernel
theorem dX1_fill_9 : decode cX1_fill 9 = .ok (.aload_n 0, 1) := by decide +kernel
theorem dX1_fill_10 : decode cX1_fill 10 = .ok (.getfield 35, 3) := by decide +kernel
theorem dX1_fill_13 : decode cX1_fill 13 = .ok (.iload_n 2, 1) := by decide +kernel
theorem dX1_fill_14 : decode cX1_fill 14 = .ok (.iconst 0, 1) := by decide +kernel
theorem dX1_fill_15 : decode cX1_fill 15 = .ok (.invokevirtual 54, 3) := by decide +kernel
theorem dX1_fill_18 : decode cX1_fill 18 = .ok (.iconst 0, 1) := by decide +kernel
theorem dX1_fill_19 : decode cX1_fill 19 = .ok (.istore_n 3, 1) := by decide +kernel
theorem dX1_fill_20 : decode cX1_fill 20 = .ok (.iload_n 3, 1) := by decide +kernel
theorem dX1_fill_21 : decode cX1_fill 21 = .ok (.getstatic 60, 3) := by decide +kernel
theorem dX1_fill_24 : decode cX1_fill 24 = .ok (.iload_n 2, 1) := by decide +kernel
theorem dX1_fill_25 : decode cX1_fill 25 = .ok (.iaload, 1) := by decide +kernel
theorem dX1_fill_26 : decode cX1_fill 26 = .ok (.if_icmp .ge 55, 3) := by decide +kernel
theorem dX1_fill_29 : decode cX1_fill 29 = .ok (.iload_n 1, 1) := by decide +kernel
theorem dX1_fill_30 : decode cX1_fill 30 = .ok (.sipush 3341, 3) := by decide +kernel
theorem dX1_fill_33 : decode cX1_fill 33 = .ok (.if_icmp .ge 48, 3) := by decide +kernel
theorem dX1_fill_36 : decode cX1_fill 36 = .ok (.aload_n 0, 1) := by decide +kernel
theorem dX1_fill_37 : decode cX1_fill 37 = .ok (.getfield 35, 3) := by decide +kernel
theorem dX1_fill_40 : decode cX1_fill 40 = .ok (.invokevirtual 63, 3) := by decide +kernel
theorem dX1_fill_43 : decode cX1_fill 43 = .ok (.istore 4, 2) := by decide +kernel
theorem dX1_fill_45 : decode cX1_fill 45 = .ok (.iload 4, 2) := by decide +kernel
theorem dX1_fill_47 : decode cX1_fill 47 = .ok (.ifCond .le 21, 3) := by decide +kernel
theorem dX1_fill_50 : decode cX1_fill 50 = .ok (.aload_n 0, 1) := by decide +kernel
theorem dX1_fill_51 : decode cX1_fill 51 = .ok (.getfield 11, 3) := by decide +kernel
theorem dX1_fill_54 : decode cX1_fill 54 = .ok (.iload_n 1, 1) := by decide +kernel
theorem dX1_fill_55 : decode cX1_fill 55 = .ok (.iload_n 3, 1) := by decide +kernel
theorem dX1_fill_56 : decode cX1_fill 56 = .ok (.iastore, 1) := by decide +kernel
theorem dX1_fill_57 : decode cX1_fill 57 = .ok (.aload_n 0, 1) := by decide +kernel
theorem dX1_fill_58 : decode cX1_fill 58 = .ok (.getfield 15, 3) := by decide +kernel
theorem dX1_fill_61 : decode cX1_fill 61 = .ok (.iload_n 1, 1) := by decide +kernel
theorem dX1_fill_62 : decode cX1_fill 62 = .ok (.iload 4, 2) := by decide +kernel
theorem dX1_fill_64 : decode cX1_fill 64 = .ok (.iastore, 1) := by decide +kernel
theorem dX1_fill_65 : decode cX1_fill 65 = .ok (.iinc 1 1, 3) := by decide +kernel
theorem dX1_fill_68 : decode cX1_fill 68 = .ok (.aload_n 0, 1) := by decide +kernel
theorem dX1_fill_69 : decode cX1_fill 69 = .ok (.getfield 35, 3) := by decide +kernel
theorem dX1_fill_72 : decode cX1_fill 72 = .ok (.invokevirtual 67, 3) := by decide +kernel
theorem dX1_fill_75 : decode cX1_fill 75 = .ok (.iinc 3 1, 3) := by decide +kernel
theorem dX1_fill_78 : decode cX1_fill 78 = .ok (.goto (-58), 3) := by decide +kernel
theorem dX1_fill_81 : decode cX1_fill 81 = .ok (.iinc 2 1, 3) := by decide +kernel
theorem dX1_fill_84 : decode cX1_fill 84 = .ok (.goto (-80), 3) := by decide +kernel
theorem dX1_fill_87 : decode cX1_fill 87 = .ok (.aload_n 0, 1) := by decide +kernel
theorem dX1_fill_88 : decode cX1_fill 88 = .ok (.iconst 1, 1) := by decide +kernel
theorem dX1_fill_89 : decode cX1_fill 89 = .ok (.putfield 24, 3) := by decide +kernel
theorem dX1_fill_92 : decode cX1_fill 92 = .ok (.return_, 1) := by decide +kernel
theorem dX1_forgetLaws_0 : decode cX1_forgetLaws 0 = .ok (.aload_n 0, 1) := by decide +kernel
theorem dX1_forgetLaws_1 : decode cX1_forgetLaws 1 = .ok (.aload_n 0, 1) := by decide +kernel
theorem dX1_forgetLaws_2 : decode cX1_forgetLaws 2 = .ok (.getfield 31, 3) := by decide +kernel
theorem dX1_forgetLaws_5 : decode cX1_forgetLaws 5 = .ok (.iload_n 1, 1) := by decide +kernel
theorem dX1_forgetLaws_6 : decode cX1_forgetLaws 6 = .ok (.invokestatic 70, 3) := by decide +kernel
theorem dX1_forgetLaws_9 : decode cX1_forgetLaws 9 = .ok (.putfield 31, 3) := by decide +kernel
theorem dX1_forgetLaws_12 : decode cX1_forgetLaws 12 = .ok (.return_, 1) := by decide +kernel
theorem dX1_settle_0 : decode cX1_settle 0 = .ok (.aload_n 0, 1) := by decide +kernel
theorem dX1_settle_1 : decode cX1_settle 1 = .ok (.getfield 24, 3) := by decide +kernel
theorem dX1_settle_4 : decode cX1_settle 4 = .ok (.ifCond .ne 7, 3) := by decide +kernel
theorem dX1_settle_7 : decode cX1_settle 7 = .ok (.aload_n 0, 1) := by decide +kernel
theorem dX1_settle_8 : decode cX1_settle 8 = .ok (.invokevirtual 76, 3) := by decide +kernel
theorem dX1_settle_11 : decode cX1_settle 11 = .ok (.aload_n 0, 1) := by decide +kernel
theorem dX1_settle_12 : decode cX1_settle 12 = .ok (.getfield 31, 3) := by decide +kernel
theorem dX1_settle_15 : decode cX1_settle 15 = .ok (.aload_n 2, 1) := by decide +kernel
theorem dX1_settle_16 : decode cX1_settle 16 = .ok (.getfield 78, 3) := by decide +kernel
theorem dX1_settle_19 : decode cX1_settle 19 = .ok (.if_icmp .ge 51, 3) := by decide +kernel
theorem dX1_settle_22 : decode cX1_settle 22 = .ok (.iconst 0, 1) := by decide +kernel
theorem dX1_settle_23 : decode cX1_settle 23 = .ok (.istore_n 3, 1) := by decide +kernel
theorem dX1_settle_24 : decode cX1_settle 24 = .ok (.iload_n 3, 1) := by decide +kernel
theorem dX1_settle_25 : decode cX1_settle 25 = .ok (.sipush 3341, 3) := by decide +kernel
theorem dX1_settle_28 : decode cX1_settle 28 = .ok (.if_icmp .ge 34, 3) := by decide +kernel
theorem dX1_settle_31 : decode cX1_settle 31 = .ok (.aload_n 0, 1) := by decide +kernel
theorem dX1_settle_32 : decode cX1_settle 32 = .ok (.getfield 35, 3) := by decide +kernel
theorem dX1_settle_35 : decode cX1_settle 35 = .ok (.aload_n 0, 1) := by decide +kernel
theorem dX1_settle_36 : decode cX1_settle 36 = .ok (.iload_n 3, 1) := by decide +kernel
theorem dX1_settle_37 : decode cX1_settle 37 = .ok (.invokevirtual 81, 3) := by decide +kernel
theorem dX1_settle_40 : decode cX1_settle 40 = .ok (.aload_n 0, 1) := by decide +kernel
theorem dX1_settle_41 : decode cX1_settle 41 = .ok (.getfield 11, 3) := by decide +kernel
theorem dX1_settle_44 : decode cX1_settle 44 = .ok (.iload_n 3, 1) := by decide +kernel
theorem dX1_settle_45 : decode cX1_settle 45 = .ok (.iaload, 1) := by decide +kernel
theorem dX1_settle_46 : decode cX1_settle 46 = .ok (.invokevirtual 54, 3) := by decide +kernel
theorem dX1_settle_49 : decode cX1_settle 49 = .ok (.aload_n 0, 1) := by decide +kernel
theorem dX1_settle_50 : decode cX1_settle 50 = .ok (.aload_n 1, 1) := by decide +kernel
theorem dX1_settle_51 : decode cX1_settle 51 = .ok (.aload_n 2, 1) := by decide +kernel
theorem dX1_settle_52 : decode cX1_settle 52 = .ok (.iload_n 3, 1) := by decide +kernel
theorem dX1_settle_53 : decode cX1_settle 53 = .ok (.invokevirtual 84, 3) := by decide +kernel
theorem dX1_settle_56 : decode cX1_settle 56 = .ok (.iinc 3 1, 3) := by decide +kernel
theorem dX1_settle_59 : decode cX1_settle 59 = .ok (.goto (-35), 3) := by decide +kernel
theorem dX1_settle_62 : decode cX1_settle 62 = .ok (.aload_n 0, 1) := by decide +kernel
theorem dX1_settle_63 : decode cX1_settle 63 = .ok (.aload_n 2, 1) := by decide +kernel
theorem dX1_settle_64 : decode cX1_settle 64 = .ok (.getfield 78, 3) := by decide +kernel
theorem dX1_settle_67 : decode cX1_settle 67 = .ok (.putfield 31, 3) := by decide +kernel
theorem dX1_settle_70 : decode cX1_settle 70 = .ok (.return_, 1) := by decide +kernel
theorem dX1_tryLaws_0 : decode cX1_tryLaws 0 = .ok (.aload_n 0, 1) := by decide +kernel
theorem dX1_tryLaws_1 : decode cX1_tryLaws 1 = .ok (.getfield 31, 3) := by decide +kernel
theorem dX1_tryLaws_4 : decode cX1_tryLaws 4 = .ok (.istore 4, 2) := by decide +kernel
theorem dX1_tryLaws_6 : decode cX1_tryLaws 6 = .ok (.iload 4, 2) := by decide +kernel
theorem dX1_tryLaws_8 : decode cX1_tryLaws 8 = .ok (.aload_n 2, 1) := by decide +kernel
theorem dX1_tryLaws_9 : decode cX1_tryLaws 9 = .ok (.getfield 78, 3) := by decide +kernel
theorem dX1_tryLaws_12 : decode cX1_tryLaws 12 = .ok (.if_icmp .ge 65, 3) := by decide +kernel
theorem dX1_tryLaws_15 : decode cX1_tryLaws 15 = .ok (.aload_n 0, 1) := by decide +kernel
theorem dX1_tryLaws_16 : decode cX1_tryLaws 16 = .ok (.getfield 35, 3) := by decide +kernel
theorem dX1_tryLaws_19 : decode cX1_tryLaws 19 = .ok (.aload_n 1, 1) := by decide +kernel
theorem dX1_tryLaws_20 : decode cX1_tryLaws 20 = .ok (.aload_n 2, 1) := by decide +kernel
theorem dX1_tryLaws_21 : decode cX1_tryLaws 21 = .ok (.getfield 88, 3) := by decide +kernel
theorem dX1_tryLaws_24 : decode cX1_tryLaws 24 = .ok (.iload 4, 2) := by decide +kernel
theorem dX1_tryLaws_26 : decode cX1_tryLaws 26 = .ok (.iaload, 1) := by decide +kernel
theorem dX1_tryLaws_27 : decode cX1_tryLaws 27 = .ok (.aload_n 2, 1) := by decide +kernel
theorem dX1_tryLaws_28 : decode cX1_tryLaws 28 = .ok (.getfield 91, 3) := by decide +kernel
theorem dX1_tryLaws_31 : decode cX1_tryLaws 31 = .ok (.iload 4, 2) := by decide +kernel
theorem dX1_tryLaws_33 : decode cX1_tryLaws 33 = .ok (.iaload, 1) := by decide +kernel
theorem dX1_tryLaws_34 : decode cX1_tryLaws 34 = .ok (.invokevirtual 94, 3) := by decide +kernel
theorem dX1_tryLaws_37 : decode cX1_tryLaws 37 = .ok (.ifCond .eq 19, 3) := by decide +kernel
theorem dX1_tryLaws_40 : decode cX1_tryLaws 40 = .ok (.aload_n 0, 1) := by decide +kernel
theorem dX1_tryLaws_41 : decode cX1_tryLaws 41 = .ok (.getfield 21, 3) := by decide +kernel
theorem dX1_tryLaws_44 : decode cX1_tryLaws 44 = .ok (.iload_n 3, 1) := by decide +kernel
theorem dX1_tryLaws_45 : decode cX1_tryLaws 45 = .ok (.dup2, 1) := by decide +kernel
theorem dX1_tryLaws_46 : decode cX1_tryLaws 46 = .ok (.iaload, 1) := by decide +kernel
theorem dX1_tryLaws_47 : decode cX1_tryLaws 47 = .ok (.iconst 1, 1) := by decide +kernel
theorem dX1_tryLaws_48 : decode cX1_tryLaws 48 = .ok (.iload 4, 2) := by decide +kernel
theorem dX1_tryLaws_50 : decode cX1_tryLaws 50 = .ok (.ishl, 1) := by decide +kernel
theorem dX1_tryLaws_51 : decode cX1_tryLaws 51 = .ok (.ior, 1) := by decide +kernel
theorem dX1_tryLaws_52 : decode cX1_tryLaws 52 = .ok (.iastore, 1) := by decide +kernel
theorem dX1_tryLaws_53 : decode cX1_tryLaws 53 = .ok (.goto 18, 3) := by decide +kernel
theorem dX1_tryLaws_56 : decode cX1_tryLaws 56 = .ok (.aload_n 0, 1) := by decide +kernel
theorem dX1_tryLaws_57 : decode cX1_tryLaws 57 = .ok (.getfield 21, 3) := by decide +kernel
theorem dX1_tryLaws_60 : decode cX1_tryLaws 60 = .ok (.iload_n 3, 1) := by decide +kernel
theorem dX1_tryLaws_61 : decode cX1_tryLaws 61 = .ok (.dup2, 1) := by decide +kernel
theorem dX1_tryLaws_62 : decode cX1_tryLaws 62 = .ok (.iaload, 1) := by decide +kernel
theorem dX1_tryLaws_63 : decode cX1_tryLaws 63 = .ok (.iconst 1, 1) := by decide +kernel
theorem dX1_tryLaws_64 : decode cX1_tryLaws 64 = .ok (.iload 4, 2) := by decide +kernel
theorem dX1_tryLaws_66 : decode cX1_tryLaws 66 = .ok (.ishl, 1) := by decide +kernel
theorem dX1_tryLaws_67 : decode cX1_tryLaws 67 = .ok (.iconst (-1), 1) := by decide +kernel
theorem dX1_tryLaws_68 : decode cX1_tryLaws 68 = .ok (.ixor, 1) := by decide +kernel
theorem dX1_tryLaws_69 : decode cX1_tryLaws 69 = .ok (.iand, 1) := by decide +kernel
theorem dX1_tryLaws_70 : decode cX1_tryLaws 70 = .ok (.iastore, 1) := by decide +kernel
theorem dX1_tryLaws_71 : decode cX1_tryLaws 71 = .ok (.iinc 4 1, 3) := by decide +kernel
theorem dX1_tryLaws_74 : decode cX1_tryLaws 74 = .ok (.goto (-68), 3) := by decide +kernel
theorem dX1_tryLaws_77 : decode cX1_tryLaws 77 = .ok (.return_, 1) := by decide +kernel
theorem dX1_keepsAll_0 : decode cX1_keepsAll 0 = .ok (.aload_n 0, 1) := by decide +kernel
theorem dX1_keepsAll_1 : decode cX1_keepsAll 1 = .ok (.getfield 21, 3) := by decide +kernel
theorem dX1_keepsAll_4 : decode cX1_keepsAll 4 = .ok (.iload_n 1, 1) := by decide +kernel
theorem dX1_keepsAll_5 : decode cX1_keepsAll 5 = .ok (.iaload, 1) := by decide +kernel
theorem dX1_keepsAll_6 : decode cX1_keepsAll 6 = .ok (.iload_n 2, 1) := by decide +kernel
theorem dX1_keepsAll_7 : decode cX1_keepsAll 7 = .ok (.iand, 1) := by decide +kernel
theorem dX1_keepsAll_8 : decode cX1_keepsAll 8 = .ok (.iload_n 2, 1) := by decide +kernel
theorem dX1_keepsAll_9 : decode cX1_keepsAll 9 = .ok (.if_icmp .ne 7, 3) := by decide +kernel
theorem dX1_keepsAll_12 : decode cX1_keepsAll 12 = .ok (.iconst 1, 1) := by decide +kernel
theorem dX1_keepsAll_13 : decode cX1_keepsAll 13 = .ok (.goto 4, 3) := by decide +kernel
theorem dX1_keepsAll_16 : decode cX1_keepsAll 16 = .ok (.iconst 0, 1) := by decide +kernel
theorem dX1_keepsAll_17 : decode cX1_keepsAll 17 = .ok (.ireturn, 1) := by decide +kernel
theorem dX1_howMany_0 : decode cX1_howMany 0 = .ok (.iconst 0, 1) := by decide +kernel
theorem dX1_howMany_1 : decode cX1_howMany 1 = .ok (.istore 4, 2) := by decide +kernel
theorem dX1_howMany_3 : decode cX1_howMany 3 = .ok (.getstatic 51, 3) := by decide +kernel
theorem dX1_howMany_6 : decode cX1_howMany 6 = .ok (.iload_n 1, 1) := by decide +kernel
theorem dX1_howMany_7 : decode cX1_howMany 7 = .ok (.iaload, 1) := by decide +kernel
theorem dX1_howMany_8 : decode cX1_howMany 8 = .ok (.istore 5, 2) := by decide +kernel
theorem dX1_howMany_10 : decode cX1_howMany 10 = .ok (.iload 5, 2) := by decide +kernel
theorem dX1_howMany_12 : decode cX1_howMany 12 = .ok (.getstatic 51, 3) := by decide +kernel
theorem dX1_howMany_15 : decode cX1_howMany 15 = .ok (.iload_n 1, 1) := by decide +kernel
theorem dX1_howMany_16 : decode cX1_howMany 16 = .ok (.iconst 1, 1) := by decide +kernel
theorem dX1_howMany_17 : decode cX1_howMany 17 = .ok (.iadd, 1) := by decide +kernel
theorem dX1_howMany_18 : decode cX1_howMany 18 = .ok (.iaload, 1) := by decide +kernel
theorem dX1_howMany_19 : decode cX1_howMany 19 = .ok (.if_icmp .ge 39, 3) := by decide +kernel
theorem dX1_howMany_22 : decode cX1_howMany 22 = .ok (.aload_n 0, 1) := by decide +kernel
theorem dX1_howMany_23 : decode cX1_howMany 23 = .ok (.iload 5, 2) := by decide +kernel
theorem dX1_howMany_25 : decode cX1_howMany 25 = .ok (.iload_n 2, 1) := by decide +kernel
theorem dX1_howMany_26 : decode cX1_howMany 26 = .ok (.invokevirtual 98, 3) := by decide +kernel
theorem dX1_howMany_29 : decode cX1_howMany 29 = .ok (.ifCond .eq 23, 3) := by decide +kernel
theorem dX1_howMany_32 : decode cX1_howMany 32 = .ok (.iload 4, 2) := by decide +kernel
theorem dX1_howMany_34 : decode cX1_howMany 34 = .ok (.iload_n 3, 1) := by decide +kernel
theorem dX1_howMany_35 : decode cX1_howMany 35 = .ok (.ifCond .eq 7, 3) := by decide +kernel
theorem dX1_howMany_38 : decode cX1_howMany 38 = .ok (.iconst 1, 1) := by decide +kernel
theorem dX1_howMany_39 : decode cX1_howMany 39 = .ok (.goto 10, 3) := by decide +kernel
theorem dX1_howMany_42 : decode cX1_howMany 42 = .ok (.aload_n 0, 1) := by decide +kernel
theorem dX1_howMany_43 : decode cX1_howMany 43 = .ok (.getfield 15, 3) := by decide +kernel
theorem dX1_howMany_46 : decode cX1_howMany 46 = .ok (.iload 5, 2) := by decide +kernel
theorem dX1_howMany_48 : decode cX1_howMany 48 = .ok (.iaload, 1) := by decide +kernel
theorem dX1_howMany_49 : decode cX1_howMany 49 = .ok (.iadd, 1) := by decide +kernel
theorem dX1_howMany_50 : decode cX1_howMany 50 = .ok (.istore 4, 2) := by decide +kernel
theorem dX1_howMany_52 : decode cX1_howMany 52 = .ok (.iinc 5 1, 3) := by decide +kernel
theorem dX1_howMany_55 : decode cX1_howMany 55 = .ok (.goto (-45), 3) := by decide +kernel
theorem dX1_howMany_58 : decode cX1_howMany 58 = .ok (.iload 4, 2) := by decide +kernel
theorem dX1_howMany_60 : decode cX1_howMany 60 = .ok (.ireturn, 1) := by decide +kernel
theorem dX1_numberOf_0 : decode cX1_numberOf 0 = .ok (.iconst 0, 1) := by decide +kernel
theorem dX1_numberOf_1 : decode cX1_numberOf 1 = .ok (.istore 4, 2) := by decide +kernel
theorem dX1_numberOf_3 : decode cX1_numberOf 3 = .ok (.getstatic 51, 3) := by decide +kernel
theorem dX1_numberOf_6 : decode cX1_numberOf 6 = .ok (.iload_n 1, 1) := by decide +kernel
theorem dX1_numberOf_7 : decode cX1_numberOf 7 = .ok (.iaload, 1) := by decide +kernel
theorem dX1_numberOf_8 : decode cX1_numberOf 8 = .ok (.istore 5, 2) := by decide +kernel
theorem dX1_numberOf_10 : decode cX1_numberOf 10 = .ok (.iload 5, 2) := by decide +kernel
theorem dX1_numberOf_12 : decode cX1_numberOf 12 = .ok (.getstatic 51, 3) := by decide +kernel
theorem dX1_numberOf_15 : decode cX1_numberOf 15 = .ok (.iload_n 1, 1) := by decide +kernel
theorem dX1_numberOf_16 : decode cX1_numberOf 16 = .ok (.iconst 1, 1) := by decide +kernel
theorem dX1_numberOf_17 : decode cX1_numberOf 17 = .ok (.iadd, 1) := by decide +kernel
theorem dX1_numberOf_18 : decode cX1_numberOf 18 = .ok (.iaload, 1) := by decide +kernel
theorem dX1_numberOf_19 : decode cX1_numberOf 19 = .ok (.if_icmp .ge 36, 3) := by decide +kernel
theorem dX1_numberOf_22 : decode cX1_numberOf 22 = .ok (.aload_n 0, 1) := by decide +kernel
theorem dX1_numberOf_23 : decode cX1_numberOf 23 = .ok (.iload 5, 2) := by decide +kernel
theorem dX1_numberOf_25 : decode cX1_numberOf 25 = .ok (.iload_n 2, 1) := by decide +kernel
theorem dX1_numberOf_26 : decode cX1_numberOf 26 = .ok (.invokevirtual 98, 3) := by decide +kernel
theorem dX1_numberOf_29 : decode cX1_numberOf 29 = .ok (.ifCond .eq 20, 3) := by decide +kernel
theorem dX1_numberOf_32 : decode cX1_numberOf 32 = .ok (.iload 4, 2) := by decide +kernel
theorem dX1_numberOf_34 : decode cX1_numberOf 34 = .ok (.iload_n 3, 1) := by decide +kernel
theorem dX1_numberOf_35 : decode cX1_numberOf 35 = .ok (.if_icmp .ne 11, 3) := by decide +kernel
theorem dX1_numberOf_38 : decode cX1_numberOf 38 = .ok (.aload_n 0, 1) := by decide +kernel
theorem dX1_numberOf_39 : decode cX1_numberOf 39 = .ok (.getfield 11, 3) := by decide +kernel
theorem dX1_numberOf_42 : decode cX1_numberOf 42 = .ok (.iload 5, 2) := by decide +kernel
theorem dX1_numberOf_44 : decode cX1_numberOf 44 = .ok (.iaload, 1) := by decide +kernel
theorem dX1_numberOf_45 : decode cX1_numberOf 45 = .ok (.ireturn, 1) := by decide +kernel
theorem dX1_numberOf_46 : decode cX1_numberOf 46 = .ok (.iinc 4 1, 3) := by decide +kernel
theorem dX1_numberOf_49 : decode cX1_numberOf 49 = .ok (.iinc 5 1, 3) := by decide +kernel
theorem dX1_numberOf_52 : decode cX1_numberOf 52 = .ok (.goto (-42), 3) := by decide +kernel
theorem dX1_numberOf_55 : decode cX1_numberOf 55 = .ok (.bipush (-9), 2) := by decide +kernel
theorem dX1_numberOf_57 : decode cX1_numberOf 57 = .ok (.ireturn, 1) := by decide +kernel
theorem dX1_isNeeded_0 : decode cX1_isNeeded 0 = .ok (.iload_n 2, 1) := by decide +kernel
theorem dX1_isNeeded_1 : decode cX1_isNeeded 1 = .ok (.iconst 1, 1) := by decide +kernel
theorem dX1_isNeeded_2 : decode cX1_isNeeded 2 = .ok (.iload_n 1, 1) := by decide +kernel
theorem dX1_isNeeded_3 : decode cX1_isNeeded 3 = .ok (.ishl, 1) := by decide +kernel
theorem dX1_isNeeded_4 : decode cX1_isNeeded 4 = .ok (.iconst (-1), 1) := by decide +kernel
theorem dX1_isNeeded_5 : decode cX1_isNeeded 5 = .ok (.ixor, 1) := by decide +kernel
theorem dX1_isNeeded_6 : decode cX1_isNeeded 6 = .ok (.iand, 1) := by decide +kernel
theorem dX1_isNeeded_7 : decode cX1_isNeeded 7 = .ok (.istore_n 3, 1) := by decide +kernel
theorem dX1_isNeeded_8 : decode cX1_isNeeded 8 = .ok (.iconst 0, 1) := by decide +kernel
theorem dX1_isNeeded_9 : decode cX1_isNeeded 9 = .ok (.istore 4, 2) := by decide +kernel
theorem dX1_isNeeded_11 : decode cX1_isNeeded 11 = .ok (.iload 4, 2) := by decide +kernel
theorem dX1_isNeeded_13 : decode cX1_isNeeded 13 = .ok (.sipush 3341, 3) := by decide +kernel
theorem dX1_isNeeded_16 : decode cX1_isNeeded 16 = .ok (.if_icmp .ge 33, 3) := by decide +kernel
theorem dX1_isNeeded_19 : decode cX1_isNeeded 19 = .ok (.aload_n 0, 1) := by decide +kernel
theorem dX1_isNeeded_20 : decode cX1_isNeeded 20 = .ok (.iload 4, 2) := by decide +kernel
theorem dX1_isNeeded_22 : decode cX1_isNeeded 22 = .ok (.iload_n 3, 1) := by decide +kernel
theorem dX1_isNeeded_23 : decode cX1_isNeeded 23 = .ok (.invokevirtual 98, 3) := by decide +kernel
theorem dX1_isNeeded_26 : decode cX1_isNeeded 26 = .ok (.ifCond .eq 17, 3) := by decide +kernel
theorem dX1_isNeeded_29 : decode cX1_isNeeded 29 = .ok (.aload_n 0, 1) := by decide +kernel
theorem dX1_isNeeded_30 : decode cX1_isNeeded 30 = .ok (.iload 4, 2) := by decide +kernel
theorem dX1_isNeeded_32 : decode cX1_isNeeded 32 = .ok (.iconst 1, 1) := by decide +kernel
theorem dX1_isNeeded_33 : decode cX1_isNeeded 33 = .ok (.iload_n 1, 1) := by decide +kernel
theorem dX1_isNeeded_34 : decode cX1_isNeeded 34 = .ok (.ishl, 1) := by decide +kernel
theorem dX1_isNeeded_35 : decode cX1_isNeeded 35 = .ok (.invokevirtual 98, 3) := by decide +kernel
theorem dX1_isNeeded_38 : decode cX1_isNeeded 38 = .ok (.ifCond .ne 5, 3) := by decide +kernel
theorem dX1_isNeeded_41 : decode cX1_isNeeded 41 = .ok (.iconst 1, 1) := by decide +kernel
theorem dX1_isNeeded_42 : decode cX1_isNeeded 42 = .ok (.ireturn, 1) := by decide +kernel
theorem dX1_isNeeded_43 : decode cX1_isNeeded 43 = .ok (.iinc 4 1, 3) := by decide +kernel
theorem dX1_isNeeded_46 : decode cX1_isNeeded 46 = .ok (.goto (-35), 3) := by decide +kernel
theorem dX1_isNeeded_49 : decode cX1_isNeeded 49 = .ok (.iconst 0, 1) := by decide +kernel
theorem dX1_isNeeded_50 : decode cX1_isNeeded 50 = .ok (.ireturn, 1) := by decide +kernel
theorem dX1_isEven_0 : decode cX1_isEven 0 = .ok (.aload_n 0, 1) := by decide +kernel
theorem dX1_isEven_1 : decode cX1_isEven 1 = .ok (.invokevirtual 102, 3) := by decide +kernel
theorem dX1_isEven_4 : decode cX1_isEven 4 = .ok (.iconst 0, 1) := by decide +kernel
theorem dX1_isEven_5 : decode cX1_isEven 5 = .ok (.istore_n 2, 1) := by decide +kernel
theorem dX1_isEven_6 : decode cX1_isEven 6 = .ok (.iload_n 2, 1) := by decide +kernel
theorem dX1_isEven_7 : decode cX1_isEven 7 = .ok (.sipush 3341, 3) := by decide +kernel
theorem dX1_isEven_10 : decode cX1_isEven 10 = .ok (.if_icmp .ge 34, 3) := by decide +kernel
theorem dX1_isEven_13 : decode cX1_isEven 13 = .ok (.aload_n 0, 1) := by decide +kernel
theorem dX1_isEven_14 : decode cX1_isEven 14 = .ok (.iload_n 2, 1) := by decide +kernel
theorem dX1_isEven_15 : decode cX1_isEven 15 = .ok (.iload_n 1, 1) := by decide +kernel
theorem dX1_isEven_16 : decode cX1_isEven 16 = .ok (.invokevirtual 98, 3) := by decide +kernel
theorem dX1_isEven_19 : decode cX1_isEven 19 = .ok (.ifCond .eq 19, 3) := by decide +kernel
theorem dX1_isEven_22 : decode cX1_isEven 22 = .ok (.aload_n 0, 1) := by decide +kernel
theorem dX1_isEven_23 : decode cX1_isEven 23 = .ok (.aload_n 0, 1) := by decide +kernel
theorem dX1_isEven_24 : decode cX1_isEven 24 = .ok (.getfield 18, 3) := by decide +kernel
theorem dX1_isEven_27 : decode cX1_isEven 27 = .ok (.iload_n 2, 1) := by decide +kernel
theorem dX1_isEven_28 : decode cX1_isEven 28 = .ok (.iaload, 1) := by decide +kernel
theorem dX1_isEven_29 : decode cX1_isEven 29 = .ok (.iload_n 1, 1) := by decide +kernel
theorem dX1_isEven_30 : decode cX1_isEven 30 = .ok (.invokevirtual 98, 3) := by decide +kernel
theorem dX1_isEven_33 : decode cX1_isEven 33 = .ok (.ifCond .ne 5, 3) := by decide +kernel
theorem dX1_isEven_36 : decode cX1_isEven 36 = .ok (.iconst 0, 1) := by decide +kernel
theorem dX1_isEven_37 : decode cX1_isEven 37 = .ok (.ireturn, 1) := by decide +kernel
theorem dX1_isEven_38 : decode cX1_isEven 38 = .ok (.iinc 2 1, 3) := by decide +kernel
theorem dX1_isEven_41 : decode cX1_isEven 41 = .ok (.goto (-35), 3) := by decide +kernel
theorem dX1_isEven_44 : decode cX1_isEven 44 = .ok (.iconst 1, 1) := by decide +kernel
theorem dX1_isEven_45 : decode cX1_isEven 45 = .ok (.ireturn, 1) := by decide +kernel
theorem dX1_keepPage_0 : decode cX1_keepPage 0 = .ok (.iconst 0, 1) := by decide +kernel
theorem dX1_keepPage_1 : decode cX1_keepPage 1 = .ok (.istore_n 3, 1) := by decide +kernel
theorem dX1_keepPage_2 : decode cX1_keepPage 2 = .ok (.iload_n 3, 1) := by decide +kernel
theorem dX1_keepPage_3 : decode cX1_keepPage 3 = .ok (.sipush 3341, 3) := by decide +kernel
theorem dX1_keepPage_6 : decode cX1_keepPage 6 = .ok (.if_icmp .ge 49, 3) := by decide +kernel
theorem dX1_keepPage_9 : decode cX1_keepPage 9 = .ok (.aload_n 0, 1) := by decide +kernel
theorem dX1_keepPage_10 : decode cX1_keepPage 10 = .ok (.iload_n 3, 1) := by decide +kernel
theorem dX1_keepPage_11 : decode cX1_keepPage 11 = .ok (.iload_n 2, 1) := by decide +kernel
theorem dX1_keepPage_12 : decode cX1_keepPage 12 = .ok (.invokevirtual 98, 3) := by decide +kernel
theorem dX1_keepPage_15 : decode cX1_keepPage 15 = .ok (.ifCond .eq 19, 3) := by decide +kernel
theorem dX1_keepPage_18 : decode cX1_keepPage 18 = .ok (.aload_n 0, 1) := by decide +kernel
theorem dX1_keepPage_19 : decode cX1_keepPage 19 = .ok (.getfield 21, 3) := by decide +kernel
theorem dX1_keepPage_22 : decode cX1_keepPage 22 = .ok (.iload_n 3, 1) := by decide +kernel
theorem dX1_keepPage_23 : decode cX1_keepPage 23 = .ok (.dup2, 1) := by decide +kernel
theorem dX1_keepPage_24 : decode cX1_keepPage 24 = .ok (.iaload, 1) := by decide +kernel
theorem dX1_keepPage_25 : decode cX1_keepPage 25 = .ok (.iload_n 1, 1) := by decide +kernel
theorem dX1_keepPage_26 : decode cX1_keepPage 26 = .ok (.invokestatic 39, 3) := by decide +kernel
theorem dX1_keepPage_29 : decode cX1_keepPage 29 = .ok (.ior, 1) := by decide +kernel
theorem dX1_keepPage_30 : decode cX1_keepPage 30 = .ok (.iastore, 1) := by decide +kernel
theorem dX1_keepPage_31 : decode cX1_keepPage 31 = .ok (.goto 18, 3) := by decide +kernel
theorem dX1_keepPage_34 : decode cX1_keepPage 34 = .ok (.aload_n 0, 1) := by decide +kernel
theorem dX1_keepPage_35 : decode cX1_keepPage 35 = .ok (.getfield 21, 3) := by decide +kernel
theorem dX1_keepPage_38 : decode cX1_keepPage 38 = .ok (.iload_n 3, 1) := by decide +kernel
theorem dX1_keepPage_39 : decode cX1_keepPage 39 = .ok (.dup2, 1) := by decide +kernel
theorem dX1_keepPage_40 : decode cX1_keepPage 40 = .ok (.iaload, 1) := by decide +kernel
theorem dX1_keepPage_41 : decode cX1_keepPage 41 = .ok (.iload_n 1, 1) := by decide +kernel
theorem dX1_keepPage_42 : decode cX1_keepPage 42 = .ok (.invokestatic 39, 3) := by decide +kernel
theorem dX1_keepPage_45 : decode cX1_keepPage 45 = .ok (.iconst (-1), 1) := by decide +kernel
theorem dX1_keepPage_46 : decode cX1_keepPage 46 = .ok (.ixor, 1) := by decide +kernel
theorem dX1_keepPage_47 : decode cX1_keepPage 47 = .ok (.iand, 1) := by decide +kernel
theorem dX1_keepPage_48 : decode cX1_keepPage 48 = .ok (.iastore, 1) := by decide +kernel
theorem dX1_keepPage_49 : decode cX1_keepPage 49 = .ok (.iinc 3 1, 3) := by decide +kernel
theorem dX1_keepPage_52 : decode cX1_keepPage 52 = .ok (.goto (-50), 3) := by decide +kernel
theorem dX1_keepPage_55 : decode cX1_keepPage 55 = .ok (.return_, 1) := by decide +kernel
theorem dX1_isPageOf_0 : decode cX1_isPageOf 0 = .ok (.iload_n 3, 1) := by decide +kernel
theorem dX1_isPageOf_1 : decode cX1_isPageOf 1 = .ok (.ifCond .eq 7, 3) := by decide +kernel
theorem dX1_isPageOf_4 : decode cX1_isPageOf 4 = .ok (.aload_n 0, 1) := by decide +kernel
theorem dX1_isPageOf_5 : decode cX1_isPageOf 5 = .ok (.invokevirtual 102, 3) := by decide +kernel
theorem dX1_isPageOf_8 : decode cX1_isPageOf 8 = .ok (.iconst 0, 1) := by decide +kernel
theorem dX1_isPageOf_9 : decode cX1_isPageOf 9 = .ok (.istore 4, 2) := by decide +kernel
theorem dX1_isPageOf_11 : decode cX1_isPageOf 11 = .ok (.iload 4, 2) := by decide +kernel
theorem dX1_isPageOf_13 : decode cX1_isPageOf 13 = .ok (.sipush 3341, 3) := by decide +kernel
theorem dX1_isPageOf_16 : decode cX1_isPageOf 16 = .ok (.if_icmp .ge 49, 3) := by decide +kernel
theorem dX1_isPageOf_19 : decode cX1_isPageOf 19 = .ok (.iload_n 3, 1) := by decide +kernel
theorem dX1_isPageOf_20 : decode cX1_isPageOf 20 = .ok (.ifCond .eq 13, 3) := by decide +kernel
theorem dX1_isPageOf_23 : decode cX1_isPageOf 23 = .ok (.aload_n 0, 1) := by decide +kernel
theorem dX1_isPageOf_24 : decode cX1_isPageOf 24 = .ok (.getfield 18, 3) := by decide +kernel
theorem dX1_isPageOf_27 : decode cX1_isPageOf 27 = .ok (.iload 4, 2) := by decide +kernel
theorem dX1_isPageOf_29 : decode cX1_isPageOf 29 = .ok (.iaload, 1) := by decide +kernel
theorem dX1_isPageOf_30 : decode cX1_isPageOf 30 = .ok (.goto 5, 3) := by decide +kernel
theorem dX1_isPageOf_33 : decode cX1_isPageOf 33 = .ok (.iload 4, 2) := by decide +kernel
theorem dX1_isPageOf_35 : decode cX1_isPageOf 35 = .ok (.istore 5, 2) := by decide +kernel
theorem dX1_isPageOf_37 : decode cX1_isPageOf 37 = .ok (.aload_n 0, 1) := by decide +kernel
theorem dX1_isPageOf_38 : decode cX1_isPageOf 38 = .ok (.iload 4, 2) := by decide +kernel
theorem dX1_isPageOf_40 : decode cX1_isPageOf 40 = .ok (.iload_n 2, 1) := by decide +kernel
theorem dX1_isPageOf_41 : decode cX1_isPageOf 41 = .ok (.invokevirtual 98, 3) := by decide +kernel
theorem dX1_isPageOf_44 : decode cX1_isPageOf 44 = .ok (.aload_n 0, 1) := by decide +kernel
theorem dX1_isPageOf_45 : decode cX1_isPageOf 45 = .ok (.iload 5, 2) := by decide +kernel
theorem dX1_isPageOf_47 : decode cX1_isPageOf 47 = .ok (.iload_n 1, 1) := by decide +kernel
theorem dX1_isPageOf_48 : decode cX1_isPageOf 48 = .ok (.invokestatic 39, 3) := by decide +kernel
theorem dX1_isPageOf_51 : decode cX1_isPageOf 51 = .ok (.invokevirtual 98, 3) := by decide +kernel
theorem dX1_isPageOf_54 : decode cX1_isPageOf 54 = .ok (.if_icmp .eq 5, 3) := by decide +kernel
theorem dX1_isPageOf_57 : decode cX1_isPageOf 57 = .ok (.iconst 0, 1) := by decide +kernel
theorem dX1_isPageOf_58 : decode cX1_isPageOf 58 = .ok (.ireturn, 1) := by decide +kernel
theorem dX1_isPageOf_59 : decode cX1_isPageOf 59 = .ok (.iinc 4 1, 3) := by decide +kernel
theorem dX1_isPageOf_62 : decode cX1_isPageOf 62 = .ok (.goto (-51), 3) := by decide +kernel
theorem dX1_isPageOf_65 : decode cX1_isPageOf 65 = .ok (.iconst 1, 1) := by decide +kernel
theorem dX1_isPageOf_66 : decode cX1_isPageOf 66 = .ok (.ireturn, 1) := by decide +kernel
theorem dX1_learnTurns_0 : decode cX1_learnTurns 0 = .ok (.aload_n 0, 1) := by decide +kernel
theorem dX1_learnTurns_1 : decode cX1_learnTurns 1 = .ok (.getfield 28, 3) := by decide +kernel
theorem dX1_learnTurns_4 : decode cX1_learnTurns 4 = .ok (.ifCond .eq 4, 3) := by decide +kernel
theorem dX1_learnTurns_7 : decode cX1_learnTurns 7 = .ok (.return_, 1) := by decide +kernel
theorem dX1_learnTurns_8 : decode cX1_learnTurns 8 = .ok (.iconst 0, 1) := by decide +kernel
theorem dX1_learnTurns_9 : decode cX1_learnTurns 9 = .ok (.istore_n 1, 1) := by decide +kernel
theorem dX1_learnTurns_10 : decode cX1_learnTurns 10 = .ok (.iload_n 1, 1) := by decide +kernel
theorem dX1_learnTurns_11 : decode cX1_learnTurns 11 = .ok (.sipush 3341, 3) := by decide +kernel
theorem dX1_learnTurns_14 : decode cX1_learnTurns 14 = .ok (.if_icmp .ge 54, 3) := by decide +kernel
theorem dX1_learnTurns_17 : decode cX1_learnTurns 17 = .ok (.aload_n 0, 1) := by decide +kernel
theorem dX1_learnTurns_18 : decode cX1_learnTurns 18 = .ok (.iload_n 1, 1) := by decide +kernel
theorem dX1_learnTurns_19 : decode cX1_learnTurns 19 = .ok (.invokevirtual 81, 3) := by decide +kernel
theorem dX1_learnTurns_22 : decode cX1_learnTurns 22 = .ok (.istore_n 2, 1) := by decide +kernel
theorem dX1_learnTurns_23 : decode cX1_learnTurns 23 = .ok (.aload_n 0, 1) := by decide +kernel
theorem dX1_learnTurns_24 : decode cX1_learnTurns 24 = .ok (.getfield 35, 3) := by decide +kernel
theorem dX1_learnTurns_27 : decode cX1_learnTurns 27 = .ok (.iload_n 2, 1) := by decide +kernel
theorem dX1_learnTurns_28 : decode cX1_learnTurns 28 = .ok (.aload_n 0, 1) := by decide +kernel
theorem dX1_learnTurns_29 : decode cX1_learnTurns 29 = .ok (.getfield 11, 3) := by decide +kernel
theorem dX1_learnTurns_32 : decode cX1_learnTurns 32 = .ok (.iload_n 1, 1) := by decide +kernel
theorem dX1_learnTurns_33 : decode cX1_learnTurns 33 = .ok (.iaload, 1) := by decide +kernel
theorem dX1_learnTurns_34 : decode cX1_learnTurns 34 = .ok (.invokevirtual 54, 3) := by decide +kernel
theorem dX1_learnTurns_37 : decode cX1_learnTurns 37 = .ok (.aload_n 0, 1) := by decide +kernel
theorem dX1_learnTurns_38 : decode cX1_learnTurns 38 = .ok (.getfield 35, 3) := by decide +kernel
theorem dX1_learnTurns_41 : decode cX1_learnTurns 41 = .ok (.invokevirtual 105, 3) := by decide +kernel
theorem dX1_learnTurns_44 : decode cX1_learnTurns 44 = .ok (.aload_n 0, 1) := by decide +kernel
theorem dX1_learnTurns_45 : decode cX1_learnTurns 45 = .ok (.getfield 18, 3) := by decide +kernel
theorem dX1_learnTurns_48 : decode cX1_learnTurns 48 = .ok (.iload_n 1, 1) := by decide +kernel
theorem dX1_learnTurns_49 : decode cX1_learnTurns 49 = .ok (.aload_n 0, 1) := by decide +kernel
theorem dX1_learnTurns_50 : decode cX1_learnTurns 50 = .ok (.iload_n 2, 1) := by decide +kernel
theorem dX1_learnTurns_51 : decode cX1_learnTurns 51 = .ok (.aload_n 0, 1) := by decide +kernel
theorem dX1_learnTurns_52 : decode cX1_learnTurns 52 = .ok (.getfield 35, 3) := by decide +kernel
theorem dX1_learnTurns_55 : decode cX1_learnTurns 55 = .ok (.invokevirtual 108, 3) := by decide +kernel
theorem dX1_learnTurns_58 : decode cX1_learnTurns 58 = .ok (.invokevirtual 111, 3) := by decide +kernel
theorem dX1_learnTurns_61 : decode cX1_learnTurns 61 = .ok (.iastore, 1) := by decide +kernel
theorem dX1_learnTurns_62 : decode cX1_learnTurns 62 = .ok (.iinc 1 1, 3) := by decide +kernel
theorem dX1_learnTurns_65 : decode cX1_learnTurns 65 = .ok (.goto (-55), 3) := by decide +kernel
theorem dX1_learnTurns_68 : decode cX1_learnTurns 68 = .ok (.aload_n 0, 1) := by decide +kernel
theorem dX1_learnTurns_69 : decode cX1_learnTurns 69 = .ok (.iconst 1, 1) := by decide +kernel
theorem dX1_learnTurns_70 : decode cX1_learnTurns 70 = .ok (.putfield 28, 3) := by decide +kernel
theorem dX1_learnTurns_73 : decode cX1_learnTurns 73 = .ok (.return_, 1) := by decide +kernel
theorem dX1_entryOf_0 : decode cX1_entryOf 0 = .ok (.getstatic 51, 3) := by decide +kernel
theorem dX1_entryOf_3 : decode cX1_entryOf 3 = .ok (.iload_n 1, 1) := by decide +kernel
theorem dX1_entryOf_4 : decode cX1_entryOf 4 = .ok (.iaload, 1) := by decide +kernel
theorem dX1_entryOf_5 : decode cX1_entryOf 5 = .ok (.istore_n 3, 1) := by decide +kernel
theorem dX1_entryOf_6 : decode cX1_entryOf 6 = .ok (.getstatic 51, 3) := by decide +kernel
theorem dX1_entryOf_9 : decode cX1_entryOf 9 = .ok (.iload_n 1, 1) := by decide +kernel
theorem dX1_entryOf_10 : decode cX1_entryOf 10 = .ok (.iconst 1, 1) := by decide +kernel
theorem dX1_entryOf_11 : decode cX1_entryOf 11 = .ok (.iadd, 1) := by decide +kernel
theorem dX1_entryOf_12 : decode cX1_entryOf 12 = .ok (.iaload, 1) := by decide +kernel
theorem dX1_entryOf_13 : decode cX1_entryOf 13 = .ok (.iconst 1, 1) := by decide +kernel
theorem dX1_entryOf_14 : decode cX1_entryOf 14 = .ok (.isub, 1) := by decide +kernel
theorem dX1_entryOf_15 : decode cX1_entryOf 15 = .ok (.istore 4, 2) := by decide +kernel
theorem dX1_entryOf_17 : decode cX1_entryOf 17 = .ok (.iconst 0, 1) := by decide +kernel
theorem dX1_entryOf_18 : decode cX1_entryOf 18 = .ok (.istore 5, 2) := by decide +kernel
theorem dX1_entryOf_20 : decode cX1_entryOf 20 = .ok (.iload 5, 2) := by decide +kernel
theorem dX1_entryOf_22 : decode cX1_entryOf 22 = .ok (.bipush 32, 2) := by decide +kernel
theorem dX1_entryOf_24 : decode cX1_entryOf 24 = .ok (.if_icmp .ge 46, 3) := by decide +kernel
theorem dX1_entryOf_27 : decode cX1_entryOf 27 = .ok (.iload_n 3, 1) := by decide +kernel
theorem dX1_entryOf_28 : decode cX1_entryOf 28 = .ok (.iload 4, 2) := by decide +kernel
theorem dX1_entryOf_30 : decode cX1_entryOf 30 = .ok (.if_icmp .ge 40, 3) := by decide +kernel
theorem dX1_entryOf_33 : decode cX1_entryOf 33 = .ok (.iload_n 3, 1) := by decide +kernel
theorem dX1_entryOf_34 : decode cX1_entryOf 34 = .ok (.iload 4, 2) := by decide +kernel
theorem dX1_entryOf_36 : decode cX1_entryOf 36 = .ok (.iadd, 1) := by decide +kernel
theorem dX1_entryOf_37 : decode cX1_entryOf 37 = .ok (.iconst 2, 1) := by decide +kernel
theorem dX1_entryOf_38 : decode cX1_entryOf 38 = .ok (.idiv, 1) := by decide +kernel
theorem dX1_entryOf_39 : decode cX1_entryOf 39 = .ok (.istore 6, 2) := by decide +kernel
theorem dX1_entryOf_41 : decode cX1_entryOf 41 = .ok (.aload_n 0, 1) := by decide +kernel
theorem dX1_entryOf_42 : decode cX1_entryOf 42 = .ok (.getfield 11, 3) := by decide +kernel
theorem dX1_entryOf_45 : decode cX1_entryOf 45 = .ok (.iload 6, 2) := by decide +kernel
theorem dX1_entryOf_47 : decode cX1_entryOf 47 = .ok (.iaload, 1) := by decide +kernel
theorem dX1_entryOf_48 : decode cX1_entryOf 48 = .ok (.iload_n 2, 1) := by decide +kernel
theorem dX1_entryOf_49 : decode cX1_entryOf 49 = .ok (.if_icmp .ge 11, 3) := by decide +kernel
theorem dX1_entryOf_52 : decode cX1_entryOf 52 = .ok (.iload 6, 2) := by decide +kernel
theorem dX1_entryOf_54 : decode cX1_entryOf 54 = .ok (.iconst 1, 1) := by decide +kernel
theorem dX1_entryOf_55 : decode cX1_entryOf 55 = .ok (.iadd, 1) := by decide +kernel
theorem dX1_entryOf_56 : decode cX1_entryOf 56 = .ok (.istore_n 3, 1) := by decide +kernel
theorem dX1_entryOf_57 : decode cX1_entryOf 57 = .ok (.goto 7, 3) := by decide +kernel
theorem dX1_entryOf_60 : decode cX1_entryOf 60 = .ok (.iload 6, 2) := by decide +kernel
theorem dX1_entryOf_62 : decode cX1_entryOf 62 = .ok (.istore 4, 2) := by decide +kernel
theorem dX1_entryOf_64 : decode cX1_entryOf 64 = .ok (.iinc 5 1, 3) := by decide +kernel
theorem dX1_entryOf_67 : decode cX1_entryOf 67 = .ok (.goto (-47), 3) := by decide +kernel
theorem dX1_entryOf_70 : decode cX1_entryOf 70 = .ok (.iload_n 3, 1) := by decide +kernel
theorem dX1_entryOf_71 : decode cX1_entryOf 71 = .ok (.ireturn, 1) := by decide +kernel
theorem dX2_init_0 : decode cX2_init 0 = .ok (.aload_n 0, 1) := by decide +kernel
theorem dX2_init_1 : decode cX2_init 1 = .ok (.invokespecial 3, 3) := by decide +kernel
theorem dX2_init_4 : decode cX2_init 4 = .ok (.aload_n 0, 1) := by decide +kernel
theorem dX2_init_5 : decode cX2_init 5 = .ok (.bipush 12, 2) := by decide +kernel
theorem dX2_init_7 : decode cX2_init 7 = .ok (.newarray .int, 2) := by decide +kernel
theorem dX2_init_9 : decode cX2_init 9 = .ok (.putfield 11, 3) := by decide +kernel
theorem dX2_init_12 : decode cX2_init 12 = .ok (.aload_n 0, 1) := by decide +kernel
theorem dX2_init_13 : decode cX2_init 13 = .ok (.bipush 12, 2) := by decide +kernel
theorem dX2_init_15 : decode cX2_init 15 = .ok (.newarray .int, 2) := by decide +kernel
theorem dX2_init_17 : decode cX2_init 17 = .ok (.putfield 15, 3) := by decide +kernel
theorem dX2_init_20 : decode cX2_init 20 = .ok (.aload_n 0, 1) := by decide +kernel
theorem dX2_init_21 : decode cX2_init 21 = .ok (.bipush 12, 2) := by decide +kernel
theorem dX2_init_23 : decode cX2_init 23 = .ok (.newarray .int, 2) := by decide +kernel
theorem dX2_init_25 : decode cX2_init 25 = .ok (.putfield 18, 3) := by decide +kernel
theorem dX2_init_28 : decode cX2_init 28 = .ok (.aload_n 0, 1) := by decide +kernel
theorem dX2_init_29 : decode cX2_init 29 = .ok (.bipush 12, 2) := by decide +kernel
theorem dX2_init_31 : decode cX2_init 31 = .ok (.newarray .int, 2) := by decide +kernel
theorem dX2_init_33 : decode cX2_init 33 = .ok (.putfield 21, 3) := by decide +kernel
theorem dX2_init_36 : decode cX2_init 36 = .ok (.aload_n 0, 1) := by decide +kernel
theorem dX2_init_37 : decode cX2_init 37 = .ok (.bipush 12, 2) := by decide +kernel
theorem dX2_init_39 : decode cX2_init 39 = .ok (.newarray .int, 2) := by decide +kernel
theorem dX2_init_41 : decode cX2_init 41 = .ok (.putfield 24, 3) := by decide +kernel
theorem dX2_init_44 : decode cX2_init 44 = .ok (.aload_n 0, 1) := by decide +kernel
theorem dX2_init_45 : decode cX2_init 45 = .ok (.bipush 12, 2) := by decide +kernel
theorem dX2_init_47 : decode cX2_init 47 = .ok (.newarray .boolean, 2) := by decide +kernel
theorem dX2_init_49 : decode cX2_init 49 = .ok (.putfield 27, 3) := by decide +kernel
theorem dX2_init_52 : decode cX2_init 52 = .ok (.aload_n 0, 1) := by decide +kernel
theorem dX2_init_53 : decode cX2_init 53 = .ok (.iconst 0, 1) := by decide +kernel
theorem dX2_init_54 : decode cX2_init 54 = .ok (.putfield 31, 3) := by decide +kernel
theorem dX2_init_57 : decode cX2_init 57 = .ok (.return_, 1) := by decide +kernel
theorem dX2_has_0 : decode cX2_has 0 = .ok (.iload_n 1, 1) := by decide +kernel
theorem dX2_has_1 : decode cX2_has 1 = .ok (.ifCond .lt 15, 3) := by decide +kernel
theorem dX2_has_4 : decode cX2_has 4 = .ok (.iload_n 1, 1) := by decide +kernel
theorem dX2_has_5 : decode cX2_has 5 = .ok (.aload_n 0, 1) := by decide +kernel
theorem dX2_has_6 : decode cX2_has 6 = .ok (.getfield 31, 3) := by decide +kernel
theorem dX2_has_9 : decode cX2_has 9 = .ok (.if_icmp .ge 7, 3) := by decide +kernel
theorem dX2_has_12 : decode cX2_has 12 = .ok (.iconst 1, 1) := by decide +kernel
theorem dX2_has_13 : decode cX2_has 13 = .ok (.goto 4, 3) := by decide +kernel
theorem dX2_has_16 : decode cX2_has 16 = .ok (.iconst 0, 1) := by decide +kernel
theorem dX2_has_17 : decode cX2_has 17 = .ok (.ireturn, 1) := by decide +kernel
theorem dX2_add_0 : decode cX2_add 0 = .ok (.aload_n 0, 1) := by decide +kernel
theorem dX2_add_1 : decode cX2_add 1 = .ok (.getfield 31, 3) := by decide +kernel
theorem dX2_add_4 : decode cX2_add 4 = .ok (.bipush 12, 2) := by decide +kernel
theorem dX2_add_6 : decode cX2_add 6 = .ok (.if_icmp .lt 6, 3) := by decide +kernel
theorem dX2_add_9 : decode cX2_add 9 = .ok (.bipush (-4), 2) := by decide +kernel
theorem dX2_add_11 : decode cX2_add 11 = .ok (.ireturn, 1) := by decide +kernel
theorem dX2_add_12 : decode cX2_add 12 = .ok (.aload_n 0, 1) := by decide +kernel
theorem dX2_add_13 : decode cX2_add 13 = .ok (.dup, 1) := by decide +kernel
theorem dX2_add_14 : decode cX2_add 14 = .ok (.getfield 31, 3) := by decide +kernel
theorem dX2_add_17 : decode cX2_add 17 = .ok (.dup_x1, 1) := by decide +kernel
theorem dX2_add_18 : decode cX2_add 18 = .ok (.iconst 1, 1) := by decide +kernel
theorem dX2_add_19 : decode cX2_add 19 = .ok (.iadd, 1) := by decide +kernel
theorem dX2_add_20 : decode cX2_add 20 = .ok (.putfield 31, 3) := by decide +kernel
theorem dX2_add_23 : decode cX2_add 23 = .ok (.istore 4, 2) := by decide +kernel
theorem dX2_add_25 : decode cX2_add 25 = .ok (.aload_n 0, 1) := by decide +kernel
theorem dX2_add_26 : decode cX2_add 26 = .ok (.getfield 11, 3) := by decide +kernel
theorem dX2_add_29 : decode cX2_add 29 = .ok (.iload 4, 2) := by decide +kernel
theorem dX2_add_31 : decode cX2_add 31 = .ok (.iload_n 1, 1) := by decide +kernel
theorem dX2_add_32 : decode cX2_add 32 = .ok (.iastore, 1) := by decide +kernel
theorem dX2_add_33 : decode cX2_add 33 = .ok (.aload_n 0, 1) := by decide +kernel
theorem dX2_add_34 : decode cX2_add 34 = .ok (.getfield 15, 3) := by decide +kernel
theorem dX2_add_37 : decode cX2_add 37 = .ok (.iload 4, 2) := by decide +kernel
theorem dX2_add_39 : decode cX2_add 39 = .ok (.iload_n 2, 1) := by decide +kernel
theorem dX2_add_40 : decode cX2_add 40 = .ok (.iastore, 1) := by decide +kernel
theorem dX2_add_41 : decode cX2_add 41 = .ok (.aload_n 0, 1) := by decide +kernel
theorem dX2_add_42 : decode cX2_add 42 = .ok (.getfield 18, 3) := by decide +kernel
theorem dX2_add_45 : decode cX2_add 45 = .ok (.iload 4, 2) := by decide +kernel
theorem dX2_add_47 : decode cX2_add 47 = .ok (.iload_n 3, 1) := by decide +kernel
theorem dX2_add_48 : decode cX2_add 48 = .ok (.iastore, 1) := by decide +kernel
theorem dX2_add_49 : decode cX2_add 49 = .ok (.aload_n 0, 1) := by decide +kernel
theorem dX2_add_50 : decode cX2_add 50 = .ok (.getfield 27, 3) := by decide +kernel
theorem dX2_add_53 : decode cX2_add 53 = .ok (.iload 4, 2) := by decide +kernel
theorem dX2_add_55 : decode cX2_add 55 = .ok (.iconst 1, 1) := by decide +kernel
theorem dX2_add_56 : decode cX2_add 56 = .ok (.bastore, 1) := by decide +kernel
theorem dX2_add_57 : decode cX2_add 57 = .ok (.aload_n 0, 1) := by decide +kernel
theorem dX2_add_58 : decode cX2_add 58 = .ok (.getfield 24, 3) := by decide +kernel
theorem dX2_add_61 : decode cX2_add 61 = .ok (.iload 4, 2) := by decide +kernel
theorem dX2_add_63 : decode cX2_add 63 = .ok (.iconst 1, 1) := by decide +kernel
theorem dX2_add_64 : decode cX2_add 64 = .ok (.iastore, 1) := by decide +kernel
theorem dX2_add_65 : decode cX2_add 65 = .ok (.aload_n 0, 1) := by decide +kernel
theorem dX2_add_66 : decode cX2_add 66 = .ok (.getfield 21, 3) := by decide +kernel
theorem dX2_add_69 : decode cX2_add 69 = .ok (.iload 4, 2) := by decide +kernel
theorem dX2_add_71 : decode cX2_add 71 = .ok (.iconst 1, 1) := by decide +kernel
theorem dX2_add_72 : decode cX2_add 72 = .ok (.iload 4, 2) := by decide +kernel
theorem dX2_add_74 : decode cX2_add 74 = .ok (.ishl, 1) := by decide +kernel
theorem dX2_add_75 : decode cX2_add 75 = .ok (.iastore, 1) := by decide +kernel
theorem dX2_add_76 : decode cX2_add 76 = .ok (.iload_n 1, 1) := by decide +kernel
theorem dX2_add_77 : decode cX2_add 77 = .ok (.ifCond .eq 10, 3) := by decide +kernel
theorem dX2_add_80 : decode cX2_add 80 = .ok (.aload_n 0, 1) := by decide +kernel
theorem dX2_add_81 : decode cX2_add 81 = .ok (.iload 4, 2) := by decide +kernel
theorem dX2_add_83 : decode cX2_add 83 = .ok (.iload_n 2, 1) := by decide +kernel
theorem dX2_add_84 : decode cX2_add 84 = .ok (.invokevirtual 35, 3) := by decide +kernel
theorem dX2_add_87 : decode cX2_add 87 = .ok (.iload_n 1, 1) := by decide +kernel
theorem dX2_add_88 : decode cX2_add 88 = .ok (.iconst 2, 1) := by decide +kernel
theorem dX2_add_89 : decode cX2_add 89 = .ok (.if_icmp .ne 10, 3) := by decide +kernel
theorem dX2_add_92 : decode cX2_add 92 = .ok (.aload_n 0, 1) := by decide +kernel
theorem dX2_add_93 : decode cX2_add 93 = .ok (.iload 4, 2) := by decide +kernel
theorem dX2_add_95 : decode cX2_add 95 = .ok (.iload_n 3, 1) := by decide +kernel
theorem dX2_add_96 : decode cX2_add 96 = .ok (.invokevirtual 35, 3) := by decide +kernel
theorem dX2_add_99 : decode cX2_add 99 = .ok (.iload 4, 2) := by decide +kernel
theorem dX2_add_101 : decode cX2_add 101 = .ok (.ireturn, 1) := by decide +kernel
theorem dX2_addPart_0 : decode cX2_addPart 0 = .ok (.aload_n 0, 1) := by decide +kernel
theorem dX2_addPart_1 : decode cX2_addPart 1 = .ok (.getfield 24, 3) := by decide +kernel
theorem dX2_addPart_4 : decode cX2_addPart 4 = .ok (.iload_n 1, 1) := by decide +kernel
theorem dX2_addPart_5 : decode cX2_addPart 5 = .ok (.dup2, 1) := by decide +kernel
theorem dX2_addPart_6 : decode cX2_addPart 6 = .ok (.iaload, 1) := by decide +kernel
theorem dX2_addPart_7 : decode cX2_addPart 7 = .ok (.aload_n 0, 1) := by decide +kernel
theorem dX2_addPart_8 : decode cX2_addPart 8 = .ok (.getfield 24, 3) := by decide +kernel
theorem dX2_addPart_11 : decode cX2_addPart 11 = .ok (.iload_n 2, 1) := by decide +kernel
theorem dX2_addPart_12 : decode cX2_addPart 12 = .ok (.iaload, 1) := by decide +kernel
theorem dX2_addPart_13 : decode cX2_addPart 13 = .ok (.iadd, 1) := by decide +kernel
theorem dX2_addPart_14 : decode cX2_addPart 14 = .ok (.iastore, 1) := by decide +kernel
theorem dX2_addPart_15 : decode cX2_addPart 15 = .ok (.aload_n 0, 1) := by decide +kernel
theorem dX2_addPart_16 : decode cX2_addPart 16 = .ok (.getfield 21, 3) := by decide +kernel
theorem dX2_addPart_19 : decode cX2_addPart 19 = .ok (.iload_n 1, 1) := by decide +kernel
theorem dX2_addPart_20 : decode cX2_addPart 20 = .ok (.dup2, 1) := by decide +kernel
theorem dX2_addPart_21 : decode cX2_addPart 21 = .ok (.iaload, 1) := by decide +kernel
theorem dX2_addPart_22 : decode cX2_addPart 22 = .ok (.aload_n 0, 1) := by decide +kernel
theorem dX2_addPart_23 : decode cX2_addPart 23 = .ok (.getfield 21, 3) := by decide +kernel
theorem dX2_addPart_26 : decode cX2_addPart 26 = .ok (.iload_n 2, 1) := by decide +kernel
theorem dX2_addPart_27 : decode cX2_addPart 27 = .ok (.iaload, 1) := by decide +kernel
theorem dX2_addPart_28 : decode cX2_addPart 28 = .ok (.ior, 1) := by decide +kernel
theorem dX2_addPart_29 : decode cX2_addPart 29 = .ok (.iastore, 1) := by decide +kernel
theorem dX2_addPart_30 : decode cX2_addPart 30 = .ok (.return_, 1) := by decide +kernel
theorem dX2_howManyAwake_0 : decode cX2_howManyAwake 0 = .ok (.iconst 0, 1) := by decide +kernel
theorem dX2_howManyAwake_1 : decode cX2_howManyAwake 1 = .ok (.istore_n 1, 1) := by decide +kernel
theorem dX2_howManyAwake_2 : decode cX2_howManyAwake 2 = .ok (.iconst 0, 1) := by decide +kernel
theorem dX2_howManyAwake_3 : decode cX2_howManyAwake 3 = .ok (.istore_n 2, 1) := by decide +kernel
theorem dX2_howManyAwake_4 : decode cX2_howManyAwake 4 = .ok (.iload_n 2, 1) := by decide +kernel
theorem dX2_howManyAwake_5 : decode cX2_howManyAwake 5 = .ok (.aload_n 0, 1) := by decide +kernel
theorem dX2_howManyAwake_6 : decode cX2_howManyAwake 6 = .ok (.getfield 31, 3) := by decide +kernel
theorem dX2_howManyAwake_9 : decode cX2_howManyAwake 9 = .ok (.if_icmp .ge 21, 3) := by decide +kernel
theorem dX2_howManyAwake_12 : decode cX2_howManyAwake 12 = .ok (.aload_n 0, 1) := by decide +kernel
theorem dX2_howManyAwake_13 : decode cX2_howManyAwake 13 = .ok (.getfield 27, 3) := by decide +kernel
theorem dX2_howManyAwake_16 : decode cX2_howManyAwake 16 = .ok (.iload_n 2, 1) := by decide +kernel
theorem dX2_howManyAwake_17 : decode cX2_howManyAwake 17 = .ok (.baload, 1) := by decide +kernel
theorem dX2_howManyAwake_18 : decode cX2_howManyAwake 18 = .ok (.ifCond .eq 6, 3) := by decide +kernel
theorem dX2_howManyAwake_21 : decode cX2_howManyAwake 21 = .ok (.iinc 1 1, 3) := by decide +kernel
theorem dX2_howManyAwake_24 : decode cX2_howManyAwake 24 = .ok (.iinc 2 1, 3) := by decide +kernel
theorem dX2_howManyAwake_27 : decode cX2_howManyAwake 27 = .ok (.goto (-23), 3) := by decide +kernel
theorem dX2_howManyAwake_30 : decode cX2_howManyAwake 30 = .ok (.iload_n 1, 1) := by decide +kernel
theorem dX2_howManyAwake_31 : decode cX2_howManyAwake 31 = .ok (.ireturn, 1) := by decide +kernel
theorem dX3_init_0 : decode cX3_init 0 = .ok (.aload_n 0, 1) := by decide +kernel
theorem dX3_init_1 : decode cX3_init 1 = .ok (.invokespecial 3, 3) := by decide +kernel
theorem dX3_init_4 : decode cX3_init 4 = .ok (.aload_n 0, 1) := by decide +kernel
theorem dX3_init_5 : decode cX3_init 5 = .ok (.bipush 6, 2) := by decide +kernel
theorem dX3_init_7 : decode cX3_init 7 = .ok (.newarray .int, 2) := by decide +kernel
theorem dX3_init_9 : decode cX3_init 9 = .ok (.putfield 11, 3) := by decide +kernel
theorem dX3_init_12 : decode cX3_init 12 = .ok (.aload_n 0, 1) := by decide +kernel
theorem dX3_init_13 : decode cX3_init 13 = .ok (.bipush 6, 2) := by decide +kernel
theorem dX3_init_15 : decode cX3_init 15 = .ok (.newarray .int, 2) := by decide +kernel
theorem dX3_init_17 : decode cX3_init 17 = .ok (.putfield 15, 3) := by decide +kernel
theorem dX3_init_20 : decode cX3_init 20 = .ok (.aload_n 0, 1) := by decide +kernel
theorem dX3_init_21 : decode cX3_init 21 = .ok (.iconst 0, 1) := by decide +kernel
theorem dX3_init_22 : decode cX3_init 22 = .ok (.putfield 18, 3) := by decide +kernel
theorem dX3_init_25 : decode cX3_init 25 = .ok (.return_, 1) := by decide +kernel
theorem dX3_add_0 : decode cX3_add 0 = .ok (.aload_n 0, 1) := by decide +kernel
theorem dX3_add_1 : decode cX3_add 1 = .ok (.getfield 18, 3) := by decide +kernel
theorem dX3_add_4 : decode cX3_add 4 = .ok (.bipush 6, 2) := by decide +kernel
theorem dX3_add_6 : decode cX3_add 6 = .ok (.if_icmp .lt 6, 3) := by decide +kernel
theorem dX3_add_9 : decode cX3_add 9 = .ok (.bipush (-4), 2) := by decide +kernel
theorem dX3_add_11 : decode cX3_add 11 = .ok (.ireturn, 1) := by decide +kernel
theorem dX3_add_12 : decode cX3_add 12 = .ok (.aload_n 0, 1) := by decide +kernel
theorem dX3_add_13 : decode cX3_add 13 = .ok (.getfield 11, 3) := by decide +kernel
theorem dX3_add_16 : decode cX3_add 16 = .ok (.aload_n 0, 1) := by decide +kernel
theorem dX3_add_17 : decode cX3_add 17 = .ok (.getfield 18, 3) := by decide +kernel
theorem dX3_add_20 : decode cX3_add 20 = .ok (.iload_n 1, 1) := by decide +kernel
theorem dX3_add_21 : decode cX3_add 21 = .ok (.iastore, 1) := by decide +kernel
theorem dX3_add_22 : decode cX3_add 22 = .ok (.aload_n 0, 1) := by decide +kernel
theorem dX3_add_23 : decode cX3_add 23 = .ok (.getfield 15, 3) := by decide +kernel
theorem dX3_add_26 : decode cX3_add 26 = .ok (.aload_n 0, 1) := by decide +kernel
theorem dX3_add_27 : decode cX3_add 27 = .ok (.getfield 18, 3) := by decide +kernel
theorem dX3_add_30 : decode cX3_add 30 = .ok (.iload_n 2, 1) := by decide +kernel
theorem dX3_add_31 : decode cX3_add 31 = .ok (.iastore, 1) := by decide +kernel
theorem dX3_add_32 : decode cX3_add 32 = .ok (.aload_n 0, 1) := by decide +kernel
theorem dX3_add_33 : decode cX3_add 33 = .ok (.dup, 1) := by decide +kernel
theorem dX3_add_34 : decode cX3_add 34 = .ok (.getfield 18, 3) := by decide +kernel
theorem dX3_add_37 : decode cX3_add 37 = .ok (.dup_x1, 1) := by decide +kernel
theorem dX3_add_38 : decode cX3_add 38 = .ok (.iconst 1, 1) := by decide +kernel
theorem dX3_add_39 : decode cX3_add 39 = .ok (.iadd, 1) := by decide +kernel
theorem dX3_add_40 : decode cX3_add 40 = .ok (.putfield 18, 3) := by decide +kernel
theorem dX3_add_43 : decode cX3_add 43 = .ok (.ireturn, 1) := by decide +kernel
theorem dX3_all_0 : decode cX3_all 0 = .ok (.iconst 1, 1) := by decide +kernel
theorem dX3_all_1 : decode cX3_all 1 = .ok (.aload_n 0, 1) := by decide +kernel
theorem dX3_all_2 : decode cX3_all 2 = .ok (.getfield 18, 3) := by decide +kernel
theorem dX3_all_5 : decode cX3_all 5 = .ok (.ishl, 1) := by decide +kernel
theorem dX3_all_6 : decode cX3_all 6 = .ok (.iconst 1, 1) := by decide +kernel
theorem dX3_all_7 : decode cX3_all 7 = .ok (.isub, 1) := by decide +kernel
theorem dX3_all_8 : decode cX3_all 8 = .ok (.ireturn, 1) := by decide +kernel
theorem dX4_init_0 : decode cX4_init 0 = .ok (.aload_n 0, 1) := by decide +kernel
theorem dX4_init_1 : decode cX4_init 1 = .ok (.invokespecial 3, 3) := by decide +kernel
theorem dX4_init_4 : decode cX4_init 4 = .ok (.aload_n 0, 1) := by decide +kernel
theorem dX4_init_5 : decode cX4_init 5 = .ok (.bipush 20, 2) := by decide +kernel
theorem dX4_init_7 : decode cX4_init 7 = .ok (.newarray .int, 2) := by decide +kernel
theorem dX4_init_9 : decode cX4_init 9 = .ok (.putfield 11, 3) := by decide +kernel
theorem dX4_init_12 : decode cX4_init 12 = .ok (.aload_n 0, 1) := by decide +kernel
theorem dX4_init_13 : decode cX4_init 13 = .ok (.bipush 20, 2) := by decide +kernel
theorem dX4_init_15 : decode cX4_init 15 = .ok (.newarray .int, 2) := by decide +kernel
theorem dX4_init_17 : decode cX4_init 17 = .ok (.putfield 17, 3) := by decide +kernel
theorem dX4_init_20 : decode cX4_init 20 = .ok (.aload_n 0, 1) := by decide +kernel
theorem dX4_init_21 : decode cX4_init 21 = .ok (.sipush 400, 3) := by decide +kernel
theorem dX4_init_24 : decode cX4_init 24 = .ok (.newarray .int, 2) := by decide +kernel
theorem dX4_init_26 : decode cX4_init 26 = .ok (.putfield 20, 3) := by decide +kernel
theorem dX4_init_29 : decode cX4_init 29 = .ok (.aload_n 0, 1) := by decide +kernel
theorem dX4_init_30 : decode cX4_init 30 = .ok (.bipush 20, 2) := by decide +kernel
theorem dX4_init_32 : decode cX4_init 32 = .ok (.newarray .int, 2) := by decide +kernel
theorem dX4_init_34 : decode cX4_init 34 = .ok (.putfield 23, 3) := by decide +kernel
theorem dX4_init_37 : decode cX4_init 37 = .ok (.aload_n 0, 1) := by decide +kernel
theorem dX4_init_38 : decode cX4_init 38 = .ok (.iconst 0, 1) := by decide +kernel
theorem dX4_init_39 : decode cX4_init 39 = .ok (.putfield 26, 3) := by decide +kernel
theorem dX4_init_42 : decode cX4_init 42 = .ok (.aload_n 0, 1) := by decide +kernel
theorem dX4_init_43 : decode cX4_init 43 = .ok (.iconst 0, 1) := by decide +kernel
theorem dX4_init_44 : decode cX4_init 44 = .ok (.putfield 30, 3) := by decide +kernel
theorem dX4_init_47 : decode cX4_init 47 = .ok (.return_, 1) := by decide +kernel
theorem dX4_forget_0 : decode cX4_forget 0 = .ok (.aload_n 0, 1) := by decide +kernel
theorem dX4_forget_1 : decode cX4_forget 1 = .ok (.iconst 0, 1) := by decide +kernel
theorem dX4_forget_2 : decode cX4_forget 2 = .ok (.putfield 30, 3) := by decide +kernel
theorem dX4_forget_5 : decode cX4_forget 5 = .ok (.return_, 1) := by decide +kernel
theorem dX4_roundOf_0 : decode cX4_roundOf 0 = .ok (.aload_n 0, 1) := by decide +kernel
theorem dX4_roundOf_1 : decode cX4_roundOf 1 = .ok (.getfield 20, 3) := by decide +kernel
theorem dX4_roundOf_4 : decode cX4_roundOf 4 = .ok (.iload_n 1, 1) := by decide +kernel
theorem dX4_roundOf_5 : decode cX4_roundOf 5 = .ok (.bipush 20, 2) := by decide +kernel
theorem dX4_roundOf_7 : decode cX4_roundOf 7 = .ok (.imul, 1) := by decide +kernel
theorem dX4_roundOf_8 : decode cX4_roundOf 8 = .ok (.iload_n 2, 1) := by decide +kernel
theorem dX4_roundOf_9 : decode cX4_roundOf 9 = .ok (.iadd, 1) := by decide +kernel
theorem dX4_roundOf_10 : decode cX4_roundOf 10 = .ok (.iaload, 1) := by decide +kernel
theorem dX4_roundOf_11 : decode cX4_roundOf 11 = .ok (.ireturn, 1) := by decide +kernel
theorem dX4_howManyGroups_0 : decode cX4_howManyGroups 0 = .ok (.iconst 0, 1) := by decide +kernel
theorem dX4_howManyGroups_1 : decode cX4_howManyGroups 1 = .ok (.istore_n 2, 1) := by decide +kernel
theorem dX4_howManyGroups_2 : decode cX4_howManyGroups 2 = .ok (.iconst 0, 1) := by decide +kernel
theorem dX4_howManyGroups_3 : decode cX4_howManyGroups 3 = .ok (.istore_n 3, 1) := by decide +kernel
theorem dX4_howManyGroups_4 : decode cX4_howManyGroups 4 = .ok (.iload_n 3, 1) := by decide +kernel
theorem dX4_howManyGroups_5 : decode cX4_howManyGroups 5 = .ok (.iload_n 1, 1) := by decide +kernel
theorem dX4_howManyGroups_6 : decode cX4_howManyGroups 6 = .ok (.if_icmp .ge 22, 3) := by decide +kernel
theorem dX4_howManyGroups_9 : decode cX4_howManyGroups 9 = .ok (.aload_n 0, 1) := by decide +kernel
theorem dX4_howManyGroups_10 : decode cX4_howManyGroups 10 = .ok (.getfield 11, 3) := by decide +kernel
theorem dX4_howManyGroups_13 : decode cX4_howManyGroups 13 = .ok (.iload_n 3, 1) := by decide +kernel
theorem dX4_howManyGroups_14 : decode cX4_howManyGroups 14 = .ok (.iaload, 1) := by decide +kernel
theorem dX4_howManyGroups_15 : decode cX4_howManyGroups 15 = .ok (.iload_n 3, 1) := by decide +kernel
theorem dX4_howManyGroups_16 : decode cX4_howManyGroups 16 = .ok (.if_icmp .ne 6, 3) := by decide +kernel
theorem dX4_howManyGroups_19 : decode cX4_howManyGroups 19 = .ok (.iinc 2 1, 3) := by decide +kernel
theorem dX4_howManyGroups_22 : decode cX4_howManyGroups 22 = .ok (.iinc 3 1, 3) := by decide +kernel
theorem dX4_howManyGroups_25 : decode cX4_howManyGroups 25 = .ok (.goto (-21), 3) := by decide +kernel
theorem dX4_howManyGroups_28 : decode cX4_howManyGroups 28 = .ok (.iload_n 2, 1) := by decide +kernel
theorem dX4_howManyGroups_29 : decode cX4_howManyGroups 29 = .ok (.ireturn, 1) := by decide +kernel
theorem dX4_settle_0 : decode cX4_settle 0 = .ok (.aload_n 0, 1) := by decide +kernel
theorem dX4_settle_1 : decode cX4_settle 1 = .ok (.getfield 30, 3) := by decide +kernel
theorem dX4_settle_4 : decode cX4_settle 4 = .ok (.ifCond .eq 4, 3) := by decide +kernel
theorem dX4_settle_7 : decode cX4_settle 7 = .ok (.return_, 1) := by decide +kernel
theorem dX4_settle_8 : decode cX4_settle 8 = .ok (.aload_n 0, 1) := by decide +kernel
theorem dX4_settle_9 : decode cX4_settle 9 = .ok (.aload_n 1, 1) := by decide +kernel
theorem dX4_settle_10 : decode cX4_settle 10 = .ok (.getfield 34, 3) := by decide +kernel
theorem dX4_settle_13 : decode cX4_settle 13 = .ok (.invokevirtual 37, 3) := by decide +kernel
theorem dX4_settle_16 : decode cX4_settle 16 = .ok (.iconst 1, 1) := by decide +kernel
theorem dX4_settle_17 : decode cX4_settle 17 = .ok (.istore_n 3, 1) := by decide +kernel
theorem dX4_settle_18 : decode cX4_settle 18 = .ok (.iload_n 3, 1) := by decide +kernel
theorem dX4_settle_19 : decode cX4_settle 19 = .ok (.bipush 20, 2) := by decide +kernel
theorem dX4_settle_21 : decode cX4_settle 21 = .ok (.if_icmp .gt 62, 3) := by decide +kernel
theorem dX4_settle_24 : decode cX4_settle 24 = .ok (.aload_n 0, 1) := by decide +kernel
theorem dX4_settle_25 : decode cX4_settle 25 = .ok (.getfield 11, 3) := by decide +kernel
theorem dX4_settle_28 : decode cX4_settle 28 = .ok (.iconst 0, 1) := by decide +kernel
theorem dX4_settle_29 : decode cX4_settle 29 = .ok (.aload_n 0, 1) := by decide +kernel
theorem dX4_settle_30 : decode cX4_settle 30 = .ok (.getfield 17, 3) := by decide +kernel
theorem dX4_settle_33 : decode cX4_settle 33 = .ok (.iconst 0, 1) := by decide +kernel
theorem dX4_settle_34 : decode cX4_settle 34 = .ok (.aload_n 1, 1) := by decide +kernel
theorem dX4_settle_35 : decode cX4_settle 35 = .ok (.getfield 34, 3) := by decide +kernel
theorem dX4_settle_38 : decode cX4_settle 38 = .ok (.invokestatic 41, 3) := by decide +kernel
theorem dX4_settle_41 : decode cX4_settle 41 = .ok (.iload_n 3, 1) := by decide +kernel
theorem dX4_settle_42 : decode cX4_settle 42 = .ok (.iconst 1, 1) := by decide +kernel
theorem dX4_settle_43 : decode cX4_settle 43 = .ok (.if_icmp .ne 9, 3) := by decide +kernel
theorem dX4_settle_46 : decode cX4_settle 46 = .ok (.aload_n 0, 1) := by decide +kernel
theorem dX4_settle_47 : decode cX4_settle 47 = .ok (.aload_n 1, 1) := by decide +kernel
theorem dX4_settle_48 : decode cX4_settle 48 = .ok (.aload_n 2, 1) := by decide +kernel
theorem dX4_settle_49 : decode cX4_settle 49 = .ok (.invokevirtual 47, 3) := by decide +kernel
theorem dX4_settle_52 : decode cX4_settle 52 = .ok (.aload_n 0, 1) := by decide +kernel
theorem dX4_settle_53 : decode cX4_settle 53 = .ok (.aload_n 1, 1) := by decide +kernel
theorem dX4_settle_54 : decode cX4_settle 54 = .ok (.invokevirtual 51, 3) := by decide +kernel
theorem dX4_settle_57 : decode cX4_settle 57 = .ok (.aload_n 0, 1) := by decide +kernel
theorem dX4_settle_58 : decode cX4_settle 58 = .ok (.aload_n 1, 1) := by decide +kernel
theorem dX4_settle_59 : decode cX4_settle 59 = .ok (.getfield 34, 3) := by decide +kernel
theorem dX4_settle_62 : decode cX4_settle 62 = .ok (.iload_n 3, 1) := by decide +kernel
theorem dX4_settle_63 : decode cX4_settle 63 = .ok (.invokevirtual 55, 3) := by decide +kernel
theorem dX4_settle_66 : decode cX4_settle 66 = .ok (.ifCond .ne 6, 3) := by decide +kernel
theorem dX4_settle_69 : decode cX4_settle 69 = .ok (.goto 14, 3) := by decide +kernel
theorem dX4_settle_72 : decode cX4_settle 72 = .ok (.aload_n 0, 1) := by decide +kernel
theorem dX4_settle_73 : decode cX4_settle 73 = .ok (.iload_n 3, 1) := by decide +kernel
theorem dX4_settle_74 : decode cX4_settle 74 = .ok (.putfield 26, 3) := by decide +kernel
theorem dX4_settle_77 : decode cX4_settle 77 = .ok (.iinc 3 1, 3) := by decide +kernel
theorem dX4_settle_80 : decode cX4_settle 80 = .ok (.goto (-62), 3) := by decide +kernel
theorem dX4_settle_83 : decode cX4_settle 83 = .ok (.aload_n 0, 1) := by decide +kernel
theorem dX4_settle_84 : decode cX4_settle 84 = .ok (.iconst 1, 1) := by decide +kernel
theorem dX4_settle_85 : decode cX4_settle 85 = .ok (.putfield 30, 3) := by decide +kernel
theorem dX4_settle_88 : decode cX4_settle 88 = .ok (.return_, 1) := by decide +kernel
theorem dX4_begin_0 : decode cX4_begin 0 = .ok (.aload_n 0, 1) := by decide +kernel
theorem dX4_begin_1 : decode cX4_begin 1 = .ok (.iconst 0, 1) := by decide +kernel
theorem dX4_begin_2 : decode cX4_begin 2 = .ok (.putfield 26, 3) := by decide +kernel
theorem dX4_begin_5 : decode cX4_begin 5 = .ok (.aload_n 0, 1) := by decide +kernel
theorem dX4_begin_6 : decode cX4_begin 6 = .ok (.getfield 20, 3) := by decide +kernel
theorem dX4_begin_9 : decode cX4_begin 9 = .ok (.bipush (-9), 2) := by decide +kernel
theorem dX4_begin_11 : decode cX4_begin 11 = .ok (.invokestatic 59, 3) := by decide +kernel
theorem dX4_begin_14 : decode cX4_begin 14 = .ok (.iconst 0, 1) := by decide +kernel
theorem dX4_begin_15 : decode cX4_begin 15 = .ok (.istore_n 2, 1) := by decide +kernel
theorem dX4_begin_16 : decode cX4_begin 16 = .ok (.iload_n 2, 1) := by decide +kernel
theorem dX4_begin_17 : decode cX4_begin 17 = .ok (.iload_n 1, 1) := by decide +kernel
theorem dX4_begin_18 : decode cX4_begin 18 = .ok (.if_icmp .ge 28, 3) := by decide +kernel
theorem dX4_begin_21 : decode cX4_begin 21 = .ok (.aload_n 0, 1) := by decide +kernel
theorem dX4_begin_22 : decode cX4_begin 22 = .ok (.getfield 11, 3) := by decide +kernel
theorem dX4_begin_25 : decode cX4_begin 25 = .ok (.iload_n 2, 1) := by decide +kernel
theorem dX4_begin_26 : decode cX4_begin 26 = .ok (.iload_n 2, 1) := by decide +kernel
theorem dX4_begin_27 : decode cX4_begin 27 = .ok (.iastore, 1) := by decide +kernel
theorem dX4_begin_28 : decode cX4_begin 28 = .ok (.aload_n 0, 1) := by decide +kernel
theorem dX4_begin_29 : decode cX4_begin 29 = .ok (.getfield 20, 3) := by decide +kernel
theorem dX4_begin_32 : decode cX4_begin 32 = .ok (.iload_n 2, 1) := by decide +kernel
theorem dX4_begin_33 : decode cX4_begin 33 = .ok (.bipush 20, 2) := by decide +kernel
theorem dX4_begin_35 : decode cX4_begin 35 = .ok (.imul, 1) := by decide +kernel
theorem dX4_begin_36 : decode cX4_begin 36 = .ok (.iload_n 2, 1) := by decide +kernel
theorem dX4_begin_37 : decode cX4_begin 37 = .ok (.iadd, 1) := by decide +kernel
theorem dX4_begin_38 : decode cX4_begin 38 = .ok (.iconst 0, 1) := by decide +kernel
theorem dX4_begin_39 : decode cX4_begin 39 = .ok (.iastore, 1) := by decide +kernel
theorem dX4_begin_40 : decode cX4_begin 40 = .ok (.iinc 2 1, 3) := by decide +kernel
theorem dX4_begin_43 : decode cX4_begin 43 = .ok (.goto (-27), 3) := by decide +kernel
theorem dX4_begin_46 : decode cX4_begin 46 = .ok (.return_, 1) := by decide +kernel
theorem dX4_joinByLaws_0 : decode cX4_joinByLaws 0 = .ok (.iconst 0, 1) := by decide +kernel
theorem dX4_joinByLaws_1 : decode cX4_joinByLaws 1 = .ok (.istore_n 3, 1) := by decide +kernel
theorem dX4_joinByLaws_2 : decode cX4_joinByLaws 2 = .ok (.iload_n 3, 1) := by decide +kernel
theorem dX4_joinByLaws_3 : decode cX4_joinByLaws 3 = .ok (.aload_n 2, 1) := by decide +kernel
theorem dX4_joinByLaws_4 : decode cX4_joinByLaws 4 = .ok (.getfield 65, 3) := by decide +kernel
theorem dX4_joinByLaws_7 : decode cX4_joinByLaws 7 = .ok (.if_icmp .ge 98, 3) := by decide +kernel
theorem dX4_joinByLaws_10 : decode cX4_joinByLaws 10 = .ok (.iconst 0, 1) := by decide +kernel
theorem dX4_joinByLaws_11 : decode cX4_joinByLaws 11 = .ok (.istore 4, 2) := by decide +kernel
theorem dX4_joinByLaws_13 : decode cX4_joinByLaws 13 = .ok (.iload 4, 2) := by decide +kernel
theorem dX4_joinByLaws_15 : decode cX4_joinByLaws 15 = .ok (.aload_n 1, 1) := by decide +kernel
theorem dX4_joinByLaws_16 : decode cX4_joinByLaws 16 = .ok (.getfield 34, 3) := by decide +kernel
theorem dX4_joinByLaws_19 : decode cX4_joinByLaws 19 = .ok (.if_icmp .ge 80, 3) := by decide +kernel
theorem dX4_joinByLaws_22 : decode cX4_joinByLaws 22 = .ok (.iconst 0, 1) := by decide +kernel
theorem dX4_joinByLaws_23 : decode cX4_joinByLaws 23 = .ok (.istore 5, 2) := by decide +kernel
theorem dX4_joinByLaws_25 : decode cX4_joinByLaws 25 = .ok (.iload 5, 2) := by decide +kernel
theorem dX4_joinByLaws_27 : decode cX4_joinByLaws 27 = .ok (.aload_n 1, 1) := by decide +kernel
theorem dX4_joinByLaws_28 : decode cX4_joinByLaws 28 = .ok (.getfield 34, 3) := by decide +kernel
theorem dX4_joinByLaws_31 : decode cX4_joinByLaws 31 = .ok (.if_icmp .ge 62, 3) := by decide +kernel
theorem dX4_joinByLaws_34 : decode cX4_joinByLaws 34 = .ok (.aload_n 0, 1) := by decide +kernel
theorem dX4_joinByLaws_35 : decode cX4_joinByLaws 35 = .ok (.getfield 11, 3) := by decide +kernel
theorem dX4_joinByLaws_38 : decode cX4_joinByLaws 38 = .ok (.iload 4, 2) := by decide +kernel
theorem dX4_joinByLaws_40 : decode cX4_joinByLaws 40 = .ok (.iaload, 1) := by decide +kernel
theorem dX4_joinByLaws_41 : decode cX4_joinByLaws 41 = .ok (.aload_n 0, 1) := by decide +kernel
theorem dX4_joinByLaws_42 : decode cX4_joinByLaws 42 = .ok (.getfield 11, 3) := by decide +kernel
theorem dX4_joinByLaws_45 : decode cX4_joinByLaws 45 = .ok (.iload 5, 2) := by decide +kernel
theorem dX4_joinByLaws_47 : decode cX4_joinByLaws 47 = .ok (.iaload, 1) := by decide +kernel
theorem dX4_joinByLaws_48 : decode cX4_joinByLaws 48 = .ok (.if_icmp .eq 39, 3) := by decide +kernel
theorem dX4_joinByLaws_51 : decode cX4_joinByLaws 51 = .ok (.aload_n 0, 1) := by decide +kernel
theorem dX4_joinByLaws_52 : decode cX4_joinByLaws 52 = .ok (.aload_n 1, 1) := by decide +kernel
theorem dX4_joinByLaws_53 : decode cX4_joinByLaws 53 = .ok (.aload_n 2, 1) := by decide +kernel
theorem dX4_joinByLaws_54 : decode cX4_joinByLaws 54 = .ok (.getfield 68, 3) := by decide +kernel
theorem dX4_joinByLaws_57 : decode cX4_joinByLaws 57 = .ok (.iload_n 3, 1) := by decide +kernel
theorem dX4_joinByLaws_58 : decode cX4_joinByLaws 58 = .ok (.iaload, 1) := by decide +kernel
theorem dX4_joinByLaws_59 : decode cX4_joinByLaws 59 = .ok (.aload_n 2, 1) := by decide +kernel
theorem dX4_joinByLaws_60 : decode cX4_joinByLaws 60 = .ok (.getfield 71, 3) := by decide +kernel
theorem dX4_joinByLaws_63 : decode cX4_joinByLaws 63 = .ok (.iload_n 3, 1) := by decide +kernel
theorem dX4_joinByLaws_64 : decode cX4_joinByLaws 64 = .ok (.iaload, 1) := by decide +kernel
theorem dX4_joinByLaws_65 : decode cX4_joinByLaws 65 = .ok (.iload 4, 2) := by decide +kernel
theorem dX4_joinByLaws_67 : decode cX4_joinByLaws 67 = .ok (.iload 5, 2) := by decide +kernel
theorem dX4_joinByLaws_69 : decode cX4_joinByLaws 69 = .ok (.invokevirtual 74, 3) := by decide +kernel
theorem dX4_joinByLaws_72 : decode cX4_joinByLaws 72 = .ok (.ifCond .eq 15, 3) := by decide +kernel
theorem dX4_joinByLaws_75 : decode cX4_joinByLaws 75 = .ok (.aload_n 0, 1) := by decide +kernel
theorem dX4_joinByLaws_76 : decode cX4_joinByLaws 76 = .ok (.aload_n 1, 1) := by decide +kernel
theorem dX4_joinByLaws_77 : decode cX4_joinByLaws 77 = .ok (.getfield 34, 3) := by decide +kernel
theorem dX4_joinByLaws_80 : decode cX4_joinByLaws 80 = .ok (.iload 4, 2) := by decide +kernel
theorem dX4_joinByLaws_82 : decode cX4_joinByLaws 82 = .ok (.iload 5, 2) := by decide +kernel
theorem dX4_joinByLaws_84 : decode cX4_joinByLaws 84 = .ok (.invokevirtual 78, 3) := by decide +kernel
theorem dX4_joinByLaws_87 : decode cX4_joinByLaws 87 = .ok (.iinc 5 1, 3) := by decide +kernel
theorem dX4_joinByLaws_90 : decode cX4_joinByLaws 90 = .ok (.goto (-65), 3) := by decide +kernel
theorem dX4_joinByLaws_93 : decode cX4_joinByLaws 93 = .ok (.iinc 4 1, 3) := by decide +kernel
theorem dX4_joinByLaws_96 : decode cX4_joinByLaws 96 = .ok (.goto (-83), 3) := by decide +kernel
theorem dX4_joinByLaws_99 : decode cX4_joinByLaws 99 = .ok (.iinc 3 1, 3) := by decide +kernel
theorem dX4_joinByLaws_102 : decode cX4_joinByLaws 102 = .ok (.goto (-100), 3) := by decide +kernel
theorem dX4_joinByLaws_105 : decode cX4_joinByLaws 105 = .ok (.return_, 1) := by decide +kernel
theorem dX4_isMadeByLaw_0 : decode cX4_isMadeByLaw 0 = .ok (.aload_n 0, 1) := by decide +kernel
theorem dX4_isMadeByLaw_1 : decode cX4_isMadeByLaw 1 = .ok (.getfield 23, 3) := by decide +kernel
theorem dX4_isMadeByLaw_4 : decode cX4_isMadeByLaw 4 = .ok (.bipush (-9), 2) := by decide +kernel
theorem dX4_isMadeByLaw_6 : decode cX4_isMadeByLaw 6 = .ok (.invokestatic 59, 3) := by decide +kernel
theorem dX4_isMadeByLaw_9 : decode cX4_isMadeByLaw 9 = .ok (.aload_n 0, 1) := by decide +kernel
theorem dX4_isMadeByLaw_10 : decode cX4_isMadeByLaw 10 = .ok (.iload_n 2, 1) := by decide +kernel
theorem dX4_isMadeByLaw_11 : decode cX4_isMadeByLaw 11 = .ok (.iload 4, 2) := by decide +kernel
theorem dX4_isMadeByLaw_13 : decode cX4_isMadeByLaw 13 = .ok (.invokevirtual 82, 3) := by decide +kernel
theorem dX4_isMadeByLaw_16 : decode cX4_isMadeByLaw 16 = .ok (.ifCond .eq 13, 3) := by decide +kernel

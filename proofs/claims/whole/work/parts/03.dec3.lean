theorem dX8_butFor_25 : decode cX8_butFor 25 = .ok (.invokevirtual 103, 3) := by decide +kernel
theorem dX8_butFor_28 : decode cX8_butFor 28 = .ok (.aload_n 0, 1) := by decide +kernel
theorem dX8_butFor_29 : decode cX8_butFor 29 = .ok (.getfield 51, 3) := by decide +kernel
theorem dX8_butFor_32 : decode cX8_butFor 32 = .ok (.iload_n 1, 1) := by decide +kernel
theorem dX8_butFor_33 : decode cX8_butFor 33 = .ok (.iload_n 2, 1) := by decide +kernel
theorem dX8_butFor_34 : decode cX8_butFor 34 = .ok (.invokevirtual 162, 3) := by decide +kernel
theorem dX8_butFor_37 : decode cX8_butFor 37 = .ok (.ireturn, 1) := by decide +kernel
theorem dX8_look_0 : decode cX8_look 0 = .ok (.aload_n 0, 1) := by decide +kernel
theorem dX8_look_1 : decode cX8_look 1 = .ok (.getfield 42, 3) := by decide +kernel
theorem dX8_look_4 : decode cX8_look 4 = .ok (.iload_n 1, 1) := by decide +kernel
theorem dX8_look_5 : decode cX8_look 5 = .ok (.invokevirtual 152, 3) := by decide +kernel
theorem dX8_look_8 : decode cX8_look 8 = .ok (.ifCond .eq 14, 3) := by decide +kernel
theorem dX8_look_11 : decode cX8_look 11 = .ok (.aload_n 0, 1) := by decide +kernel
theorem dX8_look_12 : decode cX8_look 12 = .ok (.getfield 42, 3) := by decide +kernel
theorem dX8_look_15 : decode cX8_look 15 = .ok (.iload_n 2, 1) := by decide +kernel
theorem dX8_look_16 : decode cX8_look 16 = .ok (.invokevirtual 152, 3) := by decide +kernel
theorem dX8_look_19 : decode cX8_look 19 = .ok (.ifCond .ne 5, 3) := by decide +kernel
theorem dX8_look_22 : decode cX8_look 22 = .ok (.iconst (-1), 1) := by decide +kernel
theorem dX8_look_23 : decode cX8_look 23 = .ok (.ireturn, 1) := by decide +kernel
theorem dX8_look_24 : decode cX8_look 24 = .ok (.aload_n 0, 1) := by decide +kernel
theorem dX8_look_25 : decode cX8_look 25 = .ok (.invokevirtual 103, 3) := by decide +kernel
theorem dX8_look_28 : decode cX8_look 28 = .ok (.aload_n 0, 1) := by decide +kernel
theorem dX8_look_29 : decode cX8_look 29 = .ok (.getfield 51, 3) := by decide +kernel
theorem dX8_look_32 : decode cX8_look 32 = .ok (.iload_n 1, 1) := by decide +kernel
theorem dX8_look_33 : decode cX8_look 33 = .ok (.iload_n 2, 1) := by decide +kernel
theorem dX8_look_34 : decode cX8_look 34 = .ok (.iload_n 3, 1) := by decide +kernel
theorem dX8_look_35 : decode cX8_look 35 = .ok (.invokevirtual 165, 3) := by decide +kernel
theorem dX8_look_38 : decode cX8_look 38 = .ok (.ireturn, 1) := by decide +kernel
theorem dX8_never_0 : decode cX8_never 0 = .ok (.aload_n 0, 1) := by decide +kernel
theorem dX8_never_1 : decode cX8_never 1 = .ok (.getfield 42, 3) := by decide +kernel
theorem dX8_never_4 : decode cX8_never 4 = .ok (.iload_n 1, 1) := by decide +kernel
theorem dX8_never_5 : decode cX8_never 5 = .ok (.invokevirtual 152, 3) := by decide +kernel
theorem dX8_never_8 : decode cX8_never 8 = .ok (.ifCond .eq 14, 3) := by decide +kernel
theorem dX8_never_11 : decode cX8_never 11 = .ok (.aload_n 0, 1) := by decide +kernel
theorem dX8_never_12 : decode cX8_never 12 = .ok (.getfield 42, 3) := by decide +kernel
theorem dX8_never_15 : decode cX8_never 15 = .ok (.iload_n 2, 1) := by decide +kernel
theorem dX8_never_16 : decode cX8_never 16 = .ok (.invokevirtual 152, 3) := by decide +kernel
theorem dX8_never_19 : decode cX8_never 19 = .ok (.ifCond .ne 5, 3) := by decide +kernel
theorem dX8_never_22 : decode cX8_never 22 = .ok (.iconst (-1), 1) := by decide +kernel
theorem dX8_never_23 : decode cX8_never 23 = .ok (.ireturn, 1) := by decide +kernel
theorem dX8_never_24 : decode cX8_never 24 = .ok (.aload_n 0, 1) := by decide +kernel
theorem dX8_never_25 : decode cX8_never 25 = .ok (.invokevirtual 103, 3) := by decide +kernel
theorem dX8_never_28 : decode cX8_never 28 = .ok (.aload_n 0, 1) := by decide +kernel
theorem dX8_never_29 : decode cX8_never 29 = .ok (.getfield 51, 3) := by decide +kernel
theorem dX8_never_32 : decode cX8_never 32 = .ok (.iload_n 1, 1) := by decide +kernel
theorem dX8_never_33 : decode cX8_never 33 = .ok (.iload_n 2, 1) := by decide +kernel
theorem dX8_never_34 : decode cX8_never 34 = .ok (.invokevirtual 168, 3) := by decide +kernel
theorem dX8_never_37 : decode cX8_never 37 = .ok (.ifCond .eq 7, 3) := by decide +kernel
theorem dX8_never_40 : decode cX8_never 40 = .ok (.iconst 0, 1) := by decide +kernel
theorem dX8_never_41 : decode cX8_never 41 = .ok (.goto 4, 3) := by decide +kernel
theorem dX8_never_44 : decode cX8_never 44 = .ok (.iconst 1, 1) := by decide +kernel
theorem dX8_never_45 : decode cX8_never 45 = .ok (.ireturn, 1) := by decide +kernel
theorem dX8_deny_0 : decode cX8_deny 0 = .ok (.aload_n 0, 1) := by decide +kernel
theorem dX8_deny_1 : decode cX8_deny 1 = .ok (.getfield 42, 3) := by decide +kernel
theorem dX8_deny_4 : decode cX8_deny 4 = .ok (.iload_n 1, 1) := by decide +kernel
theorem dX8_deny_5 : decode cX8_deny 5 = .ok (.invokevirtual 152, 3) := by decide +kernel
theorem dX8_deny_8 : decode cX8_deny 8 = .ok (.ifCond .eq 14, 3) := by decide +kernel
theorem dX8_deny_11 : decode cX8_deny 11 = .ok (.aload_n 0, 1) := by decide +kernel
theorem dX8_deny_12 : decode cX8_deny 12 = .ok (.getfield 42, 3) := by decide +kernel
theorem dX8_deny_15 : decode cX8_deny 15 = .ok (.iload_n 2, 1) := by decide +kernel
theorem dX8_deny_16 : decode cX8_deny 16 = .ok (.invokevirtual 152, 3) := by decide +kernel
theorem dX8_deny_19 : decode cX8_deny 19 = .ok (.ifCond .ne 5, 3) := by decide +kernel
theorem dX8_deny_22 : decode cX8_deny 22 = .ok (.iconst (-1), 1) := by decide +kernel
theorem dX8_deny_23 : decode cX8_deny 23 = .ok (.ireturn, 1) := by decide +kernel
theorem dX8_deny_24 : decode cX8_deny 24 = .ok (.aload_n 0, 1) := by decide +kernel
theorem dX8_deny_25 : decode cX8_deny 25 = .ok (.invokevirtual 103, 3) := by decide +kernel
theorem dX8_deny_28 : decode cX8_deny 28 = .ok (.aload_n 0, 1) := by decide +kernel
theorem dX8_deny_29 : decode cX8_deny 29 = .ok (.getfield 51, 3) := by decide +kernel
theorem dX8_deny_32 : decode cX8_deny 32 = .ok (.iload_n 1, 1) := by decide +kernel
theorem dX8_deny_33 : decode cX8_deny 33 = .ok (.iload_n 2, 1) := by decide +kernel
theorem dX8_deny_34 : decode cX8_deny 34 = .ok (.aload_n 0, 1) := by decide +kernel
theorem dX8_deny_35 : decode cX8_deny 35 = .ok (.getfield 19, 3) := by decide +kernel
theorem dX8_deny_38 : decode cX8_deny 38 = .ok (.invokevirtual 106, 3) := by decide +kernel
theorem dX8_deny_41 : decode cX8_deny 41 = .ok (.invokevirtual 171, 3) := by decide +kernel
theorem dX8_deny_44 : decode cX8_deny 44 = .ok (.istore_n 3, 1) := by decide +kernel
theorem dX8_deny_45 : decode cX8_deny 45 = .ok (.iload_n 3, 1) := by decide +kernel
theorem dX8_deny_46 : decode cX8_deny 46 = .ok (.bipush (-9), 2) := by decide +kernel
theorem dX8_deny_48 : decode cX8_deny 48 = .ok (.if_icmp .ne 6, 3) := by decide +kernel
theorem dX8_deny_51 : decode cX8_deny 51 = .ok (.bipush (-9), 2) := by decide +kernel
theorem dX8_deny_53 : decode cX8_deny 53 = .ok (.ireturn, 1) := by decide +kernel
theorem dX8_deny_54 : decode cX8_deny 54 = .ok (.aload_n 0, 1) := by decide +kernel
theorem dX8_deny_55 : decode cX8_deny 55 = .ok (.getfield 35, 3) := by decide +kernel
theorem dX8_deny_58 : decode cX8_deny 58 = .ok (.iload_n 3, 1) := by decide +kernel
theorem dX8_deny_59 : decode cX8_deny 59 = .ok (.invokevirtual 174, 3) := by decide +kernel
theorem dX8_deny_62 : decode cX8_deny 62 = .ok (.ldc 177, 2) := by decide +kernel
theorem dX8_deny_64 : decode cX8_deny 64 = .ok (.imul, 1) := by decide +kernel
theorem dX8_deny_65 : decode cX8_deny 65 = .ok (.aload_n 0, 1) := by decide +kernel
theorem dX8_deny_66 : decode cX8_deny 66 = .ok (.getfield 35, 3) := by decide +kernel
theorem dX8_deny_69 : decode cX8_deny 69 = .ok (.getfield 141, 3) := by decide +kernel
theorem dX8_deny_72 : decode cX8_deny 72 = .ok (.iload_n 3, 1) := by decide +kernel
theorem dX8_deny_73 : decode cX8_deny 73 = .ok (.iaload, 1) := by decide +kernel
theorem dX8_deny_74 : decode cX8_deny 74 = .ok (.iadd, 1) := by decide +kernel
theorem dX8_deny_75 : decode cX8_deny 75 = .ok (.ireturn, 1) := by decide +kernel
theorem dX8_weigh_0 : decode cX8_weigh 0 = .ok (.iload_n 1, 1) := by decide +kernel
theorem dX8_weigh_1 : decode cX8_weigh 1 = .ok (.ifCond .lt 18, 3) := by decide +kernel
theorem dX8_weigh_4 : decode cX8_weigh 4 = .ok (.iload_n 1, 1) := by decide +kernel
theorem dX8_weigh_5 : decode cX8_weigh 5 = .ok (.iconst 3, 1) := by decide +kernel
theorem dX8_weigh_6 : decode cX8_weigh 6 = .ok (.if_icmp .ge 13, 3) := by decide +kernel
theorem dX8_weigh_9 : decode cX8_weigh 9 = .ok (.iload_n 2, 1) := by decide +kernel
theorem dX8_weigh_10 : decode cX8_weigh 10 = .ok (.ifCond .lt 9, 3) := by decide +kernel
theorem dX8_weigh_13 : decode cX8_weigh 13 = .ok (.iload_n 2, 1) := by decide +kernel
theorem dX8_weigh_14 : decode cX8_weigh 14 = .ok (.bipush 9, 2) := by decide +kernel
theorem dX8_weigh_16 : decode cX8_weigh 16 = .ok (.if_icmp .le 6, 3) := by decide +kernel
theorem dX8_weigh_19 : decode cX8_weigh 19 = .ok (.bipush (-2), 2) := by decide +kernel
theorem dX8_weigh_21 : decode cX8_weigh 21 = .ok (.ireturn, 1) := by decide +kernel
theorem dX8_weigh_22 : decode cX8_weigh 22 = .ok (.aload_n 0, 1) := by decide +kernel
theorem dX8_weigh_23 : decode cX8_weigh 23 = .ok (.getfield 62, 3) := by decide +kernel
theorem dX8_weigh_26 : decode cX8_weigh 26 = .ok (.iload_n 1, 1) := by decide +kernel
theorem dX8_weigh_27 : decode cX8_weigh 27 = .ok (.iaload, 1) := by decide +kernel
theorem dX8_weigh_28 : decode cX8_weigh 28 = .ok (.istore_n 3, 1) := by decide +kernel
theorem dX8_weigh_29 : decode cX8_weigh 29 = .ok (.aload_n 0, 1) := by decide +kernel
theorem dX8_weigh_30 : decode cX8_weigh 30 = .ok (.getfield 62, 3) := by decide +kernel
theorem dX8_weigh_33 : decode cX8_weigh 33 = .ok (.iload_n 1, 1) := by decide +kernel
theorem dX8_weigh_34 : decode cX8_weigh 34 = .ok (.iload_n 2, 1) := by decide +kernel
theorem dX8_weigh_35 : decode cX8_weigh 35 = .ok (.iastore, 1) := by decide +kernel
theorem dX8_weigh_36 : decode cX8_weigh 36 = .ok (.iload_n 3, 1) := by decide +kernel
theorem dX8_weigh_37 : decode cX8_weigh 37 = .ok (.ireturn, 1) := by decide +kernel
theorem dX8_wake_0 : decode cX8_wake 0 = .ok (.aload_n 0, 1) := by decide +kernel
theorem dX8_wake_1 : decode cX8_wake 1 = .ok (.getfield 42, 3) := by decide +kernel
theorem dX8_wake_4 : decode cX8_wake 4 = .ok (.iload_n 1, 1) := by decide +kernel
theorem dX8_wake_5 : decode cX8_wake 5 = .ok (.invokevirtual 152, 3) := by decide +kernel
theorem dX8_wake_8 : decode cX8_wake 8 = .ok (.ifCond .ne 5, 3) := by decide +kernel
theorem dX8_wake_11 : decode cX8_wake 11 = .ok (.iconst (-1), 1) := by decide +kernel
theorem dX8_wake_12 : decode cX8_wake 12 = .ok (.ireturn, 1) := by decide +kernel
theorem dX8_wake_13 : decode cX8_wake 13 = .ok (.aload_n 0, 1) := by decide +kernel
theorem dX8_wake_14 : decode cX8_wake 14 = .ok (.getfield 42, 3) := by decide +kernel
theorem dX8_wake_17 : decode cX8_wake 17 = .ok (.getfield 178, 3) := by decide +kernel
theorem dX8_wake_20 : decode cX8_wake 20 = .ok (.iload_n 1, 1) := by decide +kernel
theorem dX8_wake_21 : decode cX8_wake 21 = .ok (.baload, 1) := by decide +kernel
theorem dX8_wake_22 : decode cX8_wake 22 = .ok (.ifCond .eq 7, 3) := by decide +kernel
theorem dX8_wake_25 : decode cX8_wake 25 = .ok (.iconst 1, 1) := by decide +kernel
theorem dX8_wake_26 : decode cX8_wake 26 = .ok (.goto 4, 3) := by decide +kernel
theorem dX8_wake_29 : decode cX8_wake 29 = .ok (.iconst 0, 1) := by decide +kernel
theorem dX8_wake_30 : decode cX8_wake 30 = .ok (.istore_n 3, 1) := by decide +kernel
theorem dX8_wake_31 : decode cX8_wake 31 = .ok (.aload_n 0, 1) := by decide +kernel
theorem dX8_wake_32 : decode cX8_wake 32 = .ok (.getfield 42, 3) := by decide +kernel
theorem dX8_wake_35 : decode cX8_wake 35 = .ok (.getfield 178, 3) := by decide +kernel
theorem dX8_wake_38 : decode cX8_wake 38 = .ok (.iload_n 1, 1) := by decide +kernel
theorem dX8_wake_39 : decode cX8_wake 39 = .ok (.iload_n 2, 1) := by decide +kernel
theorem dX8_wake_40 : decode cX8_wake 40 = .ok (.bastore, 1) := by decide +kernel
theorem dX8_wake_41 : decode cX8_wake 41 = .ok (.iload_n 3, 1) := by decide +kernel
theorem dX8_wake_42 : decode cX8_wake 42 = .ok (.ireturn, 1) := by decide +kernel
theorem dX8_worth_0 : decode cX8_worth 0 = .ok (.aload_n 0, 1) := by decide +kernel
theorem dX8_worth_1 : decode cX8_worth 1 = .ok (.getfield 42, 3) := by decide +kernel
theorem dX8_worth_4 : decode cX8_worth 4 = .ok (.iload_n 1, 1) := by decide +kernel
theorem dX8_worth_5 : decode cX8_worth 5 = .ok (.invokevirtual 152, 3) := by decide +kernel
theorem dX8_worth_8 : decode cX8_worth 8 = .ok (.ifCond .ne 5, 3) := by decide +kernel
theorem dX8_worth_11 : decode cX8_worth 11 = .ok (.iconst (-1), 1) := by decide +kernel
theorem dX8_worth_12 : decode cX8_worth 12 = .ok (.ireturn, 1) := by decide +kernel
theorem dX8_worth_13 : decode cX8_worth 13 = .ok (.iload_n 2, 1) := by decide +kernel
theorem dX8_worth_14 : decode cX8_worth 14 = .ok (.ifCond .lt 8, 3) := by decide +kernel
theorem dX8_worth_17 : decode cX8_worth 17 = .ok (.iload_n 2, 1) := by decide +kernel
theorem dX8_worth_18 : decode cX8_worth 18 = .ok (.iconst 3, 1) := by decide +kernel
theorem dX8_worth_19 : decode cX8_worth 19 = .ok (.if_icmp .le 6, 3) := by decide +kernel
theorem dX8_worth_22 : decode cX8_worth 22 = .ok (.bipush (-2), 2) := by decide +kernel
theorem dX8_worth_24 : decode cX8_worth 24 = .ok (.ireturn, 1) := by decide +kernel
theorem dX8_worth_25 : decode cX8_worth 25 = .ok (.aload_n 0, 1) := by decide +kernel
theorem dX8_worth_26 : decode cX8_worth 26 = .ok (.invokevirtual 103, 3) := by decide +kernel
theorem dX8_worth_29 : decode cX8_worth 29 = .ok (.iload_n 2, 1) := by decide +kernel
theorem dX8_worth_30 : decode cX8_worth 30 = .ok (.tableswitch 61 0 2 #[26, 42, 51], 26) := by decide +kernel
theorem dX8_worth_56 : decode cX8_worth 56 = .ok (.aload_n 0, 1) := by decide +kernel
theorem dX8_worth_57 : decode cX8_worth 57 = .ok (.getfield 51, 3) := by decide +kernel
theorem dX8_worth_60 : decode cX8_worth 60 = .ok (.aload_n 0, 1) := by decide +kernel
theorem dX8_worth_61 : decode cX8_worth 61 = .ok (.getfield 51, 3) := by decide +kernel
theorem dX8_worth_64 : decode cX8_worth 64 = .ok (.iload_n 1, 1) := by decide +kernel
theorem dX8_worth_65 : decode cX8_worth 65 = .ok (.invokevirtual 156, 3) := by decide +kernel
theorem dX8_worth_68 : decode cX8_worth 68 = .ok (.invokevirtual 182, 3) := by decide +kernel
theorem dX8_worth_71 : decode cX8_worth 71 = .ok (.ireturn, 1) := by decide +kernel
theorem dX8_worth_72 : decode cX8_worth 72 = .ok (.aload_n 0, 1) := by decide +kernel
theorem dX8_worth_73 : decode cX8_worth 73 = .ok (.getfield 51, 3) := by decide +kernel
theorem dX8_worth_76 : decode cX8_worth 76 = .ok (.iload_n 1, 1) := by decide +kernel
theorem dX8_worth_77 : decode cX8_worth 77 = .ok (.invokevirtual 185, 3) := by decide +kernel
theorem dX8_worth_80 : decode cX8_worth 80 = .ok (.ireturn, 1) := by decide +kernel
theorem dX8_worth_81 : decode cX8_worth 81 = .ok (.aload_n 0, 1) := by decide +kernel
theorem dX8_worth_82 : decode cX8_worth 82 = .ok (.getfield 42, 3) := by decide +kernel
theorem dX8_worth_85 : decode cX8_worth 85 = .ok (.getfield 188, 3) := by decide +kernel
theorem dX8_worth_88 : decode cX8_worth 88 = .ok (.iload_n 1, 1) := by decide +kernel
theorem dX8_worth_89 : decode cX8_worth 89 = .ok (.iaload, 1) := by decide +kernel
theorem dX8_worth_90 : decode cX8_worth 90 = .ok (.ireturn, 1) := by decide +kernel
theorem dX8_worth_91 : decode cX8_worth 91 = .ok (.aload_n 0, 1) := by decide +kernel
theorem dX8_worth_92 : decode cX8_worth 92 = .ok (.iload_n 1, 1) := by decide +kernel
theorem dX8_worth_93 : decode cX8_worth 93 = .ok (.invokevirtual 191, 3) := by decide +kernel
theorem dX8_worth_96 : decode cX8_worth 96 = .ok (.ldc 177, 2) := by decide +kernel
theorem dX8_worth_98 : decode cX8_worth 98 = .ok (.iadd, 1) := by decide +kernel
theorem dX8_worth_99 : decode cX8_worth 99 = .ok (.ireturn, 1) := by decide +kernel
theorem dX8_best_0 : decode cX8_best 0 = .ok (.aload_n 0, 1) := by decide +kernel
theorem dX8_best_1 : decode cX8_best 1 = .ok (.invokevirtual 103, 3) := by decide +kernel
theorem dX8_best_4 : decode cX8_best 4 = .ok (.bipush (-9), 2) := by decide +kernel
theorem dX8_best_6 : decode cX8_best 6 = .ok (.istore_n 1, 1) := by decide +kernel
theorem dX8_best_7 : decode cX8_best 7 = .ok (.iconst 0, 1) := by decide +kernel
theorem dX8_best_8 : decode cX8_best 8 = .ok (.istore_n 2, 1) := by decide +kernel
theorem dX8_best_9 : decode cX8_best 9 = .ok (.iconst 0, 1) := by decide +kernel
theorem dX8_best_10 : decode cX8_best 10 = .ok (.istore_n 3, 1) := by decide +kernel
theorem dX8_best_11 : decode cX8_best 11 = .ok (.iload_n 3, 1) := by decide +kernel
theorem dX8_best_12 : decode cX8_best 12 = .ok (.aload_n 0, 1) := by decide +kernel
theorem dX8_best_13 : decode cX8_best 13 = .ok (.getfield 42, 3) := by decide +kernel
theorem dX8_best_16 : decode cX8_best 16 = .ok (.getfield 194, 3) := by decide +kernel
theorem dX8_best_19 : decode cX8_best 19 = .ok (.if_icmp .ge 45, 3) := by decide +kernel
theorem dX8_best_22 : decode cX8_best 22 = .ok (.aload_n 0, 1) := by decide +kernel
theorem dX8_best_23 : decode cX8_best 23 = .ok (.getfield 42, 3) := by decide +kernel
theorem dX8_best_26 : decode cX8_best 26 = .ok (.getfield 178, 3) := by decide +kernel
theorem dX8_best_29 : decode cX8_best 29 = .ok (.iload_n 3, 1) := by decide +kernel
theorem dX8_best_30 : decode cX8_best 30 = .ok (.baload, 1) := by decide +kernel
theorem dX8_best_31 : decode cX8_best 31 = .ok (.ifCond .eq 27, 3) := by decide +kernel
theorem dX8_best_34 : decode cX8_best 34 = .ok (.aload_n 0, 1) := by decide +kernel
theorem dX8_best_35 : decode cX8_best 35 = .ok (.iload_n 3, 1) := by decide +kernel
theorem dX8_best_36 : decode cX8_best 36 = .ok (.invokevirtual 191, 3) := by decide +kernel
theorem dX8_best_39 : decode cX8_best 39 = .ok (.istore 4, 2) := by decide +kernel
theorem dX8_best_41 : decode cX8_best 41 = .ok (.iload_n 1, 1) := by decide +kernel
theorem dX8_best_42 : decode cX8_best 42 = .ok (.bipush (-9), 2) := by decide +kernel
theorem dX8_best_44 : decode cX8_best 44 = .ok (.if_icmp .eq 9, 3) := by decide +kernel
theorem dX8_best_47 : decode cX8_best 47 = .ok (.iload 4, 2) := by decide +kernel
theorem dX8_best_49 : decode cX8_best 49 = .ok (.iload_n 2, 1) := by decide +kernel
theorem dX8_best_50 : decode cX8_best 50 = .ok (.if_icmp .le 8, 3) := by decide +kernel
theorem dX8_best_53 : decode cX8_best 53 = .ok (.iload_n 3, 1) := by decide +kernel
theorem dX8_best_54 : decode cX8_best 54 = .ok (.istore_n 1, 1) := by decide +kernel
theorem dX8_best_55 : decode cX8_best 55 = .ok (.iload 4, 2) := by decide +kernel
theorem dX8_best_57 : decode cX8_best 57 = .ok (.istore_n 2, 1) := by decide +kernel
theorem dX8_best_58 : decode cX8_best 58 = .ok (.iinc 3 1, 3) := by decide +kernel
theorem dX8_best_61 : decode cX8_best 61 = .ok (.goto (-50), 3) := by decide +kernel
theorem dX8_best_64 : decode cX8_best 64 = .ok (.iload_n 1, 1) := by decide +kernel
theorem dX8_best_65 : decode cX8_best 65 = .ok (.ireturn, 1) := by decide +kernel
theorem dX8_next_0 : decode cX8_next 0 = .ok (.aload_n 0, 1) := by decide +kernel
theorem dX8_next_1 : decode cX8_next 1 = .ok (.invokevirtual 103, 3) := by decide +kernel
theorem dX8_next_4 : decode cX8_next 4 = .ok (.aload_n 0, 1) := by decide +kernel
theorem dX8_next_5 : decode cX8_next 5 = .ok (.getfield 51, 3) := by decide +kernel
theorem dX8_next_8 : decode cX8_next 8 = .ok (.invokevirtual 195, 3) := by decide +kernel
theorem dX8_next_11 : decode cX8_next 11 = .ok (.ireturn, 1) := by decide +kernel
theorem dX8_makeNext_0 : decode cX8_makeNext 0 = .ok (.aload_n 0, 1) := by decide +kernel
theorem dX8_makeNext_1 : decode cX8_makeNext 1 = .ok (.invokevirtual 103, 3) := by decide +kernel
theorem dX8_makeNext_4 : decode cX8_makeNext 4 = .ok (.aload_n 0, 1) := by decide +kernel
theorem dX8_makeNext_5 : decode cX8_makeNext 5 = .ok (.getfield 51, 3) := by decide +kernel
theorem dX8_makeNext_8 : decode cX8_makeNext 8 = .ok (.invokevirtual 195, 3) := by decide +kernel
theorem dX8_makeNext_11 : decode cX8_makeNext 11 = .ok (.istore_n 1, 1) := by decide +kernel
theorem dX8_makeNext_12 : decode cX8_makeNext 12 = .ok (.iload_n 1, 1) := by decide +kernel
theorem dX8_makeNext_13 : decode cX8_makeNext 13 = .ok (.bipush (-9), 2) := by decide +kernel
theorem dX8_makeNext_15 : decode cX8_makeNext 15 = .ok (.if_icmp .ne 6, 3) := by decide +kernel
theorem dX8_makeNext_18 : decode cX8_makeNext 18 = .ok (.bipush (-3), 2) := by decide +kernel
theorem dX8_makeNext_20 : decode cX8_makeNext 20 = .ok (.ireturn, 1) := by decide +kernel
theorem dX8_makeNext_21 : decode cX8_makeNext 21 = .ok (.aload_n 0, 1) := by decide +kernel
theorem dX8_makeNext_22 : decode cX8_makeNext 22 = .ok (.getfield 42, 3) := by decide +kernel
theorem dX8_makeNext_25 : decode cX8_makeNext 25 = .ok (.iload_n 1, 1) := by decide +kernel
theorem dX8_makeNext_26 : decode cX8_makeNext 26 = .ok (.sipush 10000, 3) := by decide +kernel
theorem dX8_makeNext_29 : decode cX8_makeNext 29 = .ok (.idiv, 1) := by decide +kernel
theorem dX8_makeNext_30 : decode cX8_makeNext 30 = .ok (.iload_n 1, 1) := by decide +kernel
theorem dX8_makeNext_31 : decode cX8_makeNext 31 = .ok (.bipush 100, 2) := by decide +kernel
theorem dX8_makeNext_33 : decode cX8_makeNext 33 = .ok (.idiv, 1) := by decide +kernel
theorem dX8_makeNext_34 : decode cX8_makeNext 34 = .ok (.bipush 100, 2) := by decide +kernel
theorem dX8_makeNext_36 : decode cX8_makeNext 36 = .ok (.irem, 1) := by decide +kernel
theorem dX8_makeNext_37 : decode cX8_makeNext 37 = .ok (.iload_n 1, 1) := by decide +kernel
theorem dX8_makeNext_38 : decode cX8_makeNext 38 = .ok (.bipush 100, 2) := by decide +kernel
theorem dX8_makeNext_40 : decode cX8_makeNext 40 = .ok (.irem, 1) := by decide +kernel
theorem dX8_makeNext_41 : decode cX8_makeNext 41 = .ok (.invokevirtual 150, 3) := by decide +kernel
theorem dX8_makeNext_44 : decode cX8_makeNext 44 = .ok (.ireturn, 1) := by decide +kernel
theorem dX8_needed_0 : decode cX8_needed 0 = .ok (.iload_n 1, 1) := by decide +kernel
theorem dX8_needed_1 : decode cX8_needed 1 = .ok (.ifCond .lt 14, 3) := by decide +kernel
theorem dX8_needed_4 : decode cX8_needed 4 = .ok (.iload_n 1, 1) := by decide +kernel
theorem dX8_needed_5 : decode cX8_needed 5 = .ok (.aload_n 0, 1) := by decide +kernel
theorem dX8_needed_6 : decode cX8_needed 6 = .ok (.getfield 19, 3) := by decide +kernel
theorem dX8_needed_9 : decode cX8_needed 9 = .ok (.getfield 96, 3) := by decide +kernel
theorem dX8_needed_12 : decode cX8_needed 12 = .ok (.if_icmp .lt 5, 3) := by decide +kernel
theorem dX8_needed_15 : decode cX8_needed 15 = .ok (.iconst (-1), 1) := by decide +kernel
theorem dX8_needed_16 : decode cX8_needed 16 = .ok (.ireturn, 1) := by decide +kernel
theorem dX8_needed_17 : decode cX8_needed 17 = .ok (.aload_n 0, 1) := by decide +kernel
theorem dX8_needed_18 : decode cX8_needed 18 = .ok (.invokevirtual 103, 3) := by decide +kernel
theorem dX8_needed_21 : decode cX8_needed 21 = .ok (.aload_n 0, 1) := by decide +kernel
theorem dX8_needed_22 : decode cX8_needed 22 = .ok (.getfield 35, 3) := by decide +kernel
theorem dX8_needed_25 : decode cX8_needed 25 = .ok (.iload_n 1, 1) := by decide +kernel
theorem dX8_needed_26 : decode cX8_needed 26 = .ok (.aload_n 0, 1) := by decide +kernel
theorem dX8_needed_27 : decode cX8_needed 27 = .ok (.getfield 19, 3) := by decide +kernel
theorem dX8_needed_30 : decode cX8_needed 30 = .ok (.invokevirtual 106, 3) := by decide +kernel
theorem dX8_needed_33 : decode cX8_needed 33 = .ok (.invokevirtual 198, 3) := by decide +kernel
theorem dX8_needed_36 : decode cX8_needed 36 = .ok (.ifCond .eq 7, 3) := by decide +kernel
theorem dX8_needed_39 : decode cX8_needed 39 = .ok (.iconst 1, 1) := by decide +kernel
theorem dX8_needed_40 : decode cX8_needed 40 = .ok (.goto 4, 3) := by decide +kernel
theorem dX8_needed_43 : decode cX8_needed 43 = .ok (.iconst 0, 1) := by decide +kernel
theorem dX8_needed_44 : decode cX8_needed 44 = .ok (.ireturn, 1) := by decide +kernel
theorem dX8_least_0 : decode cX8_least 0 = .ok (.aload_n 0, 1) := by decide +kernel
theorem dX8_least_1 : decode cX8_least 1 = .ok (.invokevirtual 103, 3) := by decide +kernel
theorem dX8_least_4 : decode cX8_least 4 = .ok (.aload_n 0, 1) := by decide +kernel
theorem dX8_least_5 : decode cX8_least 5 = .ok (.getfield 19, 3) := by decide +kernel
theorem dX8_least_8 : decode cX8_least 8 = .ok (.invokevirtual 106, 3) := by decide +kernel
theorem dX8_least_11 : decode cX8_least 11 = .ok (.istore_n 1, 1) := by decide +kernel
theorem dX8_least_12 : decode cX8_least 12 = .ok (.aload_n 0, 1) := by decide +kernel
theorem dX8_least_13 : decode cX8_least 13 = .ok (.getfield 19, 3) := by decide +kernel
theorem dX8_least_16 : decode cX8_least 16 = .ok (.getfield 96, 3) := by decide +kernel
theorem dX8_least_19 : decode cX8_least 19 = .ok (.iconst 1, 1) := by decide +kernel
theorem dX8_least_20 : decode cX8_least 20 = .ok (.isub, 1) := by decide +kernel
theorem dX8_least_21 : decode cX8_least 21 = .ok (.istore_n 2, 1) := by decide +kernel
theorem dX8_least_22 : decode cX8_least 22 = .ok (.iload_n 2, 1) := by decide +kernel
theorem dX8_least_23 : decode cX8_least 23 = .ok (.ifCond .lt 29, 3) := by decide +kernel
theorem dX8_least_26 : decode cX8_least 26 = .ok (.aload_n 0, 1) := by decide +kernel
theorem dX8_least_27 : decode cX8_least 27 = .ok (.getfield 35, 3) := by decide +kernel
theorem dX8_least_30 : decode cX8_least 30 = .ok (.iload_n 2, 1) := by decide +kernel
theorem dX8_least_31 : decode cX8_least 31 = .ok (.iload_n 1, 1) := by decide +kernel
theorem dX8_least_32 : decode cX8_least 32 = .ok (.invokevirtual 198, 3) := by decide +kernel
theorem dX8_least_35 : decode cX8_least 35 = .ok (.ifCond .ne 11, 3) := by decide +kernel
theorem dX8_least_38 : decode cX8_least 38 = .ok (.iload_n 1, 1) := by decide +kernel
theorem dX8_least_39 : decode cX8_least 39 = .ok (.iconst 1, 1) := by decide +kernel
theorem dX8_least_40 : decode cX8_least 40 = .ok (.iload_n 2, 1) := by decide +kernel
theorem dX8_least_41 : decode cX8_least 41 = .ok (.ishl, 1) := by decide +kernel
theorem dX8_least_42 : decode cX8_least 42 = .ok (.iconst (-1), 1) := by decide +kernel
theorem dX8_least_43 : decode cX8_least 43 = .ok (.ixor, 1) := by decide +kernel
theorem dX8_least_44 : decode cX8_least 44 = .ok (.iand, 1) := by decide +kernel
theorem dX8_least_45 : decode cX8_least 45 = .ok (.istore_n 1, 1) := by decide +kernel
theorem dX8_least_46 : decode cX8_least 46 = .ok (.iinc 2 (-1), 3) := by decide +kernel
theorem dX8_least_49 : decode cX8_least 49 = .ok (.goto (-27), 3) := by decide +kernel
theorem dX8_least_52 : decode cX8_least 52 = .ok (.iload_n 1, 1) := by decide +kernel
theorem dX8_least_53 : decode cX8_least 53 = .ok (.ireturn, 1) := by decide +kernel
theorem dX8_even_0 : decode cX8_even 0 = .ok (.aload_n 0, 1) := by decide +kernel
theorem dX8_even_1 : decode cX8_even 1 = .ok (.invokevirtual 103, 3) := by decide +kernel
theorem dX8_even_4 : decode cX8_even 4 = .ok (.aload_n 0, 1) := by decide +kernel
theorem dX8_even_5 : decode cX8_even 5 = .ok (.getfield 35, 3) := by decide +kernel
theorem dX8_even_8 : decode cX8_even 8 = .ok (.aload_n 0, 1) := by decide +kernel
theorem dX8_even_9 : decode cX8_even 9 = .ok (.getfield 19, 3) := by decide +kernel
theorem dX8_even_12 : decode cX8_even 12 = .ok (.invokevirtual 106, 3) := by decide +kernel
theorem dX8_even_15 : decode cX8_even 15 = .ok (.invokevirtual 201, 3) := by decide +kernel
theorem dX8_even_18 : decode cX8_even 18 = .ok (.ifCond .eq 7, 3) := by decide +kernel
theorem dX8_even_21 : decode cX8_even 21 = .ok (.iconst 1, 1) := by decide +kernel
theorem dX8_even_22 : decode cX8_even 22 = .ok (.goto 4, 3) := by decide +kernel
theorem dX8_even_25 : decode cX8_even 25 = .ok (.iconst 0, 1) := by decide +kernel
theorem dX8_even_26 : decode cX8_even 26 = .ok (.ireturn, 1) := by decide +kernel
theorem dX8_keep_0 : decode cX8_keep 0 = .ok (.iload_n 1, 1) := by decide +kernel
theorem dX8_keep_1 : decode cX8_keep 1 = .ok (.invokestatic 204, 3) := by decide +kernel
theorem dX8_keep_4 : decode cX8_keep 4 = .ok (.ifCond .ne 5, 3) := by decide +kernel
theorem dX8_keep_7 : decode cX8_keep 7 = .ok (.iconst (-1), 1) := by decide +kernel
theorem dX8_keep_8 : decode cX8_keep 8 = .ok (.ireturn, 1) := by decide +kernel
theorem dX8_keep_9 : decode cX8_keep 9 = .ok (.aload_n 0, 1) := by decide +kernel
theorem dX8_keep_10 : decode cX8_keep 10 = .ok (.invokevirtual 103, 3) := by decide +kernel
theorem dX8_keep_13 : decode cX8_keep 13 = .ok (.aload_n 0, 1) := by decide +kernel
theorem dX8_keep_14 : decode cX8_keep 14 = .ok (.getfield 35, 3) := by decide +kernel
theorem dX8_keep_17 : decode cX8_keep 17 = .ok (.iload_n 1, 1) := by decide +kernel
theorem dX8_keep_18 : decode cX8_keep 18 = .ok (.aload_n 0, 1) := by decide +kernel
theorem dX8_keep_19 : decode cX8_keep 19 = .ok (.getfield 19, 3) := by decide +kernel
theorem dX8_keep_22 : decode cX8_keep 22 = .ok (.invokevirtual 106, 3) := by decide +kernel
theorem dX8_keep_25 : decode cX8_keep 25 = .ok (.invokevirtual 207, 3) := by decide +kernel
theorem dX8_keep_28 : decode cX8_keep 28 = .ok (.aload_n 0, 1) := by decide +kernel
theorem dX8_keep_29 : decode cX8_keep 29 = .ok (.getfield 19, 3) := by decide +kernel
theorem dX8_keep_32 : decode cX8_keep 32 = .ok (.getfield 96, 3) := by decide +kernel
theorem dX8_keep_35 : decode cX8_keep 35 = .ok (.ireturn, 1) := by decide +kernel
theorem dX8_same_0 : decode cX8_same 0 = .ok (.iload_n 1, 1) := by decide +kernel
theorem dX8_same_1 : decode cX8_same 1 = .ok (.invokestatic 204, 3) := by decide +kernel
theorem dX8_same_4 : decode cX8_same 4 = .ok (.ifCond .ne 5, 3) := by decide +kernel
theorem dX8_same_7 : decode cX8_same 7 = .ok (.iconst (-1), 1) := by decide +kernel
theorem dX8_same_8 : decode cX8_same 8 = .ok (.ireturn, 1) := by decide +kernel
theorem dX8_same_9 : decode cX8_same 9 = .ok (.aload_n 0, 1) := by decide +kernel
theorem dX8_same_10 : decode cX8_same 10 = .ok (.invokevirtual 103, 3) := by decide +kernel
theorem dX8_same_13 : decode cX8_same 13 = .ok (.aload_n 0, 1) := by decide +kernel
theorem dX8_same_14 : decode cX8_same 14 = .ok (.getfield 35, 3) := by decide +kernel
theorem dX8_same_17 : decode cX8_same 17 = .ok (.iload_n 1, 1) := by decide +kernel
theorem dX8_same_18 : decode cX8_same 18 = .ok (.aload_n 0, 1) := by decide +kernel
theorem dX8_same_19 : decode cX8_same 19 = .ok (.getfield 19, 3) := by decide +kernel
theorem dX8_same_22 : decode cX8_same 22 = .ok (.invokevirtual 106, 3) := by decide +kernel
theorem dX8_same_25 : decode cX8_same 25 = .ok (.iconst 0, 1) := by decide +kernel
theorem dX8_same_26 : decode cX8_same 26 = .ok (.invokevirtual 210, 3) := by decide +kernel
theorem dX8_same_29 : decode cX8_same 29 = .ok (.ifCond .eq 5, 3) := by decide +kernel
theorem dX8_same_32 : decode cX8_same 32 = .ok (.iconst 1, 1) := by decide +kernel
theorem dX8_same_33 : decode cX8_same 33 = .ok (.ireturn, 1) := by decide +kernel
theorem dX8_same_34 : decode cX8_same 34 = .ok (.aload_n 0, 1) := by decide +kernel
theorem dX8_same_35 : decode cX8_same 35 = .ok (.getfield 35, 3) := by decide +kernel
theorem dX8_same_38 : decode cX8_same 38 = .ok (.iload_n 1, 1) := by decide +kernel
theorem dX8_same_39 : decode cX8_same 39 = .ok (.aload_n 0, 1) := by decide +kernel
theorem dX8_same_40 : decode cX8_same 40 = .ok (.getfield 19, 3) := by decide +kernel
theorem dX8_same_43 : decode cX8_same 43 = .ok (.invokevirtual 106, 3) := by decide +kernel
theorem dX8_same_46 : decode cX8_same 46 = .ok (.iconst 1, 1) := by decide +kernel
theorem dX8_same_47 : decode cX8_same 47 = .ok (.invokevirtual 210, 3) := by decide +kernel
theorem dX8_same_50 : decode cX8_same 50 = .ok (.ifCond .eq 7, 3) := by decide +kernel
theorem dX8_same_53 : decode cX8_same 53 = .ok (.iconst 2, 1) := by decide +kernel
theorem dX8_same_54 : decode cX8_same 54 = .ok (.goto 4, 3) := by decide +kernel
theorem dX8_same_57 : decode cX8_same 57 = .ok (.iconst 0, 1) := by decide +kernel
theorem dX8_same_58 : decode cX8_same 58 = .ok (.ireturn, 1) := by decide +kernel
theorem dX8_shown_0 : decode cX8_shown 0 = .ok (.aload_n 0, 1) := by decide +kernel
theorem dX8_shown_1 : decode cX8_shown 1 = .ok (.getfield 10, 3) := by decide +kernel
theorem dX8_shown_4 : decode cX8_shown 4 = .ok (.iload_n 1, 1) := by decide +kernel
theorem dX8_shown_5 : decode cX8_shown 5 = .ok (.invokevirtual 72, 3) := by decide +kernel
theorem dX8_shown_8 : decode cX8_shown 8 = .ok (.ifCond .eq 14, 3) := by decide +kernel
theorem dX8_shown_11 : decode cX8_shown 11 = .ok (.aload_n 0, 1) := by decide +kernel
theorem dX8_shown_12 : decode cX8_shown 12 = .ok (.getfield 10, 3) := by decide +kernel
theorem dX8_shown_15 : decode cX8_shown 15 = .ok (.iload_n 2, 1) := by decide +kernel
theorem dX8_shown_16 : decode cX8_shown 16 = .ok (.invokevirtual 72, 3) := by decide +kernel
theorem dX8_shown_19 : decode cX8_shown 19 = .ok (.ifCond .ne 5, 3) := by decide +kernel
theorem dX8_shown_22 : decode cX8_shown 22 = .ok (.iconst (-1), 1) := by decide +kernel
theorem dX8_shown_23 : decode cX8_shown 23 = .ok (.ireturn, 1) := by decide +kernel
theorem dX8_shown_24 : decode cX8_shown 24 = .ok (.aload_n 0, 1) := by decide +kernel
theorem dX8_shown_25 : decode cX8_shown 25 = .ok (.getfield 58, 3) := by decide +kernel
theorem dX8_shown_28 : decode cX8_shown 28 = .ok (.aload_n 0, 1) := by decide +kernel
theorem dX8_shown_29 : decode cX8_shown 29 = .ok (.getfield 10, 3) := by decide +kernel
theorem dX8_shown_32 : decode cX8_shown 32 = .ok (.aload_n 0, 1) := by decide +kernel
theorem dX8_shown_33 : decode cX8_shown 33 = .ok (.getfield 19, 3) := by decide +kernel
theorem dX8_shown_36 : decode cX8_shown 36 = .ok (.invokevirtual 214, 3) := by decide +kernel
theorem dX8_shown_39 : decode cX8_shown 39 = .ok (.aload_n 0, 1) := by decide +kernel
theorem dX8_shown_40 : decode cX8_shown 40 = .ok (.getfield 58, 3) := by decide +kernel
theorem dX8_shown_43 : decode cX8_shown 43 = .ok (.iload_n 1, 1) := by decide +kernel
theorem dX8_shown_44 : decode cX8_shown 44 = .ok (.iload_n 2, 1) := by decide +kernel
theorem dX8_shown_45 : decode cX8_shown 45 = .ok (.invokevirtual 217, 3) := by decide +kernel
theorem dX8_shown_48 : decode cX8_shown 48 = .ok (.ireturn, 1) := by decide +kernel
theorem dX8_groups_0 : decode cX8_groups 0 = .ok (.aload_n 0, 1) := by decide +kernel
theorem dX8_groups_1 : decode cX8_groups 1 = .ok (.getfield 58, 3) := by decide +kernel
theorem dX8_groups_4 : decode cX8_groups 4 = .ok (.aload_n 0, 1) := by decide +kernel
theorem dX8_groups_5 : decode cX8_groups 5 = .ok (.getfield 10, 3) := by decide +kernel
theorem dX8_groups_8 : decode cX8_groups 8 = .ok (.aload_n 0, 1) := by decide +kernel
theorem dX8_groups_9 : decode cX8_groups 9 = .ok (.getfield 19, 3) := by decide +kernel
theorem dX8_groups_12 : decode cX8_groups 12 = .ok (.invokevirtual 214, 3) := by decide +kernel
theorem dX8_groups_15 : decode cX8_groups 15 = .ok (.aload_n 0, 1) := by decide +kernel
theorem dX8_groups_16 : decode cX8_groups 16 = .ok (.getfield 58, 3) := by decide +kernel
theorem dX8_groups_19 : decode cX8_groups 19 = .ok (.aload_n 0, 1) := by decide +kernel
theorem dX8_groups_20 : decode cX8_groups 20 = .ok (.getfield 10, 3) := by decide +kernel
theorem dX8_groups_23 : decode cX8_groups 23 = .ok (.getfield 220, 3) := by decide +kernel
theorem dX8_groups_26 : decode cX8_groups 26 = .ok (.invokevirtual 221, 3) := by decide +kernel
theorem dX8_groups_29 : decode cX8_groups 29 = .ok (.ireturn, 1) := by decide +kernel
theorem dX8_first_0 : decode cX8_first 0 = .ok (.aload_n 0, 1) := by decide +kernel
theorem dX8_first_1 : decode cX8_first 1 = .ok (.getfield 10, 3) := by decide +kernel
theorem dX8_first_4 : decode cX8_first 4 = .ok (.iload_n 1, 1) := by decide +kernel
theorem dX8_first_5 : decode cX8_first 5 = .ok (.invokevirtual 72, 3) := by decide +kernel
theorem dX8_first_8 : decode cX8_first 8 = .ok (.ifCond .ne 5, 3) := by decide +kernel
theorem dX8_first_11 : decode cX8_first 11 = .ok (.iconst (-1), 1) := by decide +kernel
theorem dX8_first_12 : decode cX8_first 12 = .ok (.ireturn, 1) := by decide +kernel
theorem dX8_first_13 : decode cX8_first 13 = .ok (.aload_n 0, 1) := by decide +kernel
theorem dX8_first_14 : decode cX8_first 14 = .ok (.getfield 58, 3) := by decide +kernel
theorem dX8_first_17 : decode cX8_first 17 = .ok (.aload_n 0, 1) := by decide +kernel
theorem dX8_first_18 : decode cX8_first 18 = .ok (.getfield 10, 3) := by decide +kernel
theorem dX8_first_21 : decode cX8_first 21 = .ok (.aload_n 0, 1) := by decide +kernel
theorem dX8_first_22 : decode cX8_first 22 = .ok (.getfield 19, 3) := by decide +kernel
theorem dX8_first_25 : decode cX8_first 25 = .ok (.invokevirtual 214, 3) := by decide +kernel
theorem dX8_first_28 : decode cX8_first 28 = .ok (.aload_n 0, 1) := by decide +kernel
theorem dX8_first_29 : decode cX8_first 29 = .ok (.getfield 58, 3) := by decide +kernel
theorem dX8_first_32 : decode cX8_first 32 = .ok (.getfield 224, 3) := by decide +kernel
theorem dX8_first_35 : decode cX8_first 35 = .ok (.iload_n 1, 1) := by decide +kernel
theorem dX8_first_36 : decode cX8_first 36 = .ok (.iaload, 1) := by decide +kernel
theorem dX8_first_37 : decode cX8_first 37 = .ok (.ireturn, 1) := by decide +kernel
theorem dX8_count_0 : decode cX8_count 0 = .ok (.iload_n 1, 1) := by decide +kernel
theorem dX8_count_1 : decode cX8_count 1 = .ok (.tableswitch 90 0 4 #[35, 43, 51, 59, 67], 35) := by decide +kernel
theorem dX8_count_36 : decode cX8_count 36 = .ok (.aload_n 0, 1) := by decide +kernel
theorem dX8_count_37 : decode cX8_count 37 = .ok (.getfield 10, 3) := by decide +kernel
theorem dX8_count_40 : decode cX8_count 40 = .ok (.getfield 220, 3) := by decide +kernel
theorem dX8_count_43 : decode cX8_count 43 = .ok (.ireturn, 1) := by decide +kernel
theorem dX8_count_44 : decode cX8_count 44 = .ok (.aload_n 0, 1) := by decide +kernel
theorem dX8_count_45 : decode cX8_count 45 = .ok (.getfield 19, 3) := by decide +kernel
theorem dX8_count_48 : decode cX8_count 48 = .ok (.getfield 96, 3) := by decide +kernel
theorem dX8_count_51 : decode cX8_count 51 = .ok (.ireturn, 1) := by decide +kernel
theorem dX8_count_52 : decode cX8_count 52 = .ok (.aload_n 0, 1) := by decide +kernel
theorem dX8_count_53 : decode cX8_count 53 = .ok (.getfield 42, 3) := by decide +kernel
theorem dX8_count_56 : decode cX8_count 56 = .ok (.getfield 194, 3) := by decide +kernel
theorem dX8_count_59 : decode cX8_count 59 = .ok (.ireturn, 1) := by decide +kernel
theorem dX8_count_60 : decode cX8_count 60 = .ok (.aload_n 0, 1) := by decide +kernel
theorem dX8_count_61 : decode cX8_count 61 = .ok (.getfield 42, 3) := by decide +kernel
theorem dX8_count_64 : decode cX8_count 64 = .ok (.invokevirtual 227, 3) := by decide +kernel
theorem dX8_count_67 : decode cX8_count 67 = .ok (.ireturn, 1) := by decide +kernel
theorem dX8_count_68 : decode cX8_count 68 = .ok (.aload_n 0, 1) := by decide +kernel
theorem dX8_count_69 : decode cX8_count 69 = .ok (.getfield 58, 3) := by decide +kernel
theorem dX8_count_72 : decode cX8_count 72 = .ok (.aload_n 0, 1) := by decide +kernel
theorem dX8_count_73 : decode cX8_count 73 = .ok (.getfield 10, 3) := by decide +kernel
theorem dX8_count_76 : decode cX8_count 76 = .ok (.aload_n 0, 1) := by decide +kernel
theorem dX8_count_77 : decode cX8_count 77 = .ok (.getfield 19, 3) := by decide +kernel
theorem dX8_count_80 : decode cX8_count 80 = .ok (.invokevirtual 214, 3) := by decide +kernel
theorem dX8_count_83 : decode cX8_count 83 = .ok (.aload_n 0, 1) := by decide +kernel
theorem dX8_count_84 : decode cX8_count 84 = .ok (.getfield 58, 3) := by decide +kernel
theorem dX8_count_87 : decode cX8_count 87 = .ok (.getfield 230, 3) := by decide +kernel
theorem dX8_count_90 : decode cX8_count 90 = .ok (.ireturn, 1) := by decide +kernel
theorem dX8_count_91 : decode cX8_count 91 = .ok (.bipush (-2), 2) := by decide +kernel
theorem dX8_count_93 : decode cX8_count 93 = .ok (.ireturn, 1) := by decide +kernel
theorem dX8_isSize_0 : decode cX8_isSize 0 = .ok (.iload_n 0, 1) := by decide +kernel
theorem dX8_isSize_1 : decode cX8_isSize 1 = .ok (.iconst 1, 1) := by decide +kernel
theorem dX8_isSize_2 : decode cX8_isSize 2 = .ok (.if_icmp .lt 12, 3) := by decide +kernel
theorem dX8_isSize_5 : decode cX8_isSize 5 = .ok (.iload_n 0, 1) := by decide +kernel
theorem dX8_isSize_6 : decode cX8_isSize 6 = .ok (.iconst 3, 1) := by decide +kernel
theorem dX8_isSize_7 : decode cX8_isSize 7 = .ok (.if_icmp .gt 7, 3) := by decide +kernel
theorem dX8_isSize_10 : decode cX8_isSize 10 = .ok (.iconst 1, 1) := by decide +kernel
theorem dX8_isSize_11 : decode cX8_isSize 11 = .ok (.goto 4, 3) := by decide +kernel
theorem dX8_isSize_14 : decode cX8_isSize 14 = .ok (.iconst 0, 1) := by decide +kernel
theorem dX8_isSize_15 : decode cX8_isSize 15 = .ok (.ireturn, 1) := by decide +kernel
theorem dX8_isWorld_0 : decode cX8_isWorld 0 = .ok (.iload_n 0, 1) := by decide +kernel
theorem dX8_isWorld_1 : decode cX8_isWorld 1 = .ok (.invokestatic 100, 3) := by decide +kernel
theorem dX8_isWorld_4 : decode cX8_isWorld 4 = .ok (.ifCond .eq 20, 3) := by decide +kernel
theorem dX8_isWorld_7 : decode cX8_isWorld 7 = .ok (.iload_n 1, 1) := by decide +kernel
theorem dX8_isWorld_8 : decode cX8_isWorld 8 = .ok (.ifCond .lt 16, 3) := by decide +kernel
theorem dX8_isWorld_11 : decode cX8_isWorld 11 = .ok (.iload_n 1, 1) := by decide +kernel
theorem dX8_isWorld_12 : decode cX8_isWorld 12 = .ok (.getstatic 233, 3) := by decide +kernel
theorem dX8_isWorld_15 : decode cX8_isWorld 15 = .ok (.iload_n 0, 1) := by decide +kernel
theorem dX8_isWorld_16 : decode cX8_isWorld 16 = .ok (.iaload, 1) := by decide +kernel
theorem dX8_isWorld_17 : decode cX8_isWorld 17 = .ok (.if_icmp .ge 7, 3) := by decide +kernel
theorem dX8_isWorld_20 : decode cX8_isWorld 20 = .ok (.iconst 1, 1) := by decide +kernel
theorem dX8_isWorld_21 : decode cX8_isWorld 21 = .ok (.goto 4, 3) := by decide +kernel
theorem dX8_isWorld_24 : decode cX8_isWorld 24 = .ok (.iconst 0, 1) := by decide +kernel
theorem dX8_isWorld_25 : decode cX8_isWorld 25 = .ok (.ireturn, 1) := by decide +kernel
theorem dX8_isSlot_0 : decode cX8_isSlot 0 = .ok (.iload_n 0, 1) := by decide +kernel
theorem dX8_isSlot_1 : decode cX8_isSlot 1 = .ok (.ifCond .lt 12, 3) := by decide +kernel
theorem dX8_isSlot_4 : decode cX8_isSlot 4 = .ok (.iload_n 0, 1) := by decide +kernel
theorem dX8_isSlot_5 : decode cX8_isSlot 5 = .ok (.iconst 2, 1) := by decide +kernel
theorem dX8_isSlot_6 : decode cX8_isSlot 6 = .ok (.if_icmp .ge 7, 3) := by decide +kernel
theorem dX8_isSlot_9 : decode cX8_isSlot 9 = .ok (.iconst 1, 1) := by decide +kernel
theorem dX8_isSlot_10 : decode cX8_isSlot 10 = .ok (.goto 4, 3) := by decide +kernel
theorem dX8_isSlot_13 : decode cX8_isSlot 13 = .ok (.iconst 0, 1) := by decide +kernel
theorem dX8_isSlot_14 : decode cX8_isSlot 14 = .ok (.ireturn, 1) := by decide +kernel
theorem dX8_isMadeOf_0 : decode cX8_isMadeOf 0 = .ok (.iload_n 1, 1) := by decide +kernel
theorem dX8_isMadeOf_1 : decode cX8_isMadeOf 1 = .ok (.ifCond .ne 14, 3) := by decide +kernel
theorem dX8_isMadeOf_4 : decode cX8_isMadeOf 4 = .ok (.aload_n 0, 1) := by decide +kernel
theorem dX8_isMadeOf_5 : decode cX8_isMadeOf 5 = .ok (.getfield 10, 3) := by decide +kernel
theorem dX8_isMadeOf_8 : decode cX8_isMadeOf 8 = .ok (.iload_n 2, 1) := by decide +kernel
theorem dX8_isMadeOf_9 : decode cX8_isMadeOf 9 = .ok (.invokevirtual 72, 3) := by decide +kernel
theorem dX8_isMadeOf_12 : decode cX8_isMadeOf 12 = .ok (.goto 11, 3) := by decide +kernel
theorem dX8_isMadeOf_15 : decode cX8_isMadeOf 15 = .ok (.aload_n 0, 1) := by decide +kernel
theorem dX8_isMadeOf_16 : decode cX8_isMadeOf 16 = .ok (.getfield 42, 3) := by decide +kernel
theorem dX8_isMadeOf_19 : decode cX8_isMadeOf 19 = .ok (.iload_n 2, 1) := by decide +kernel
theorem dX8_isMadeOf_20 : decode cX8_isMadeOf 20 = .ok (.invokevirtual 152, 3) := by decide +kernel
theorem dX8_isMadeOf_23 : decode cX8_isMadeOf 23 = .ok (.ireturn, 1) := by decide +kernel
theorem dX8_pageChanged_0 : decode cX8_pageChanged 0 = .ok (.aload_n 0, 1) := by decide +kernel
theorem dX8_pageChanged_1 : decode cX8_pageChanged 1 = .ok (.getfield 35, 3) := by decide +kernel
theorem dX8_pageChanged_4 : decode cX8_pageChanged 4 = .ok (.aload_n 0, 1) := by decide +kernel
theorem dX8_pageChanged_5 : decode cX8_pageChanged 5 = .ok (.getfield 19, 3) := by decide +kernel
theorem dX8_pageChanged_8 : decode cX8_pageChanged 8 = .ok (.getfield 96, 3) := by decide +kernel
theorem dX8_pageChanged_11 : decode cX8_pageChanged 11 = .ok (.invokevirtual 236, 3) := by decide +kernel
theorem dX8_pageChanged_14 : decode cX8_pageChanged 14 = .ok (.aload_n 0, 1) := by decide +kernel
theorem dX8_pageChanged_15 : decode cX8_pageChanged 15 = .ok (.getfield 51, 3) := by decide +kernel
theorem dX8_pageChanged_18 : decode cX8_pageChanged 18 = .ok (.invokevirtual 240, 3) := by decide +kernel
theorem dX8_pageChanged_21 : decode cX8_pageChanged 21 = .ok (.aload_n 0, 1) := by decide +kernel
theorem dX8_pageChanged_22 : decode cX8_pageChanged 22 = .ok (.getfield 58, 3) := by decide +kernel
theorem dX8_pageChanged_25 : decode cX8_pageChanged 25 = .ok (.invokevirtual 83, 3) := by decide +kernel
theorem dX8_pageChanged_28 : decode cX8_pageChanged 28 = .ok (.return_, 1) := by decide +kernel
theorem dX8_settle_0 : decode cX8_settle 0 = .ok (.aload_n 0, 1) := by decide +kernel
theorem dX8_settle_1 : decode cX8_settle 1 = .ok (.getfield 35, 3) := by decide +kernel
theorem dX8_settle_4 : decode cX8_settle 4 = .ok (.aload_n 0, 1) := by decide +kernel
theorem dX8_settle_5 : decode cX8_settle 5 = .ok (.getfield 10, 3) := by decide +kernel
theorem dX8_settle_8 : decode cX8_settle 8 = .ok (.aload_n 0, 1) := by decide +kernel
theorem dX8_settle_9 : decode cX8_settle 9 = .ok (.getfield 19, 3) := by decide +kernel
theorem dX8_settle_12 : decode cX8_settle 12 = .ok (.invokevirtual 241, 3) := by decide +kernel
theorem dX8_settle_15 : decode cX8_settle 15 = .ok (.aload_n 0, 1) := by decide +kernel
theorem dX8_settle_16 : decode cX8_settle 16 = .ok (.getfield 51, 3) := by decide +kernel
theorem dX8_settle_19 : decode cX8_settle 19 = .ok (.aload_n 0, 1) := by decide +kernel
theorem dX8_settle_20 : decode cX8_settle 20 = .ok (.getfield 19, 3) := by decide +kernel
theorem dX8_settle_23 : decode cX8_settle 23 = .ok (.invokevirtual 106, 3) := by decide +kernel
theorem dX8_settle_26 : decode cX8_settle 26 = .ok (.invokevirtual 242, 3) := by decide +kernel
theorem dX8_settle_29 : decode cX8_settle 29 = .ok (.return_, 1) := by decide +kernel
theorem dX8_firstBroken_0 : decode cX8_firstBroken 0 = .ok (.aload_n 0, 1) := by decide +kernel
theorem dX8_firstBroken_1 : decode cX8_firstBroken 1 = .ok (.getfield 26, 3) := by decide +kernel
theorem dX8_firstBroken_4 : decode cX8_firstBroken 4 = .ok (.iload_n 1, 1) := by decide +kernel
theorem dX8_firstBroken_5 : decode cX8_firstBroken 5 = .ok (.iload_n 2, 1) := by decide +kernel
theorem dX8_firstBroken_6 : decode cX8_firstBroken 6 = .ok (.invokevirtual 125, 3) := by decide +kernel
theorem dX8_firstBroken_9 : decode cX8_firstBroken 9 = .ok (.iconst 0, 1) := by decide +kernel
theorem dX8_firstBroken_10 : decode cX8_firstBroken 10 = .ok (.istore_n 3, 1) := by decide +kernel
theorem dX8_firstBroken_11 : decode cX8_firstBroken 11 = .ok (.iload_n 3, 1) := by decide +kernel
theorem dX8_firstBroken_12 : decode cX8_firstBroken 12 = .ok (.aload_n 0, 1) := by decide +kernel
theorem dX8_firstBroken_13 : decode cX8_firstBroken 13 = .ok (.getfield 19, 3) := by decide +kernel
theorem dX8_firstBroken_16 : decode cX8_firstBroken 16 = .ok (.getfield 96, 3) := by decide +kernel
theorem dX8_firstBroken_19 : decode cX8_firstBroken 19 = .ok (.if_icmp .ge 43, 3) := by decide +kernel
theorem dX8_firstBroken_22 : decode cX8_firstBroken 22 = .ok (.aload_n 0, 1) := by decide +kernel
theorem dX8_firstBroken_23 : decode cX8_firstBroken 23 = .ok (.getfield 26, 3) := by decide +kernel
theorem dX8_firstBroken_26 : decode cX8_firstBroken 26 = .ok (.aload_n 0, 1) := by decide +kernel
theorem dX8_firstBroken_27 : decode cX8_firstBroken 27 = .ok (.getfield 10, 3) := by decide +kernel
theorem dX8_firstBroken_30 : decode cX8_firstBroken 30 = .ok (.aload_n 0, 1) := by decide +kernel
theorem dX8_firstBroken_31 : decode cX8_firstBroken 31 = .ok (.getfield 19, 3) := by decide +kernel
theorem dX8_firstBroken_34 : decode cX8_firstBroken 34 = .ok (.getfield 244, 3) := by decide +kernel
theorem dX8_firstBroken_37 : decode cX8_firstBroken 37 = .ok (.iload_n 3, 1) := by decide +kernel
theorem dX8_firstBroken_38 : decode cX8_firstBroken 38 = .ok (.iaload, 1) := by decide +kernel
theorem dX8_firstBroken_39 : decode cX8_firstBroken 39 = .ok (.aload_n 0, 1) := by decide +kernel
theorem dX8_firstBroken_40 : decode cX8_firstBroken 40 = .ok (.getfield 19, 3) := by decide +kernel
theorem dX8_firstBroken_43 : decode cX8_firstBroken 43 = .ok (.getfield 245, 3) := by decide +kernel
theorem dX8_firstBroken_46 : decode cX8_firstBroken 46 = .ok (.iload_n 3, 1) := by decide +kernel
theorem dX8_firstBroken_47 : decode cX8_firstBroken 47 = .ok (.iaload, 1) := by decide +kernel
theorem dX8_firstBroken_48 : decode cX8_firstBroken 48 = .ok (.invokevirtual 246, 3) := by decide +kernel
theorem dX8_firstBroken_51 : decode cX8_firstBroken 51 = .ok (.ifCond .ne 5, 3) := by decide +kernel
theorem dX8_firstBroken_54 : decode cX8_firstBroken 54 = .ok (.iload_n 3, 1) := by decide +kernel
theorem dX8_firstBroken_55 : decode cX8_firstBroken 55 = .ok (.ireturn, 1) := by decide +kernel
theorem dX8_firstBroken_56 : decode cX8_firstBroken 56 = .ok (.iinc 3 1, 3) := by decide +kernel
theorem dX8_firstBroken_59 : decode cX8_firstBroken 59 = .ok (.goto (-48), 3) := by decide +kernel
theorem dX8_firstBroken_62 : decode cX8_firstBroken 62 = .ok (.bipush (-9), 2) := by decide +kernel
theorem dX8_firstBroken_64 : decode cX8_firstBroken 64 = .ok (.ireturn, 1) := by decide +kernel
theorem dX8_worthOf_0 : decode cX8_worthOf 0 = .ok (.aload_n 0, 1) := by decide +kernel
theorem dX8_worthOf_1 : decode cX8_worthOf 1 = .ok (.getfield 62, 3) := by decide +kernel
theorem dX8_worthOf_4 : decode cX8_worthOf 4 = .ok (.iconst 0, 1) := by decide +kernel
theorem dX8_worthOf_5 : decode cX8_worthOf 5 = .ok (.iaload, 1) := by decide +kernel
theorem dX8_worthOf_6 : decode cX8_worthOf 6 = .ok (.aload_n 0, 1) := by decide +kernel
theorem dX8_worthOf_7 : decode cX8_worthOf 7 = .ok (.getfield 51, 3) := by decide +kernel
theorem dX8_worthOf_10 : decode cX8_worthOf 10 = .ok (.aload_n 0, 1) := by decide +kernel
theorem dX8_worthOf_11 : decode cX8_worthOf 11 = .ok (.getfield 51, 3) := by decide +kernel
theorem dX8_worthOf_14 : decode cX8_worthOf 14 = .ok (.iload_n 1, 1) := by decide +kernel
theorem dX8_worthOf_15 : decode cX8_worthOf 15 = .ok (.invokevirtual 156, 3) := by decide +kernel
theorem dX8_worthOf_18 : decode cX8_worthOf 18 = .ok (.invokevirtual 182, 3) := by decide +kernel
theorem dX8_worthOf_21 : decode cX8_worthOf 21 = .ok (.imul, 1) := by decide +kernel
theorem dX8_worthOf_22 : decode cX8_worthOf 22 = .ok (.aload_n 0, 1) := by decide +kernel
theorem dX8_worthOf_23 : decode cX8_worthOf 23 = .ok (.getfield 62, 3) := by decide +kernel
theorem dX8_worthOf_26 : decode cX8_worthOf 26 = .ok (.iconst 1, 1) := by decide +kernel
theorem dX8_worthOf_27 : decode cX8_worthOf 27 = .ok (.iaload, 1) := by decide +kernel
theorem dX8_worthOf_28 : decode cX8_worthOf 28 = .ok (.aload_n 0, 1) := by decide +kernel
theorem dX8_worthOf_29 : decode cX8_worthOf 29 = .ok (.getfield 51, 3) := by decide +kernel
theorem dX8_worthOf_32 : decode cX8_worthOf 32 = .ok (.iload_n 1, 1) := by decide +kernel
theorem dX8_worthOf_33 : decode cX8_worthOf 33 = .ok (.invokevirtual 185, 3) := by decide +kernel
theorem dX8_worthOf_36 : decode cX8_worthOf 36 = .ok (.imul, 1) := by decide +kernel
theorem dX8_worthOf_37 : decode cX8_worthOf 37 = .ok (.iadd, 1) := by decide +kernel
theorem dX8_worthOf_38 : decode cX8_worthOf 38 = .ok (.aload_n 0, 1) := by decide +kernel
theorem dX8_worthOf_39 : decode cX8_worthOf 39 = .ok (.getfield 62, 3) := by decide +kernel
theorem dX8_worthOf_42 : decode cX8_worthOf 42 = .ok (.iconst 2, 1) := by decide +kernel
theorem dX8_worthOf_43 : decode cX8_worthOf 43 = .ok (.iaload, 1) := by decide +kernel
theorem dX8_worthOf_44 : decode cX8_worthOf 44 = .ok (.aload_n 0, 1) := by decide +kernel
theorem dX8_worthOf_45 : decode cX8_worthOf 45 = .ok (.getfield 42, 3) := by decide +kernel
theorem dX8_worthOf_48 : decode cX8_worthOf 48 = .ok (.getfield 188, 3) := by decide +kernel
theorem dX8_worthOf_51 : decode cX8_worthOf 51 = .ok (.iload_n 1, 1) := by decide +kernel
theorem dX8_worthOf_52 : decode cX8_worthOf 52 = .ok (.iaload, 1) := by decide +kernel
theorem dX8_worthOf_53 : decode cX8_worthOf 53 = .ok (.imul, 1) := by decide +kernel
theorem dX8_worthOf_54 : decode cX8_worthOf 54 = .ok (.isub, 1) := by decide +kernel
theorem dX8_worthOf_55 : decode cX8_worthOf 55 = .ok (.ireturn, 1) := by decide +kernel
theorem dX9_init_0 : decode cX9_init 0 = .ok (.aload_n 0, 1) := by decide +kernel
theorem dX9_init_1 : decode cX9_init 1 = .ok (.invokespecial 1, 3) := by decide +kernel
theorem dX9_init_4 : decode cX9_init 4 = .ok (.aload_n 0, 1) := by decide +kernel
theorem dX9_init_5 : decode cX9_init 5 = .ok (.iconst 3, 1) := by decide +kernel
theorem dX9_init_6 : decode cX9_init 6 = .ok (.putfield 7, 3) := by decide +kernel
theorem dX9_init_9 : decode cX9_init 9 = .ok (.aload_n 0, 1) := by decide +kernel
theorem dX9_init_10 : decode cX9_init 10 = .ok (.bipush 20, 2) := by decide +kernel
theorem dX9_init_12 : decode cX9_init 12 = .ok (.newarray .int, 2) := by decide +kernel
theorem dX9_init_14 : decode cX9_init 14 = .ok (.putfield 13, 3) := by decide +kernel
theorem dX9_init_17 : decode cX9_init 17 = .ok (.aload_n 0, 1) := by decide +kernel
theorem dX9_init_18 : decode cX9_init 18 = .ok (.bipush 20, 2) := by decide +kernel
theorem dX9_init_20 : decode cX9_init 20 = .ok (.newarray .int, 2) := by decide +kernel
theorem dX9_init_22 : decode cX9_init 22 = .ok (.putfield 17, 3) := by decide +kernel
theorem dX9_init_25 : decode cX9_init 25 = .ok (.aload_n 0, 1) := by decide +kernel
theorem dX9_init_26 : decode cX9_init 26 = .ok (.sipush 400, 3) := by decide +kernel
theorem dX9_init_29 : decode cX9_init 29 = .ok (.newarray .int, 2) := by decide +kernel
theorem dX9_init_31 : decode cX9_init 31 = .ok (.putfield 20, 3) := by decide +kernel
theorem dX9_init_34 : decode cX9_init 34 = .ok (.aload_n 0, 1) := by decide +kernel
theorem dX9_init_35 : decode cX9_init 35 = .ok (.bipush 6, 2) := by decide +kernel
theorem dX9_init_37 : decode cX9_init 37 = .ok (.newarray .int, 2) := by decide +kernel
theorem dX9_init_39 : decode cX9_init 39 = .ok (.putfield 23, 3) := by decide +kernel
theorem dX9_init_42 : decode cX9_init 42 = .ok (.aload_n 0, 1) := by decide +kernel
theorem dX9_init_43 : decode cX9_init 43 = .ok (.bipush 6, 2) := by decide +kernel
theorem dX9_init_45 : decode cX9_init 45 = .ok (.newarray .int, 2) := by decide +kernel
theorem dX9_init_47 : decode cX9_init 47 = .ok (.putfield 26, 3) := by decide +kernel
theorem dX9_init_50 : decode cX9_init 50 = .ok (.aload_n 0, 1) := by decide +kernel
theorem dX9_init_51 : decode cX9_init 51 = .ok (.bipush 9, 2) := by decide +kernel
theorem dX9_init_53 : decode cX9_init 53 = .ok (.newarray .int, 2) := by decide +kernel
theorem dX9_init_55 : decode cX9_init 55 = .ok (.putfield 29, 3) := by decide +kernel
theorem dX9_init_58 : decode cX9_init 58 = .ok (.aload_n 0, 1) := by decide +kernel
theorem dX9_init_59 : decode cX9_init 59 = .ok (.bipush 20, 2) := by decide +kernel
theorem dX9_init_61 : decode cX9_init 61 = .ok (.newarray .int, 2) := by decide +kernel
theorem dX9_init_63 : decode cX9_init 63 = .ok (.putfield 32, 3) := by decide +kernel
theorem dX9_init_66 : decode cX9_init 66 = .ok (.aload_n 0, 1) := by decide +kernel
theorem dX9_init_67 : decode cX9_init 67 = .ok (.bipush 20, 2) := by decide +kernel
theorem dX9_init_69 : decode cX9_init 69 = .ok (.newarray .boolean, 2) := by decide +kernel
theorem dX9_init_71 : decode cX9_init 71 = .ok (.putfield 35, 3) := by decide +kernel
theorem dX9_init_74 : decode cX9_init 74 = .ok (.aload_n 0, 1) := by decide +kernel
theorem dX9_init_75 : decode cX9_init 75 = .ok (.sipush 19700, 3) := by decide +kernel
theorem dX9_init_78 : decode cX9_init 78 = .ok (.newarray .int, 2) := by decide +kernel
theorem dX9_init_80 : decode cX9_init 80 = .ok (.putfield 39, 3) := by decide +kernel
theorem dX9_init_83 : decode cX9_init 83 = .ok (.aload_n 0, 1) := by decide +kernel
theorem dX9_init_84 : decode cX9_init 84 = .ok (.sipush 19700, 3) := by decide +kernel
theorem dX9_init_87 : decode cX9_init 87 = .ok (.newarray .int, 2) := by decide +kernel
theorem dX9_init_89 : decode cX9_init 89 = .ok (.putfield 42, 3) := by decide +kernel
theorem dX9_init_92 : decode cX9_init 92 = .ok (.aload_n 0, 1) := by decide +kernel
theorem dX9_init_93 : decode cX9_init 93 = .ok (.iconst 3, 1) := by decide +kernel
theorem dX9_init_94 : decode cX9_init 94 = .ok (.newarray .int, 2) := by decide +kernel
theorem dX9_init_96 : decode cX9_init 96 = .ok (.putfield 45, 3) := by decide +kernel
theorem dX9_init_99 : decode cX9_init 99 = .ok (.aload_n 0, 1) := by decide +kernel
theorem dX9_init_100 : decode cX9_init 100 = .ok (.sipush 19700, 3) := by decide +kernel
theorem dX9_init_103 : decode cX9_init 103 = .ok (.newarray .int, 2) := by decide +kernel
theorem dX9_init_105 : decode cX9_init 105 = .ok (.putfield 48, 3) := by decide +kernel
theorem dX9_init_108 : decode cX9_init 108 = .ok (.aload_n 0, 1) := by decide +kernel
theorem dX9_init_109 : decode cX9_init 109 = .ok (.bipush 41, 2) := by decide +kernel
theorem dX9_init_111 : decode cX9_init 111 = .ok (.newarray .int, 2) := by decide +kernel
theorem dX9_init_113 : decode cX9_init 113 = .ok (.putfield 51, 3) := by decide +kernel
theorem dX9_init_116 : decode cX9_init 116 = .ok (.aload_n 0, 1) := by decide +kernel
theorem dX9_init_117 : decode cX9_init 117 = .ok (.bipush 13, 2) := by decide +kernel
theorem dX9_init_119 : decode cX9_init 119 = .ok (.newarray .int, 2) := by decide +kernel
theorem dX9_init_121 : decode cX9_init 121 = .ok (.putfield 54, 3) := by decide +kernel
theorem dX9_init_124 : decode cX9_init 124 = .ok (.aload_n 0, 1) := by decide +kernel
theorem dX9_init_125 : decode cX9_init 125 = .ok (.bipush 13, 2) := by decide +kernel
theorem dX9_init_127 : decode cX9_init 127 = .ok (.newarray .int, 2) := by decide +kernel
theorem dX9_init_129 : decode cX9_init 129 = .ok (.putfield 57, 3) := by decide +kernel
theorem dX9_init_132 : decode cX9_init 132 = .ok (.aload_n 0, 1) := by decide +kernel
theorem dX9_init_133 : decode cX9_init 133 = .ok (.bipush 13, 2) := by decide +kernel
theorem dX9_init_135 : decode cX9_init 135 = .ok (.newarray .int, 2) := by decide +kernel
theorem dX9_init_137 : decode cX9_init 137 = .ok (.putfield 60, 3) := by decide +kernel
theorem dX9_init_140 : decode cX9_init 140 = .ok (.aload_n 0, 1) := by decide +kernel
theorem dX9_init_141 : decode cX9_init 141 = .ok (.bipush 13, 2) := by decide +kernel
theorem dX9_init_143 : decode cX9_init 143 = .ok (.newarray .boolean, 2) := by decide +kernel
theorem dX9_init_145 : decode cX9_init 145 = .ok (.putfield 63, 3) := by decide +kernel
theorem dX9_init_148 : decode cX9_init 148 = .ok (.aload_n 0, 1) := by decide +kernel
theorem dX9_init_149 : decode cX9_init 149 = .ok (.bipush 117, 2) := by decide +kernel
theorem dX9_init_151 : decode cX9_init 151 = .ok (.newarray .boolean, 2) := by decide +kernel
theorem dX9_init_153 : decode cX9_init 153 = .ok (.putfield 66, 3) := by decide +kernel
theorem dX9_init_156 : decode cX9_init 156 = .ok (.aload_n 0, 1) := by decide +kernel
theorem dX9_init_157 : decode cX9_init 157 = .ok (.sipush 4680, 3) := by decide +kernel
theorem dX9_init_160 : decode cX9_init 160 = .ok (.newarray .boolean, 2) := by decide +kernel
theorem dX9_init_162 : decode cX9_init 162 = .ok (.putfield 69, 3) := by decide +kernel
theorem dX9_init_165 : decode cX9_init 165 = .ok (.aload_n 0, 1) := by decide +kernel
theorem dX9_init_166 : decode cX9_init 166 = .ok (.iconst 3, 1) := by decide +kernel
theorem dX9_init_167 : decode cX9_init 167 = .ok (.newarray .int, 2) := by decide +kernel
theorem dX9_init_169 : decode cX9_init 169 = .ok (.dup, 1) := by decide +kernel
theorem dX9_init_170 : decode cX9_init 170 = .ok (.iconst 0, 1) := by decide +kernel
theorem dX9_init_171 : decode cX9_init 171 = .ok (.iconst 1, 1) := by decide +kernel
theorem dX9_init_172 : decode cX9_init 172 = .ok (.iastore, 1) := by decide +kernel
theorem dX9_init_173 : decode cX9_init 173 = .ok (.dup, 1) := by decide +kernel
theorem dX9_init_174 : decode cX9_init 174 = .ok (.iconst 1, 1) := by decide +kernel
theorem dX9_init_175 : decode cX9_init 175 = .ok (.iconst 1, 1) := by decide +kernel
theorem dX9_init_176 : decode cX9_init 176 = .ok (.iastore, 1) := by decide +kernel
theorem dX9_init_177 : decode cX9_init 177 = .ok (.dup, 1) := by decide +kernel
theorem dX9_init_178 : decode cX9_init 178 = .ok (.iconst 2, 1) := by decide +kernel
theorem dX9_init_179 : decode cX9_init 179 = .ok (.iconst 1, 1) := by decide +kernel
theorem dX9_init_180 : decode cX9_init 180 = .ok (.iastore, 1) := by decide +kernel
theorem dX9_init_181 : decode cX9_init 181 = .ok (.putfield 72, 3) := by decide +kernel
theorem dX9_init_184 : decode cX9_init 184 = .ok (.aload_n 0, 1) := by decide +kernel
theorem dX9_init_185 : decode cX9_init 185 = .ok (.bipush 12, 2) := by decide +kernel
theorem dX9_init_187 : decode cX9_init 187 = .ok (.newarray .int, 2) := by decide +kernel
theorem dX9_init_189 : decode cX9_init 189 = .ok (.putfield 75, 3) := by decide +kernel
theorem dX9_init_192 : decode cX9_init 192 = .ok (.aload_n 0, 1) := by decide +kernel
theorem dX9_init_193 : decode cX9_init 193 = .ok (.iconst 2, 1) := by decide +kernel
theorem dX9_init_194 : decode cX9_init 194 = .ok (.newarray .int, 2) := by decide +kernel
theorem dX9_init_196 : decode cX9_init 196 = .ok (.putfield 78, 3) := by decide +kernel
theorem dX9_init_199 : decode cX9_init 199 = .ok (.aload_n 0, 1) := by decide +kernel
theorem dX9_init_200 : decode cX9_init 200 = .ok (.bipush 12, 2) := by decide +kernel
theorem dX9_init_202 : decode cX9_init 202 = .ok (.newarray .int, 2) := by decide +kernel
theorem dX9_init_204 : decode cX9_init 204 = .ok (.putfield 81, 3) := by decide +kernel
theorem dX9_init_207 : decode cX9_init 207 = .ok (.aload_n 0, 1) := by decide +kernel
theorem dX9_init_208 : decode cX9_init 208 = .ok (.bipush 12, 2) := by decide +kernel
theorem dX9_init_210 : decode cX9_init 210 = .ok (.newarray .int, 2) := by decide +kernel
theorem dX9_init_212 : decode cX9_init 212 = .ok (.putfield 84, 3) := by decide +kernel
theorem dX9_init_215 : decode cX9_init 215 = .ok (.aload_n 0, 1) := by decide +kernel
theorem dX9_init_216 : decode cX9_init 216 = .ok (.bipush 6, 2) := by decide +kernel
theorem dX9_init_218 : decode cX9_init 218 = .ok (.newarray .int, 2) := by decide +kernel
theorem dX9_init_220 : decode cX9_init 220 = .ok (.putfield 87, 3) := by decide +kernel
theorem dX9_init_223 : decode cX9_init 223 = .ok (.aload_n 0, 1) := by decide +kernel
theorem dX9_init_224 : decode cX9_init 224 = .ok (.bipush 6, 2) := by decide +kernel
theorem dX9_init_226 : decode cX9_init 226 = .ok (.newarray .int, 2) := by decide +kernel
theorem dX9_init_228 : decode cX9_init 228 = .ok (.putfield 90, 3) := by decide +kernel
theorem dX9_init_231 : decode cX9_init 231 = .ok (.aload_n 0, 1) := by decide +kernel
theorem dX9_init_232 : decode cX9_init 232 = .ok (.sipush 400, 3) := by decide +kernel
theorem dX9_init_235 : decode cX9_init 235 = .ok (.newarray .int, 2) := by decide +kernel
theorem dX9_init_237 : decode cX9_init 237 = .ok (.putfield 93, 3) := by decide +kernel
theorem dX9_init_240 : decode cX9_init 240 = .ok (.aload_n 0, 1) := by decide +kernel
theorem dX9_init_241 : decode cX9_init 241 = .ok (.bipush 20, 2) := by decide +kernel
theorem dX9_init_243 : decode cX9_init 243 = .ok (.newarray .int, 2) := by decide +kernel
theorem dX9_init_245 : decode cX9_init 245 = .ok (.putfield 96, 3) := by decide +kernel
theorem dX9_init_248 : decode cX9_init 248 = .ok (.aload_n 0, 1) := by decide +kernel
theorem dX9_init_249 : decode cX9_init 249 = .ok (.bipush 20, 2) := by decide +kernel
theorem dX9_init_251 : decode cX9_init 251 = .ok (.newarray .int, 2) := by decide +kernel
theorem dX9_init_253 : decode cX9_init 253 = .ok (.putfield 99, 3) := by decide +kernel
theorem dX9_init_256 : decode cX9_init 256 = .ok (.aload_n 0, 1) := by decide +kernel
theorem dX9_init_257 : decode cX9_init 257 = .ok (.sipush 400, 3) := by decide +kernel
theorem dX9_init_260 : decode cX9_init 260 = .ok (.newarray .boolean, 2) := by decide +kernel
theorem dX9_init_262 : decode cX9_init 262 = .ok (.putfield 102, 3) := by decide +kernel
theorem dX9_init_265 : decode cX9_init 265 = .ok (.iconst 0, 1) := by decide +kernel
theorem dX9_init_266 : decode cX9_init 266 = .ok (.istore_n 1, 1) := by decide +kernel
theorem dX9_init_267 : decode cX9_init 267 = .ok (.iload_n 1, 1) := by decide +kernel
theorem dX9_init_268 : decode cX9_init 268 = .ok (.sipush 400, 3) := by decide +kernel
theorem dX9_init_271 : decode cX9_init 271 = .ok (.if_icmp .ge 17, 3) := by decide +kernel
theorem dX9_init_274 : decode cX9_init 274 = .ok (.aload_n 0, 1) := by decide +kernel
theorem dX9_init_275 : decode cX9_init 275 = .ok (.getfield 20, 3) := by decide +kernel
theorem dX9_init_278 : decode cX9_init 278 = .ok (.iload_n 1, 1) := by decide +kernel
theorem dX9_init_279 : decode cX9_init 279 = .ok (.bipush (-9), 2) := by decide +kernel
theorem dX9_init_281 : decode cX9_init 281 = .ok (.iastore, 1) := by decide +kernel
theorem dX9_init_282 : decode cX9_init 282 = .ok (.iinc 1 1, 3) := by decide +kernel
theorem dX9_init_285 : decode cX9_init 285 = .ok (.goto (-18), 3) := by decide +kernel
theorem dX9_init_288 : decode cX9_init 288 = .ok (.return_, 1) := by decide +kernel
theorem dX9_in_0 : decode cX9_in 0 = .ok (.lload_n 0, 1) := by decide +kernel
theorem dX9_in_1 : decode cX9_in 1 = .ok (.lload_n 2, 1) := by decide +kernel
theorem dX9_in_2 : decode cX9_in 2 = .ok (.lcmp, 1) := by decide +kernel
theorem dX9_in_3 : decode cX9_in 3 = .ok (.ifCond .lt 14, 3) := by decide +kernel
theorem dX9_in_6 : decode cX9_in 6 = .ok (.lload_n 0, 1) := by decide +kernel
theorem dX9_in_7 : decode cX9_in 7 = .ok (.lload 4, 2) := by decide +kernel
theorem dX9_in_9 : decode cX9_in 9 = .ok (.lcmp, 1) := by decide +kernel
theorem dX9_in_10 : decode cX9_in 10 = .ok (.ifCond .gt 7, 3) := by decide +kernel
theorem dX9_in_13 : decode cX9_in 13 = .ok (.iconst 1, 1) := by decide +kernel
theorem dX9_in_14 : decode cX9_in 14 = .ok (.goto 4, 3) := by decide +kernel
theorem dX9_in_17 : decode cX9_in 17 = .ok (.iconst 0, 1) := by decide +kernel
theorem dX9_in_18 : decode cX9_in 18 = .ok (.ireturn, 1) := by decide +kernel
theorem dX9_isTerm_0 : decode cX9_isTerm 0 = .ok (.iload_n 1, 1) := by decide +kernel
theorem dX9_isTerm_1 : decode cX9_isTerm 1 = .ok (.i2l, 1) := by decide +kernel
theorem dX9_isTerm_2 : decode cX9_isTerm 2 = .ok (.lconst 0, 1) := by decide +kernel
theorem dX9_isTerm_3 : decode cX9_isTerm 3 = .ok (.aload_n 0, 1) := by decide +kernel
theorem dX9_isTerm_4 : decode cX9_isTerm 4 = .ok (.getfield 7, 3) := by decide +kernel
theorem dX9_isTerm_7 : decode cX9_isTerm 7 = .ok (.iconst 1, 1) := by decide +kernel
theorem dX9_isTerm_8 : decode cX9_isTerm 8 = .ok (.isub, 1) := by decide +kernel
theorem dX9_isTerm_9 : decode cX9_isTerm 9 = .ok (.i2l, 1) := by decide +kernel
theorem dX9_isTerm_10 : decode cX9_isTerm 10 = .ok (.invokestatic 105, 3) := by decide +kernel
theorem dX9_isTerm_13 : decode cX9_isTerm 13 = .ok (.ireturn, 1) := by decide +kernel
theorem dX9_put_0 : decode cX9_put 0 = .ok (.aload_n 0, 1) := by decide +kernel
theorem dX9_put_1 : decode cX9_put 1 = .ok (.iload_n 1, 1) := by decide +kernel
theorem dX9_put_2 : decode cX9_put 2 = .ok (.invokevirtual 109, 3) := by decide +kernel
theorem dX9_put_5 : decode cX9_put 5 = .ok (.ifCond .eq 11, 3) := by decide +kernel
theorem dX9_put_8 : decode cX9_put 8 = .ok (.aload_n 0, 1) := by decide +kernel
theorem dX9_put_9 : decode cX9_put 9 = .ok (.iload_n 2, 1) := by decide +kernel
theorem dX9_put_10 : decode cX9_put 10 = .ok (.invokevirtual 109, 3) := by decide +kernel
theorem dX9_put_13 : decode cX9_put 13 = .ok (.ifCond .ne 5, 3) := by decide +kernel
theorem dX9_put_16 : decode cX9_put 16 = .ok (.iconst (-1), 1) := by decide +kernel
theorem dX9_put_17 : decode cX9_put 17 = .ok (.ireturn, 1) := by decide +kernel
theorem dX9_put_18 : decode cX9_put 18 = .ok (.aload_n 0, 1) := by decide +kernel
theorem dX9_put_19 : decode cX9_put 19 = .ok (.getfield 20, 3) := by decide +kernel
theorem dX9_put_22 : decode cX9_put 22 = .ok (.bipush 20, 2) := by decide +kernel
theorem dX9_put_24 : decode cX9_put 24 = .ok (.iload_n 1, 1) := by decide +kernel
theorem dX9_put_25 : decode cX9_put 25 = .ok (.imul, 1) := by decide +kernel
theorem dX9_put_26 : decode cX9_put 26 = .ok (.iload_n 2, 1) := by decide +kernel
theorem dX9_put_27 : decode cX9_put 27 = .ok (.iadd, 1) := by decide +kernel
theorem dX9_put_28 : decode cX9_put 28 = .ok (.iaload, 1) := by decide +kernel
theorem dX9_put_29 : decode cX9_put 29 = .ok (.bipush (-9), 2) := by decide +kernel
theorem dX9_put_31 : decode cX9_put 31 = .ok (.if_icmp .eq 15, 3) := by decide +kernel
theorem dX9_put_34 : decode cX9_put 34 = .ok (.aload_n 0, 1) := by decide +kernel
theorem dX9_put_35 : decode cX9_put 35 = .ok (.getfield 20, 3) := by decide +kernel
theorem dX9_put_38 : decode cX9_put 38 = .ok (.bipush 20, 2) := by decide +kernel
theorem dX9_put_40 : decode cX9_put 40 = .ok (.iload_n 1, 1) := by decide +kernel
theorem dX9_put_41 : decode cX9_put 41 = .ok (.imul, 1) := by decide +kernel
theorem dX9_put_42 : decode cX9_put 42 = .ok (.iload_n 2, 1) := by decide +kernel
theorem dX9_put_43 : decode cX9_put 43 = .ok (.iadd, 1) := by decide +kernel
theorem dX9_put_44 : decode cX9_put 44 = .ok (.iaload, 1) := by decide +kernel
theorem dX9_put_45 : decode cX9_put 45 = .ok (.ireturn, 1) := by decide +kernel
theorem dX9_put_46 : decode cX9_put 46 = .ok (.aload_n 0, 1) := by decide +kernel
theorem dX9_put_47 : decode cX9_put 47 = .ok (.getfield 7, 3) := by decide +kernel
theorem dX9_put_50 : decode cX9_put 50 = .ok (.bipush 20, 2) := by decide +kernel
theorem dX9_put_52 : decode cX9_put 52 = .ok (.if_icmp .ne 6, 3) := by decide +kernel
theorem dX9_put_55 : decode cX9_put 55 = .ok (.bipush (-4), 2) := by decide +kernel
theorem dX9_put_57 : decode cX9_put 57 = .ok (.ireturn, 1) := by decide +kernel
theorem dX9_put_58 : decode cX9_put 58 = .ok (.aload_n 0, 1) := by decide +kernel
theorem dX9_put_59 : decode cX9_put 59 = .ok (.getfield 13, 3) := by decide +kernel
theorem dX9_put_62 : decode cX9_put 62 = .ok (.aload_n 0, 1) := by decide +kernel
theorem dX9_put_63 : decode cX9_put 63 = .ok (.getfield 7, 3) := by decide +kernel
theorem dX9_put_66 : decode cX9_put 66 = .ok (.iload_n 1, 1) := by decide +kernel
theorem dX9_put_67 : decode cX9_put 67 = .ok (.iastore, 1) := by decide +kernel
theorem dX9_put_68 : decode cX9_put 68 = .ok (.aload_n 0, 1) := by decide +kernel
theorem dX9_put_69 : decode cX9_put 69 = .ok (.getfield 17, 3) := by decide +kernel
theorem dX9_put_72 : decode cX9_put 72 = .ok (.aload_n 0, 1) := by decide +kernel
theorem dX9_put_73 : decode cX9_put 73 = .ok (.getfield 7, 3) := by decide +kernel
theorem dX9_put_76 : decode cX9_put 76 = .ok (.iload_n 2, 1) := by decide +kernel
theorem dX9_put_77 : decode cX9_put 77 = .ok (.iastore, 1) := by decide +kernel
theorem dX9_put_78 : decode cX9_put 78 = .ok (.aload_n 0, 1) := by decide +kernel
theorem dX9_put_79 : decode cX9_put 79 = .ok (.getfield 20, 3) := by decide +kernel
theorem dX9_put_82 : decode cX9_put 82 = .ok (.bipush 20, 2) := by decide +kernel
theorem dX9_put_84 : decode cX9_put 84 = .ok (.iload_n 1, 1) := by decide +kernel
theorem dX9_put_85 : decode cX9_put 85 = .ok (.imul, 1) := by decide +kernel
theorem dX9_put_86 : decode cX9_put 86 = .ok (.iload_n 2, 1) := by decide +kernel
theorem dX9_put_87 : decode cX9_put 87 = .ok (.iadd, 1) := by decide +kernel
theorem dX9_put_88 : decode cX9_put 88 = .ok (.aload_n 0, 1) := by decide +kernel
theorem dX9_put_89 : decode cX9_put 89 = .ok (.getfield 7, 3) := by decide +kernel
theorem dX9_put_92 : decode cX9_put 92 = .ok (.iastore, 1) := by decide +kernel
theorem dX9_put_93 : decode cX9_put 93 = .ok (.aload_n 0, 1) := by decide +kernel
theorem dX9_put_94 : decode cX9_put 94 = .ok (.dup, 1) := by decide +kernel
theorem dX9_put_95 : decode cX9_put 95 = .ok (.getfield 7, 3) := by decide +kernel
theorem dX9_put_98 : decode cX9_put 98 = .ok (.iconst 1, 1) := by decide +kernel
theorem dX9_put_99 : decode cX9_put 99 = .ok (.iadd, 1) := by decide +kernel
theorem dX9_put_100 : decode cX9_put 100 = .ok (.putfield 7, 3) := by decide +kernel
theorem dX9_put_103 : decode cX9_put 103 = .ok (.aload_n 0, 1) := by decide +kernel
theorem dX9_put_104 : decode cX9_put 104 = .ok (.getfield 7, 3) := by decide +kernel
theorem dX9_put_107 : decode cX9_put 107 = .ok (.iconst 1, 1) := by decide +kernel
theorem dX9_put_108 : decode cX9_put 108 = .ok (.isub, 1) := by decide +kernel
theorem dX9_put_109 : decode cX9_put 109 = .ok (.ireturn, 1) := by decide +kernel
theorem dX9_part_0 : decode cX9_part 0 = .ok (.aload_n 0, 1) := by decide +kernel
theorem dX9_part_1 : decode cX9_part 1 = .ok (.iload_n 1, 1) := by decide +kernel
theorem dX9_part_2 : decode cX9_part 2 = .ok (.invokevirtual 109, 3) := by decide +kernel
theorem dX9_part_5 : decode cX9_part 5 = .ok (.ifCond .ne 5, 3) := by decide +kernel
theorem dX9_part_8 : decode cX9_part 8 = .ok (.iconst (-1), 1) := by decide +kernel
theorem dX9_part_9 : decode cX9_part 9 = .ok (.ireturn, 1) := by decide +kernel
theorem dX9_part_10 : decode cX9_part 10 = .ok (.iload_n 1, 1) := by decide +kernel
theorem dX9_part_11 : decode cX9_part 11 = .ok (.iconst 3, 1) := by decide +kernel
theorem dX9_part_12 : decode cX9_part 12 = .ok (.if_icmp .ge 8, 3) := by decide +kernel
theorem dX9_part_15 : decode cX9_part 15 = .ok (.bipush (-9), 2) := by decide +kernel
theorem dX9_part_17 : decode cX9_part 17 = .ok (.goto 22, 3) := by decide +kernel
theorem dX9_part_20 : decode cX9_part 20 = .ok (.iload_n 2, 1) := by decide +kernel
theorem dX9_part_21 : decode cX9_part 21 = .ok (.ifCond .eq 12, 3) := by decide +kernel
theorem dX9_part_24 : decode cX9_part 24 = .ok (.aload_n 0, 1) := by decide +kernel
theorem dX9_part_25 : decode cX9_part 25 = .ok (.getfield 17, 3) := by decide +kernel
theorem dX9_part_28 : decode cX9_part 28 = .ok (.iload_n 1, 1) := by decide +kernel
theorem dX9_part_29 : decode cX9_part 29 = .ok (.iaload, 1) := by decide +kernel
theorem dX9_part_30 : decode cX9_part 30 = .ok (.goto 9, 3) := by decide +kernel
theorem dX9_part_33 : decode cX9_part 33 = .ok (.aload_n 0, 1) := by decide +kernel
theorem dX9_part_34 : decode cX9_part 34 = .ok (.getfield 13, 3) := by decide +kernel
theorem dX9_part_37 : decode cX9_part 37 = .ok (.iload_n 1, 1) := by decide +kernel
theorem dX9_part_38 : decode cX9_part 38 = .ok (.iaload, 1) := by decide +kernel
theorem dX9_part_39 : decode cX9_part 39 = .ok (.ireturn, 1) := by decide +kernel
theorem dX9_law_0 : decode cX9_law 0 = .ok (.aload_n 0, 1) := by decide +kernel
theorem dX9_law_1 : decode cX9_law 1 = .ok (.iload_n 1, 1) := by decide +kernel
theorem dX9_law_2 : decode cX9_law 2 = .ok (.invokevirtual 109, 3) := by decide +kernel
theorem dX9_law_5 : decode cX9_law 5 = .ok (.ifCond .eq 11, 3) := by decide +kernel
theorem dX9_law_8 : decode cX9_law 8 = .ok (.aload_n 0, 1) := by decide +kernel
theorem dX9_law_9 : decode cX9_law 9 = .ok (.iload_n 2, 1) := by decide +kernel
theorem dX9_law_10 : decode cX9_law 10 = .ok (.invokevirtual 109, 3) := by decide +kernel
theorem dX9_law_13 : decode cX9_law 13 = .ok (.ifCond .ne 5, 3) := by decide +kernel
theorem dX9_law_16 : decode cX9_law 16 = .ok (.iconst (-1), 1) := by decide +kernel
theorem dX9_law_17 : decode cX9_law 17 = .ok (.ireturn, 1) := by decide +kernel
theorem dX9_law_18 : decode cX9_law 18 = .ok (.aload_n 0, 1) := by decide +kernel
theorem dX9_law_19 : decode cX9_law 19 = .ok (.getfield 113, 3) := by decide +kernel
theorem dX9_law_22 : decode cX9_law 22 = .ok (.bipush 6, 2) := by decide +kernel
theorem dX9_law_24 : decode cX9_law 24 = .ok (.if_icmp .ne 6, 3) := by decide +kernel
theorem dX9_law_27 : decode cX9_law 27 = .ok (.bipush (-4), 2) := by decide +kernel
theorem dX9_law_29 : decode cX9_law 29 = .ok (.ireturn, 1) := by decide +kernel
theorem dX9_law_30 : decode cX9_law 30 = .ok (.aload_n 0, 1) := by decide +kernel
theorem dX9_law_31 : decode cX9_law 31 = .ok (.getfield 23, 3) := by decide +kernel
theorem dX9_law_34 : decode cX9_law 34 = .ok (.aload_n 0, 1) := by decide +kernel
theorem dX9_law_35 : decode cX9_law 35 = .ok (.getfield 113, 3) := by decide +kernel
theorem dX9_law_38 : decode cX9_law 38 = .ok (.iload_n 1, 1) := by decide +kernel
theorem dX9_law_39 : decode cX9_law 39 = .ok (.iastore, 1) := by decide +kernel
theorem dX9_law_40 : decode cX9_law 40 = .ok (.aload_n 0, 1) := by decide +kernel
theorem dX9_law_41 : decode cX9_law 41 = .ok (.getfield 26, 3) := by decide +kernel
theorem dX9_law_44 : decode cX9_law 44 = .ok (.aload_n 0, 1) := by decide +kernel
theorem dX9_law_45 : decode cX9_law 45 = .ok (.getfield 113, 3) := by decide +kernel
theorem dX9_law_48 : decode cX9_law 48 = .ok (.iload_n 2, 1) := by decide +kernel
theorem dX9_law_49 : decode cX9_law 49 = .ok (.iastore, 1) := by decide +kernel
theorem dX9_law_50 : decode cX9_law 50 = .ok (.aload_n 0, 1) := by decide +kernel
theorem dX9_law_51 : decode cX9_law 51 = .ok (.dup, 1) := by decide +kernel
theorem dX9_law_52 : decode cX9_law 52 = .ok (.getfield 113, 3) := by decide +kernel
theorem dX9_law_55 : decode cX9_law 55 = .ok (.iconst 1, 1) := by decide +kernel
theorem dX9_law_56 : decode cX9_law 56 = .ok (.iadd, 1) := by decide +kernel
theorem dX9_law_57 : decode cX9_law 57 = .ok (.putfield 113, 3) := by decide +kernel
theorem dX9_law_60 : decode cX9_law 60 = .ok (.aload_n 0, 1) := by decide +kernel
theorem dX9_law_61 : decode cX9_law 61 = .ok (.iconst 0, 1) := by decide +kernel
theorem dX9_law_62 : decode cX9_law 62 = .ok (.putfield 116, 3) := by decide +kernel
theorem dX9_law_65 : decode cX9_law 65 = .ok (.aload_n 0, 1) := by decide +kernel
theorem dX9_law_66 : decode cX9_law 66 = .ok (.getfield 113, 3) := by decide +kernel
theorem dX9_law_69 : decode cX9_law 69 = .ok (.iconst 1, 1) := by decide +kernel
theorem dX9_law_70 : decode cX9_law 70 = .ok (.isub, 1) := by decide +kernel
theorem dX9_law_71 : decode cX9_law 71 = .ok (.ireturn, 1) := by decide +kernel
theorem dX9_unlaw_0 : decode cX9_unlaw 0 = .ok (.aload_n 0, 1) := by decide +kernel
theorem dX9_unlaw_1 : decode cX9_unlaw 1 = .ok (.getfield 113, 3) := by decide +kernel
theorem dX9_unlaw_4 : decode cX9_unlaw 4 = .ok (.ifCond .ne 6, 3) := by decide +kernel
theorem dX9_unlaw_7 : decode cX9_unlaw 7 = .ok (.bipush (-3), 2) := by decide +kernel
theorem dX9_unlaw_9 : decode cX9_unlaw 9 = .ok (.ireturn, 1) := by decide +kernel
theorem dX9_unlaw_10 : decode cX9_unlaw 10 = .ok (.aload_n 0, 1) := by decide +kernel
theorem dX9_unlaw_11 : decode cX9_unlaw 11 = .ok (.dup, 1) := by decide +kernel
theorem dX9_unlaw_12 : decode cX9_unlaw 12 = .ok (.getfield 113, 3) := by decide +kernel
theorem dX9_unlaw_15 : decode cX9_unlaw 15 = .ok (.iconst 1, 1) := by decide +kernel
theorem dX9_unlaw_16 : decode cX9_unlaw 16 = .ok (.isub, 1) := by decide +kernel
theorem dX9_unlaw_17 : decode cX9_unlaw 17 = .ok (.putfield 113, 3) := by decide +kernel
theorem dX9_unlaw_20 : decode cX9_unlaw 20 = .ok (.aload_n 0, 1) := by decide +kernel
theorem dX9_unlaw_21 : decode cX9_unlaw 21 = .ok (.iconst 0, 1) := by decide +kernel
theorem dX9_unlaw_22 : decode cX9_unlaw 22 = .ok (.putfield 116, 3) := by decide +kernel
theorem dX9_unlaw_25 : decode cX9_unlaw 25 = .ok (.aload_n 0, 1) := by decide +kernel
theorem dX9_unlaw_26 : decode cX9_unlaw 26 = .ok (.getfield 113, 3) := by decide +kernel
theorem dX9_unlaw_29 : decode cX9_unlaw 29 = .ok (.ireturn, 1) := by decide +kernel
theorem dX9_baseOf_0 : decode cX9_baseOf 0 = .ok (.iload_n 0, 1) := by decide +kernel
theorem dX9_baseOf_1 : decode cX9_baseOf 1 = .ok (.iconst 1, 1) := by decide +kernel
theorem dX9_baseOf_2 : decode cX9_baseOf 2 = .ok (.if_icmp .ne 7, 3) := by decide +kernel
theorem dX9_baseOf_5 : decode cX9_baseOf 5 = .ok (.iconst 0, 1) := by decide +kernel
theorem dX9_baseOf_6 : decode cX9_baseOf 6 = .ok (.goto 14, 3) := by decide +kernel
theorem dX9_baseOf_9 : decode cX9_baseOf 9 = .ok (.iload_n 0, 1) := by decide +kernel
theorem dX9_baseOf_10 : decode cX9_baseOf 10 = .ok (.iconst 2, 1) := by decide +kernel
theorem dX9_baseOf_11 : decode cX9_baseOf 11 = .ok (.if_icmp .ne 7, 3) := by decide +kernel
theorem dX9_baseOf_14 : decode cX9_baseOf 14 = .ok (.iconst 1, 1) := by decide +kernel
theorem dX9_baseOf_15 : decode cX9_baseOf 15 = .ok (.goto 5, 3) := by decide +kernel
theorem dX9_baseOf_18 : decode cX9_baseOf 18 = .ok (.bipush 17, 2) := by decide +kernel
theorem dX9_baseOf_20 : decode cX9_baseOf 20 = .ok (.ireturn, 1) := by decide +kernel
theorem dX9_countOf_0 : decode cX9_countOf 0 = .ok (.iload_n 0, 1) := by decide +kernel
theorem dX9_countOf_1 : decode cX9_countOf 1 = .ok (.iconst 1, 1) := by decide +kernel
theorem dX9_countOf_2 : decode cX9_countOf 2 = .ok (.if_icmp .ne 7, 3) := by decide +kernel
theorem dX9_countOf_5 : decode cX9_countOf 5 = .ok (.iconst 1, 1) := by decide +kernel
theorem dX9_countOf_6 : decode cX9_countOf 6 = .ok (.goto 16, 3) := by decide +kernel
theorem dX9_countOf_9 : decode cX9_countOf 9 = .ok (.iload_n 0, 1) := by decide +kernel
theorem dX9_countOf_10 : decode cX9_countOf 10 = .ok (.iconst 2, 1) := by decide +kernel
theorem dX9_countOf_11 : decode cX9_countOf 11 = .ok (.if_icmp .ne 8, 3) := by decide +kernel
theorem dX9_countOf_14 : decode cX9_countOf 14 = .ok (.bipush 16, 2) := by decide +kernel
theorem dX9_countOf_16 : decode cX9_countOf 16 = .ok (.goto 6, 3) := by decide +kernel
theorem dX9_countOf_19 : decode cX9_countOf 19 = .ok (.sipush 19683, 3) := by decide +kernel
theorem dX9_countOf_22 : decode cX9_countOf 22 = .ok (.ireturn, 1) := by decide +kernel
theorem dX9_sizeAt_0 : decode cX9_sizeAt 0 = .ok (.iload_n 0, 1) := by decide +kernel
theorem dX9_sizeAt_1 : decode cX9_sizeAt 1 = .ok (.ifCond .ne 7, 3) := by decide +kernel
theorem dX9_sizeAt_4 : decode cX9_sizeAt 4 = .ok (.iconst 1, 1) := by decide +kernel
theorem dX9_sizeAt_5 : decode cX9_sizeAt 5 = .ok (.goto 14, 3) := by decide +kernel
theorem dX9_sizeAt_8 : decode cX9_sizeAt 8 = .ok (.iload_n 0, 1) := by decide +kernel
theorem dX9_sizeAt_9 : decode cX9_sizeAt 9 = .ok (.bipush 17, 2) := by decide +kernel
theorem dX9_sizeAt_11 : decode cX9_sizeAt 11 = .ok (.if_icmp .ge 7, 3) := by decide +kernel
theorem dX9_sizeAt_14 : decode cX9_sizeAt 14 = .ok (.iconst 2, 1) := by decide +kernel
theorem dX9_sizeAt_15 : decode cX9_sizeAt 15 = .ok (.goto 4, 3) := by decide +kernel
theorem dX9_sizeAt_18 : decode cX9_sizeAt 18 = .ok (.iconst 3, 1) := by decide +kernel
theorem dX9_sizeAt_19 : decode cX9_sizeAt 19 = .ok (.ireturn, 1) := by decide +kernel
theorem dX9_layWorld_0 : decode cX9_layWorld 0 = .ok (.aload_n 0, 1) := by decide +kernel
theorem dX9_layWorld_1 : decode cX9_layWorld 1 = .ok (.iload_n 1, 1) := by decide +kernel
theorem dX9_layWorld_2 : decode cX9_layWorld 2 = .ok (.invokestatic 120, 3) := by decide +kernel
theorem dX9_layWorld_5 : decode cX9_layWorld 5 = .ok (.putfield 124, 3) := by decide +kernel
theorem dX9_layWorld_8 : decode cX9_layWorld 8 = .ok (.iload_n 1, 1) := by decide +kernel
theorem dX9_layWorld_9 : decode cX9_layWorld 9 = .ok (.aload_n 0, 1) := by decide +kernel
theorem dX9_layWorld_10 : decode cX9_layWorld 10 = .ok (.getfield 124, 3) := by decide +kernel
theorem dX9_layWorld_13 : decode cX9_layWorld 13 = .ok (.invokestatic 127, 3) := by decide +kernel
theorem dX9_layWorld_16 : decode cX9_layWorld 16 = .ok (.isub, 1) := by decide +kernel
theorem dX9_layWorld_17 : decode cX9_layWorld 17 = .ok (.istore_n 2, 1) := by decide +kernel
theorem dX9_layWorld_18 : decode cX9_layWorld 18 = .ok (.aload_n 0, 1) := by decide +kernel
theorem dX9_layWorld_19 : decode cX9_layWorld 19 = .ok (.getfield 124, 3) := by decide +kernel
theorem dX9_layWorld_22 : decode cX9_layWorld 22 = .ok (.aload_n 0, 1) := by decide +kernel
theorem dX9_layWorld_23 : decode cX9_layWorld 23 = .ok (.getfield 124, 3) := by decide +kernel
theorem dX9_layWorld_26 : decode cX9_layWorld 26 = .ok (.imul, 1) := by decide +kernel
theorem dX9_layWorld_27 : decode cX9_layWorld 27 = .ok (.iconst 1, 1) := by decide +kernel
theorem dX9_layWorld_28 : decode cX9_layWorld 28 = .ok (.isub, 1) := by decide +kernel
theorem dX9_layWorld_29 : decode cX9_layWorld 29 = .ok (.istore_n 3, 1) := by decide +kernel
theorem dX9_layWorld_30 : decode cX9_layWorld 30 = .ok (.iload_n 3, 1) := by decide +kernel
theorem dX9_layWorld_31 : decode cX9_layWorld 31 = .ok (.ifCond .lt 28, 3) := by decide +kernel
theorem dX9_layWorld_34 : decode cX9_layWorld 34 = .ok (.aload_n 0, 1) := by decide +kernel
theorem dX9_layWorld_35 : decode cX9_layWorld 35 = .ok (.getfield 29, 3) := by decide +kernel
theorem dX9_layWorld_38 : decode cX9_layWorld 38 = .ok (.iload_n 3, 1) := by decide +kernel
theorem dX9_layWorld_39 : decode cX9_layWorld 39 = .ok (.iload_n 2, 1) := by decide +kernel
theorem dX9_layWorld_40 : decode cX9_layWorld 40 = .ok (.aload_n 0, 1) := by decide +kernel
theorem dX9_layWorld_41 : decode cX9_layWorld 41 = .ok (.getfield 124, 3) := by decide +kernel
theorem dX9_layWorld_44 : decode cX9_layWorld 44 = .ok (.irem, 1) := by decide +kernel
theorem dX9_layWorld_45 : decode cX9_layWorld 45 = .ok (.iastore, 1) := by decide +kernel
theorem dX9_layWorld_46 : decode cX9_layWorld 46 = .ok (.iload_n 2, 1) := by decide +kernel
theorem dX9_layWorld_47 : decode cX9_layWorld 47 = .ok (.aload_n 0, 1) := by decide +kernel
theorem dX9_layWorld_48 : decode cX9_layWorld 48 = .ok (.getfield 124, 3) := by decide +kernel
theorem dX9_layWorld_51 : decode cX9_layWorld 51 = .ok (.idiv, 1) := by decide +kernel
theorem dX9_layWorld_52 : decode cX9_layWorld 52 = .ok (.istore_n 2, 1) := by decide +kernel
theorem dX9_layWorld_53 : decode cX9_layWorld 53 = .ok (.iinc 3 (-1), 3) := by decide +kernel
theorem dX9_layWorld_56 : decode cX9_layWorld 56 = .ok (.goto (-26), 3) := by decide +kernel
theorem dX9_layWorld_59 : decode cX9_layWorld 59 = .ok (.return_, 1) := by decide +kernel
theorem dX9_want_0 : decode cX9_want 0 = .ok (.iconst 0, 1) := by decide +kernel
theorem dX9_want_1 : decode cX9_want 1 = .ok (.istore_n 3, 1) := by decide +kernel
theorem dX9_want_2 : decode cX9_want 2 = .ok (.iload_n 3, 1) := by decide +kernel
theorem dX9_want_3 : decode cX9_want 3 = .ok (.bipush 20, 2) := by decide +kernel
theorem dX9_want_5 : decode cX9_want 5 = .ok (.if_icmp .ge 30, 3) := by decide +kernel
theorem dX9_want_8 : decode cX9_want 8 = .ok (.aload_n 0, 1) := by decide +kernel

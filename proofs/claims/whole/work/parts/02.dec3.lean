theorem dX8_mark_38 : decode cX8_mark 38 = .ok (.ireturn, 1) := by decide +kernel
theorem dX8_mark_39 : decode cX8_mark 39 = .ok (.iload 4, 2) := by decide +kernel
theorem dX8_mark_41 : decode cX8_mark 41 = .ok (.iconst 0, 1) := by decide +kernel
theorem dX8_mark_42 : decode cX8_mark 42 = .ok (.bipush 99, 2) := by decide +kernel
theorem dX8_mark_44 : decode cX8_mark 44 = .ok (.invokestatic 48, 3) := by decide +kernel
theorem dX8_mark_47 : decode cX8_mark 47 = .ok (.ifCond .eq 14, 3) := by decide +kernel
theorem dX8_mark_50 : decode cX8_mark 50 = .ok (.iload 5, 2) := by decide +kernel
theorem dX8_mark_52 : decode cX8_mark 52 = .ok (.iconst 0, 1) := by decide +kernel
theorem dX8_mark_53 : decode cX8_mark 53 = .ok (.bipush 60, 2) := by decide +kernel
theorem dX8_mark_55 : decode cX8_mark 55 = .ok (.invokestatic 48, 3) := by decide +kernel
theorem dX8_mark_58 : decode cX8_mark 58 = .ok (.ifCond .ne 8, 3) := by decide +kernel
theorem dX8_mark_61 : decode cX8_mark 61 = .ok (.aload_n 0, 1) := by decide +kernel
theorem dX8_mark_62 : decode cX8_mark 62 = .ok (.invokevirtual 52, 3) := by decide +kernel
theorem dX8_mark_65 : decode cX8_mark 65 = .ok (.ireturn, 1) := by decide +kernel
theorem dX8_mark_66 : decode cX8_mark 66 = .ok (.aload_n 0, 1) := by decide +kernel
theorem dX8_mark_67 : decode cX8_mark 67 = .ok (.getfield 10, 3) := by decide +kernel
theorem dX8_mark_70 : decode cX8_mark 70 = .ok (.getfield 224, 3) := by decide +kernel
theorem dX8_mark_73 : decode cX8_mark 73 = .ok (.invokevirtual 208, 3) := by decide +kernel
theorem dX8_mark_76 : decode cX8_mark 76 = .ok (.ifCond .eq 8, 3) := by decide +kernel
theorem dX8_mark_79 : decode cX8_mark 79 = .ok (.aload_n 0, 1) := by decide +kernel
theorem dX8_mark_80 : decode cX8_mark 80 = .ok (.invokevirtual 77, 3) := by decide +kernel
theorem dX8_mark_83 : decode cX8_mark 83 = .ok (.ireturn, 1) := by decide +kernel
theorem dX8_mark_84 : decode cX8_mark 84 = .ok (.aload_n 0, 1) := by decide +kernel
theorem dX8_mark_85 : decode cX8_mark 85 = .ok (.getfield 10, 3) := by decide +kernel
theorem dX8_mark_88 : decode cX8_mark 88 = .ok (.getfield 224, 3) := by decide +kernel
theorem dX8_mark_91 : decode cX8_mark 91 = .ok (.iload_n 1, 1) := by decide +kernel
theorem dX8_mark_92 : decode cX8_mark 92 = .ok (.iload_n 2, 1) := by decide +kernel
theorem dX8_mark_93 : decode cX8_mark 93 = .ok (.iload_n 3, 1) := by decide +kernel
theorem dX8_mark_94 : decode cX8_mark 94 = .ok (.iload 4, 2) := by decide +kernel
theorem dX8_mark_96 : decode cX8_mark 96 = .ok (.iload 5, 2) := by decide +kernel
theorem dX8_mark_98 : decode cX8_mark 98 = .ok (.iconst 0, 1) := by decide +kernel
theorem dX8_mark_99 : decode cX8_mark 99 = .ok (.invokevirtual 211, 3) := by decide +kernel
theorem dX8_mark_102 : decode cX8_mark 102 = .ok (.ireturn, 1) := by decide +kernel
theorem dX8_forget_0 : decode cX8_forget 0 = .ok (.iload_n 1, 1) := by decide +kernel
theorem dX8_forget_1 : decode cX8_forget 1 = .ok (.iconst 0, 1) := by decide +kernel
theorem dX8_forget_2 : decode cX8_forget 2 = .ok (.iconst 2, 1) := by decide +kernel
theorem dX8_forget_3 : decode cX8_forget 3 = .ok (.invokestatic 48, 3) := by decide +kernel
theorem dX8_forget_6 : decode cX8_forget 6 = .ok (.ifCond .ne 8, 3) := by decide +kernel
theorem dX8_forget_9 : decode cX8_forget 9 = .ok (.aload_n 0, 1) := by decide +kernel
theorem dX8_forget_10 : decode cX8_forget 10 = .ok (.invokevirtual 52, 3) := by decide +kernel
theorem dX8_forget_13 : decode cX8_forget 13 = .ok (.ireturn, 1) := by decide +kernel
theorem dX8_forget_14 : decode cX8_forget 14 = .ok (.aload_n 0, 1) := by decide +kernel
theorem dX8_forget_15 : decode cX8_forget 15 = .ok (.getfield 10, 3) := by decide +kernel
theorem dX8_forget_18 : decode cX8_forget 18 = .ok (.iload_n 1, 1) := by decide +kernel
theorem dX8_forget_19 : decode cX8_forget 19 = .ok (.invokevirtual 227, 3) := by decide +kernel
theorem dX8_forget_22 : decode cX8_forget 22 = .ok (.astore_n 2, 1) := by decide +kernel
theorem dX8_forget_23 : decode cX8_forget 23 = .ok (.aload_n 2, 1) := by decide +kernel
theorem dX8_forget_24 : decode cX8_forget 24 = .ok (.getfield 231, 3) := by decide +kernel
theorem dX8_forget_27 : decode cX8_forget 27 = .ok (.istore_n 3, 1) := by decide +kernel
theorem dX8_forget_28 : decode cX8_forget 28 = .ok (.aload_n 2, 1) := by decide +kernel
theorem dX8_forget_29 : decode cX8_forget 29 = .ok (.iconst 0, 1) := by decide +kernel
theorem dX8_forget_30 : decode cX8_forget 30 = .ok (.putfield 231, 3) := by decide +kernel
theorem dX8_forget_33 : decode cX8_forget 33 = .ok (.iload_n 3, 1) := by decide +kernel
theorem dX8_forget_34 : decode cX8_forget 34 = .ok (.ireturn, 1) := by decide +kernel
theorem dX8_is_0 : decode cX8_is 0 = .ok (.aload_n 0, 1) := by decide +kernel
theorem dX8_is_1 : decode cX8_is 1 = .ok (.getfield 10, 3) := by decide +kernel
theorem dX8_is_4 : decode cX8_is 4 = .ok (.getfield 56, 3) := by decide +kernel
theorem dX8_is_7 : decode cX8_is 7 = .ok (.iload_n 1, 1) := by decide +kernel
theorem dX8_is_8 : decode cX8_is 8 = .ok (.invokevirtual 149, 3) := by decide +kernel
theorem dX8_is_11 : decode cX8_is 11 = .ok (.ifCond .ne 8, 3) := by decide +kernel
theorem dX8_is_14 : decode cX8_is 14 = .ok (.aload_n 0, 1) := by decide +kernel
theorem dX8_is_15 : decode cX8_is 15 = .ok (.invokevirtual 52, 3) := by decide +kernel
theorem dX8_is_18 : decode cX8_is 18 = .ok (.ireturn, 1) := by decide +kernel
theorem dX8_is_19 : decode cX8_is 19 = .ok (.aload_n 0, 1) := by decide +kernel
theorem dX8_is_20 : decode cX8_is 20 = .ok (.getfield 37, 3) := by decide +kernel
theorem dX8_is_23 : decode cX8_is 23 = .ok (.iconst 1, 1) := by decide +kernel
theorem dX8_is_24 : decode cX8_is 24 = .ok (.aload_n 0, 1) := by decide +kernel
theorem dX8_is_25 : decode cX8_is 25 = .ok (.getfield 10, 3) := by decide +kernel
theorem dX8_is_28 : decode cX8_is 28 = .ok (.iload_n 1, 1) := by decide +kernel
theorem dX8_is_29 : decode cX8_is 29 = .ok (.invokevirtual 214, 3) := by decide +kernel
theorem dX8_is_32 : decode cX8_is 32 = .ok (.ireturn, 1) := by decide +kernel
theorem dX8_look_0 : decode cX8_look 0 = .ok (.aload_n 0, 1) := by decide +kernel
theorem dX8_look_1 : decode cX8_look 1 = .ok (.getfield 10, 3) := by decide +kernel
theorem dX8_look_4 : decode cX8_look 4 = .ok (.getfield 56, 3) := by decide +kernel
theorem dX8_look_7 : decode cX8_look 7 = .ok (.iload_n 1, 1) := by decide +kernel
theorem dX8_look_8 : decode cX8_look 8 = .ok (.invokevirtual 149, 3) := by decide +kernel
theorem dX8_look_11 : decode cX8_look 11 = .ok (.ifCond .ne 8, 3) := by decide +kernel
theorem dX8_look_14 : decode cX8_look 14 = .ok (.aload_n 0, 1) := by decide +kernel
theorem dX8_look_15 : decode cX8_look 15 = .ok (.invokevirtual 52, 3) := by decide +kernel
theorem dX8_look_18 : decode cX8_look 18 = .ok (.ireturn, 1) := by decide +kernel
theorem dX8_look_19 : decode cX8_look 19 = .ok (.aload_n 0, 1) := by decide +kernel
theorem dX8_look_20 : decode cX8_look 20 = .ok (.getfield 37, 3) := by decide +kernel
theorem dX8_look_23 : decode cX8_look 23 = .ok (.iconst 1, 1) := by decide +kernel
theorem dX8_look_24 : decode cX8_look 24 = .ok (.aload_n 0, 1) := by decide +kernel
theorem dX8_look_25 : decode cX8_look 25 = .ok (.getfield 10, 3) := by decide +kernel
theorem dX8_look_28 : decode cX8_look 28 = .ok (.iload_n 1, 1) := by decide +kernel
theorem dX8_look_29 : decode cX8_look 29 = .ok (.invokevirtual 218, 3) := by decide +kernel
theorem dX8_look_32 : decode cX8_look 32 = .ok (.ireturn, 1) := by decide +kernel
theorem dX8_kinds_0 : decode cX8_kinds 0 = .ok (.aload_n 0, 1) := by decide +kernel
theorem dX8_kinds_1 : decode cX8_kinds 1 = .ok (.getfield 10, 3) := by decide +kernel
theorem dX8_kinds_4 : decode cX8_kinds 4 = .ok (.getfield 56, 3) := by decide +kernel
theorem dX8_kinds_7 : decode cX8_kinds 7 = .ok (.iload_n 1, 1) := by decide +kernel
theorem dX8_kinds_8 : decode cX8_kinds 8 = .ok (.invokevirtual 93, 3) := by decide +kernel
theorem dX8_kinds_11 : decode cX8_kinds 11 = .ok (.ifCond .ne 8, 3) := by decide +kernel
theorem dX8_kinds_14 : decode cX8_kinds 14 = .ok (.aload_n 0, 1) := by decide +kernel
theorem dX8_kinds_15 : decode cX8_kinds 15 = .ok (.invokevirtual 52, 3) := by decide +kernel
theorem dX8_kinds_18 : decode cX8_kinds 18 = .ok (.ireturn, 1) := by decide +kernel
theorem dX8_kinds_19 : decode cX8_kinds 19 = .ok (.aload_n 0, 1) := by decide +kernel
theorem dX8_kinds_20 : decode cX8_kinds 20 = .ok (.getfield 37, 3) := by decide +kernel
theorem dX8_kinds_23 : decode cX8_kinds 23 = .ok (.iconst 2, 1) := by decide +kernel
theorem dX8_kinds_24 : decode cX8_kinds 24 = .ok (.aload_n 0, 1) := by decide +kernel
theorem dX8_kinds_25 : decode cX8_kinds 25 = .ok (.getfield 10, 3) := by decide +kernel
theorem dX8_kinds_28 : decode cX8_kinds 28 = .ok (.iload_n 1, 1) := by decide +kernel
theorem dX8_kinds_29 : decode cX8_kinds 29 = .ok (.invokevirtual 214, 3) := by decide +kernel
theorem dX8_kinds_32 : decode cX8_kinds 32 = .ok (.ireturn, 1) := by decide +kernel
theorem dX8_ask_0 : decode cX8_ask 0 = .ok (.aload_n 0, 1) := by decide +kernel
theorem dX8_ask_1 : decode cX8_ask 1 = .ok (.getfield 10, 3) := by decide +kernel
theorem dX8_ask_4 : decode cX8_ask 4 = .ok (.getfield 56, 3) := by decide +kernel
theorem dX8_ask_7 : decode cX8_ask 7 = .ok (.iload_n 1, 1) := by decide +kernel
theorem dX8_ask_8 : decode cX8_ask 8 = .ok (.invokevirtual 93, 3) := by decide +kernel
theorem dX8_ask_11 : decode cX8_ask 11 = .ok (.ifCond .ne 8, 3) := by decide +kernel
theorem dX8_ask_14 : decode cX8_ask 14 = .ok (.aload_n 0, 1) := by decide +kernel
theorem dX8_ask_15 : decode cX8_ask 15 = .ok (.invokevirtual 52, 3) := by decide +kernel
theorem dX8_ask_18 : decode cX8_ask 18 = .ok (.ireturn, 1) := by decide +kernel
theorem dX8_ask_19 : decode cX8_ask 19 = .ok (.aload_n 0, 1) := by decide +kernel
theorem dX8_ask_20 : decode cX8_ask 20 = .ok (.getfield 37, 3) := by decide +kernel
theorem dX8_ask_23 : decode cX8_ask 23 = .ok (.iconst 2, 1) := by decide +kernel
theorem dX8_ask_24 : decode cX8_ask 24 = .ok (.aload_n 0, 1) := by decide +kernel
theorem dX8_ask_25 : decode cX8_ask 25 = .ok (.getfield 10, 3) := by decide +kernel
theorem dX8_ask_28 : decode cX8_ask 28 = .ok (.iload_n 1, 1) := by decide +kernel
theorem dX8_ask_29 : decode cX8_ask 29 = .ok (.invokevirtual 218, 3) := by decide +kernel
theorem dX8_ask_32 : decode cX8_ask 32 = .ok (.ireturn, 1) := by decide +kernel
theorem dX8_pair_0 : decode cX8_pair 0 = .ok (.aload_n 0, 1) := by decide +kernel
theorem dX8_pair_1 : decode cX8_pair 1 = .ok (.getfield 10, 3) := by decide +kernel
theorem dX8_pair_4 : decode cX8_pair 4 = .ok (.getfield 56, 3) := by decide +kernel
theorem dX8_pair_7 : decode cX8_pair 7 = .ok (.iload_n 1, 1) := by decide +kernel
theorem dX8_pair_8 : decode cX8_pair 8 = .ok (.invokevirtual 93, 3) := by decide +kernel
theorem dX8_pair_11 : decode cX8_pair 11 = .ok (.ifCond .eq 27, 3) := by decide +kernel
theorem dX8_pair_14 : decode cX8_pair 14 = .ok (.aload_n 0, 1) := by decide +kernel
theorem dX8_pair_15 : decode cX8_pair 15 = .ok (.getfield 10, 3) := by decide +kernel
theorem dX8_pair_18 : decode cX8_pair 18 = .ok (.getfield 56, 3) := by decide +kernel
theorem dX8_pair_21 : decode cX8_pair 21 = .ok (.iload_n 2, 1) := by decide +kernel
theorem dX8_pair_22 : decode cX8_pair 22 = .ok (.invokevirtual 93, 3) := by decide +kernel
theorem dX8_pair_25 : decode cX8_pair 25 = .ok (.ifCond .eq 13, 3) := by decide +kernel
theorem dX8_pair_28 : decode cX8_pair 28 = .ok (.iload_n 1, 1) := by decide +kernel
theorem dX8_pair_29 : decode cX8_pair 29 = .ok (.iload_n 2, 1) := by decide +kernel
theorem dX8_pair_30 : decode cX8_pair 30 = .ok (.if_icmp .eq 8, 3) := by decide +kernel
theorem dX8_pair_33 : decode cX8_pair 33 = .ok (.iload_n 3, 1) := by decide +kernel
theorem dX8_pair_34 : decode cX8_pair 34 = .ok (.iconst (-1), 1) := by decide +kernel
theorem dX8_pair_35 : decode cX8_pair 35 = .ok (.if_icmp .ge 8, 3) := by decide +kernel
theorem dX8_pair_38 : decode cX8_pair 38 = .ok (.aload_n 0, 1) := by decide +kernel
theorem dX8_pair_39 : decode cX8_pair 39 = .ok (.invokevirtual 177, 3) := by decide +kernel
theorem dX8_pair_42 : decode cX8_pair 42 = .ok (.ireturn, 1) := by decide +kernel
theorem dX8_pair_43 : decode cX8_pair 43 = .ok (.aload_n 0, 1) := by decide +kernel
theorem dX8_pair_44 : decode cX8_pair 44 = .ok (.getfield 30, 3) := by decide +kernel
theorem dX8_pair_47 : decode cX8_pair 47 = .ok (.aload_n 0, 1) := by decide +kernel
theorem dX8_pair_48 : decode cX8_pair 48 = .ok (.getfield 10, 3) := by decide +kernel
theorem dX8_pair_51 : decode cX8_pair 51 = .ok (.getfield 56, 3) := by decide +kernel
theorem dX8_pair_54 : decode cX8_pair 54 = .ok (.iload_n 1, 1) := by decide +kernel
theorem dX8_pair_55 : decode cX8_pair 55 = .ok (.iload_n 2, 1) := by decide +kernel
theorem dX8_pair_56 : decode cX8_pair 56 = .ok (.invokevirtual 232, 3) := by decide +kernel
theorem dX8_pair_59 : decode cX8_pair 59 = .ok (.istore 4, 2) := by decide +kernel
theorem dX8_pair_61 : decode cX8_pair 61 = .ok (.iload_n 3, 1) := by decide +kernel
theorem dX8_pair_62 : decode cX8_pair 62 = .ok (.iconst (-1), 1) := by decide +kernel
theorem dX8_pair_63 : decode cX8_pair 63 = .ok (.if_icmp .ne 6, 3) := by decide +kernel
theorem dX8_pair_66 : decode cX8_pair 66 = .ok (.iload 4, 2) := by decide +kernel
theorem dX8_pair_68 : decode cX8_pair 68 = .ok (.ireturn, 1) := by decide +kernel
theorem dX8_pair_69 : decode cX8_pair 69 = .ok (.iload_n 3, 1) := by decide +kernel
theorem dX8_pair_70 : decode cX8_pair 70 = .ok (.iload 4, 2) := by decide +kernel
theorem dX8_pair_72 : decode cX8_pair 72 = .ok (.if_icmp .ge 14, 3) := by decide +kernel
theorem dX8_pair_75 : decode cX8_pair 75 = .ok (.aload_n 0, 1) := by decide +kernel
theorem dX8_pair_76 : decode cX8_pair 76 = .ok (.getfield 30, 3) := by decide +kernel
theorem dX8_pair_79 : decode cX8_pair 79 = .ok (.iload_n 3, 1) := by decide +kernel
theorem dX8_pair_80 : decode cX8_pair 80 = .ok (.invokevirtual 235, 3) := by decide +kernel
theorem dX8_pair_83 : decode cX8_pair 83 = .ok (.goto 5, 3) := by decide +kernel
theorem dX8_pair_86 : decode cX8_pair 86 = .ok (.bipush (-5), 2) := by decide +kernel
theorem dX8_pair_88 : decode cX8_pair 88 = .ok (.ireturn, 1) := by decide +kernel
theorem dX8_odds_0 : decode cX8_odds 0 = .ok (.aload_n 0, 1) := by decide +kernel
theorem dX8_odds_1 : decode cX8_odds 1 = .ok (.iload_n 1, 1) := by decide +kernel
theorem dX8_odds_2 : decode cX8_odds 2 = .ok (.iload_n 2, 1) := by decide +kernel
theorem dX8_odds_3 : decode cX8_odds 3 = .ok (.invokevirtual 124, 3) := by decide +kernel
theorem dX8_odds_6 : decode cX8_odds 6 = .ok (.ifCond .eq 24, 3) := by decide +kernel
theorem dX8_odds_9 : decode cX8_odds 9 = .ok (.iload_n 3, 1) := by decide +kernel
theorem dX8_odds_10 : decode cX8_odds 10 = .ok (.iconst 0, 1) := by decide +kernel
theorem dX8_odds_11 : decode cX8_odds 11 = .ok (.bipush 6, 2) := by decide +kernel
theorem dX8_odds_13 : decode cX8_odds 13 = .ok (.invokestatic 48, 3) := by decide +kernel
theorem dX8_odds_16 : decode cX8_odds 16 = .ok (.ifCond .eq 14, 3) := by decide +kernel
theorem dX8_odds_19 : decode cX8_odds 19 = .ok (.iload 4, 2) := by decide +kernel
theorem dX8_odds_21 : decode cX8_odds 21 = .ok (.iconst 0, 1) := by decide +kernel
theorem dX8_odds_22 : decode cX8_odds 22 = .ok (.bipush 10, 2) := by decide +kernel
theorem dX8_odds_24 : decode cX8_odds 24 = .ok (.invokestatic 48, 3) := by decide +kernel
theorem dX8_odds_27 : decode cX8_odds 27 = .ok (.ifCond .ne 8, 3) := by decide +kernel
theorem dX8_odds_30 : decode cX8_odds 30 = .ok (.aload_n 0, 1) := by decide +kernel
theorem dX8_odds_31 : decode cX8_odds 31 = .ok (.invokevirtual 52, 3) := by decide +kernel
theorem dX8_odds_34 : decode cX8_odds 34 = .ok (.ireturn, 1) := by decide +kernel
theorem dX8_odds_35 : decode cX8_odds 35 = .ok (.aload_n 0, 1) := by decide +kernel
theorem dX8_odds_36 : decode cX8_odds 36 = .ok (.getfield 30, 3) := by decide +kernel
theorem dX8_odds_39 : decode cX8_odds 39 = .ok (.aload_n 0, 1) := by decide +kernel
theorem dX8_odds_40 : decode cX8_odds 40 = .ok (.getfield 10, 3) := by decide +kernel
theorem dX8_odds_43 : decode cX8_odds 43 = .ok (.getfield 56, 3) := by decide +kernel
theorem dX8_odds_46 : decode cX8_odds 46 = .ok (.iload_n 1, 1) := by decide +kernel
theorem dX8_odds_47 : decode cX8_odds 47 = .ok (.iload_n 2, 1) := by decide +kernel
theorem dX8_odds_48 : decode cX8_odds 48 = .ok (.iload_n 3, 1) := by decide +kernel
theorem dX8_odds_49 : decode cX8_odds 49 = .ok (.iload 4, 2) := by decide +kernel
theorem dX8_odds_51 : decode cX8_odds 51 = .ok (.invokevirtual 238, 3) := by decide +kernel
theorem dX8_odds_54 : decode cX8_odds 54 = .ok (.lstore 5, 2) := by decide +kernel
theorem dX8_odds_56 : decode cX8_odds 56 = .ok (.iload_n 3, 1) := by decide +kernel
theorem dX8_odds_57 : decode cX8_odds 57 = .ok (.invokestatic 242, 3) := by decide +kernel
theorem dX8_odds_60 : decode cX8_odds 60 = .ok (.lstore 7, 2) := by decide +kernel
theorem dX8_odds_62 : decode cX8_odds 62 = .ok (.lload 5, 2) := by decide +kernel
theorem dX8_odds_64 : decode cX8_odds 64 = .ok (.lload 7, 2) := by decide +kernel
theorem dX8_odds_66 : decode cX8_odds 66 = .ok (.invokestatic 246, 3) := by decide +kernel
theorem dX8_odds_69 : decode cX8_odds 69 = .ok (.lstore 9, 2) := by decide +kernel
theorem dX8_odds_71 : decode cX8_odds 71 = .ok (.lload 9, 2) := by decide +kernel
theorem dX8_odds_73 : decode cX8_odds 73 = .ok (.lconst 0, 1) := by decide +kernel
theorem dX8_odds_74 : decode cX8_odds 74 = .ok (.lcmp, 1) := by decide +kernel
theorem dX8_odds_75 : decode cX8_odds 75 = .ok (.ifCond .le 21, 3) := by decide +kernel
theorem dX8_odds_78 : decode cX8_odds 78 = .ok (.aload_n 0, 1) := by decide +kernel
theorem dX8_odds_79 : decode cX8_odds 79 = .ok (.lload 5, 2) := by decide +kernel
theorem dX8_odds_81 : decode cX8_odds 81 = .ok (.lload 9, 2) := by decide +kernel
theorem dX8_odds_83 : decode cX8_odds 83 = .ok (.ldiv, 1) := by decide +kernel
theorem dX8_odds_84 : decode cX8_odds 84 = .ok (.putfield 41, 3) := by decide +kernel
theorem dX8_odds_87 : decode cX8_odds 87 = .ok (.aload_n 0, 1) := by decide +kernel
theorem dX8_odds_88 : decode cX8_odds 88 = .ok (.lload 7, 2) := by decide +kernel
theorem dX8_odds_90 : decode cX8_odds 90 = .ok (.lload 9, 2) := by decide +kernel
theorem dX8_odds_92 : decode cX8_odds 92 = .ok (.ldiv, 1) := by decide +kernel
theorem dX8_odds_93 : decode cX8_odds 93 = .ok (.putfield 45, 3) := by decide +kernel
theorem dX8_odds_96 : decode cX8_odds 96 = .ok (.iconst 1, 1) := by decide +kernel
theorem dX8_odds_97 : decode cX8_odds 97 = .ok (.ireturn, 1) := by decide +kernel
theorem dX8_days_0 : decode cX8_days 0 = .ok (.iload_n 1, 1) := by decide +kernel
theorem dX8_days_1 : decode cX8_days 1 = .ok (.iconst 0, 1) := by decide +kernel
theorem dX8_days_2 : decode cX8_days 2 = .ok (.ldc 250, 2) := by decide +kernel
theorem dX8_days_4 : decode cX8_days 4 = .ok (.invokestatic 48, 3) := by decide +kernel
theorem dX8_days_7 : decode cX8_days 7 = .ok (.ifCond .eq 13, 3) := by decide +kernel
theorem dX8_days_10 : decode cX8_days 10 = .ok (.iload_n 2, 1) := by decide +kernel
theorem dX8_days_11 : decode cX8_days 11 = .ok (.iconst 0, 1) := by decide +kernel
theorem dX8_days_12 : decode cX8_days 12 = .ok (.bipush 60, 2) := by decide +kernel
theorem dX8_days_14 : decode cX8_days 14 = .ok (.invokestatic 48, 3) := by decide +kernel
theorem dX8_days_17 : decode cX8_days 17 = .ok (.ifCond .ne 8, 3) := by decide +kernel
theorem dX8_days_20 : decode cX8_days 20 = .ok (.aload_n 0, 1) := by decide +kernel
theorem dX8_days_21 : decode cX8_days 21 = .ok (.invokevirtual 52, 3) := by decide +kernel
theorem dX8_days_24 : decode cX8_days 24 = .ok (.ireturn, 1) := by decide +kernel
theorem dX8_days_25 : decode cX8_days 25 = .ok (.aload_n 0, 1) := by decide +kernel
theorem dX8_days_26 : decode cX8_days 26 = .ok (.getfield 30, 3) := by decide +kernel
theorem dX8_days_29 : decode cX8_days 29 = .ok (.aload_n 0, 1) := by decide +kernel
theorem dX8_days_30 : decode cX8_days 30 = .ok (.getfield 10, 3) := by decide +kernel
theorem dX8_days_33 : decode cX8_days 33 = .ok (.getfield 56, 3) := by decide +kernel
theorem dX8_days_36 : decode cX8_days 36 = .ok (.iload_n 1, 1) := by decide +kernel
theorem dX8_days_37 : decode cX8_days 37 = .ok (.iload_n 2, 1) := by decide +kernel
theorem dX8_days_38 : decode cX8_days 38 = .ok (.invokevirtual 251, 3) := by decide +kernel
theorem dX8_days_41 : decode cX8_days 41 = .ok (.ireturn, 1) := by decide +kernel
theorem dX8_part_0 : decode cX8_part 0 = .ok (.iload_n 1, 1) := by decide +kernel
theorem dX8_part_1 : decode cX8_part 1 = .ok (.iconst 0, 1) := by decide +kernel
theorem dX8_part_2 : decode cX8_part 2 = .ok (.iconst 1, 1) := by decide +kernel
theorem dX8_part_3 : decode cX8_part 3 = .ok (.invokestatic 48, 3) := by decide +kernel
theorem dX8_part_6 : decode cX8_part 6 = .ok (.ifCond .ne 9, 3) := by decide +kernel
theorem dX8_part_9 : decode cX8_part 9 = .ok (.aload_n 0, 1) := by decide +kernel
theorem dX8_part_10 : decode cX8_part 10 = .ok (.invokevirtual 52, 3) := by decide +kernel
theorem dX8_part_13 : decode cX8_part 13 = .ok (.i2l, 1) := by decide +kernel
theorem dX8_part_14 : decode cX8_part 14 = .ok (.lreturn, 1) := by decide +kernel
theorem dX8_part_15 : decode cX8_part 15 = .ok (.iload_n 1, 1) := by decide +kernel
theorem dX8_part_16 : decode cX8_part 16 = .ok (.ifCond .ne 10, 3) := by decide +kernel
theorem dX8_part_19 : decode cX8_part 19 = .ok (.aload_n 0, 1) := by decide +kernel
theorem dX8_part_20 : decode cX8_part 20 = .ok (.getfield 41, 3) := by decide +kernel
theorem dX8_part_23 : decode cX8_part 23 = .ok (.goto 7, 3) := by decide +kernel
theorem dX8_part_26 : decode cX8_part 26 = .ok (.aload_n 0, 1) := by decide +kernel
theorem dX8_part_27 : decode cX8_part 27 = .ok (.getfield 45, 3) := by decide +kernel
theorem dX8_part_30 : decode cX8_part 30 = .ok (.lreturn, 1) := by decide +kernel
theorem dX8_image_0 : decode cX8_image 0 = .ok (.iload_n 1, 1) := by decide +kernel
theorem dX8_image_1 : decode cX8_image 1 = .ok (.iconst 0, 1) := by decide +kernel
theorem dX8_image_2 : decode cX8_image 2 = .ok (.iconst 1, 1) := by decide +kernel
theorem dX8_image_3 : decode cX8_image 3 = .ok (.invokestatic 48, 3) := by decide +kernel
theorem dX8_image_6 : decode cX8_image 6 = .ok (.ifCond .ne 8, 3) := by decide +kernel
theorem dX8_image_9 : decode cX8_image 9 = .ok (.aload_n 0, 1) := by decide +kernel
theorem dX8_image_10 : decode cX8_image 10 = .ok (.invokevirtual 52, 3) := by decide +kernel
theorem dX8_image_13 : decode cX8_image 13 = .ok (.ireturn, 1) := by decide +kernel
theorem dX8_image_14 : decode cX8_image 14 = .ok (.aload_n 0, 1) := by decide +kernel
theorem dX8_image_15 : decode cX8_image 15 = .ok (.getfield 16, 3) := by decide +kernel
theorem dX8_image_18 : decode cX8_image 18 = .ok (.iload_n 1, 1) := by decide +kernel
theorem dX8_image_19 : decode cX8_image 19 = .ok (.aaload, 1) := by decide +kernel
theorem dX8_image_20 : decode cX8_image 20 = .ok (.astore_n 2, 1) := by decide +kernel
theorem dX8_image_21 : decode cX8_image 21 = .ok (.aload_n 2, 1) := by decide +kernel
theorem dX8_image_22 : decode cX8_image 22 = .ok (.ifnonnull 18, 3) := by decide +kernel
theorem dX8_image_25 : decode cX8_image 25 = .ok (.new 7, 3) := by decide +kernel
theorem dX8_image_28 : decode cX8_image 28 = .ok (.dup, 1) := by decide +kernel
theorem dX8_image_29 : decode cX8_image 29 = .ok (.invokespecial 9, 3) := by decide +kernel
theorem dX8_image_32 : decode cX8_image 32 = .ok (.astore_n 2, 1) := by decide +kernel
theorem dX8_image_33 : decode cX8_image 33 = .ok (.aload_n 0, 1) := by decide +kernel
theorem dX8_image_34 : decode cX8_image 34 = .ok (.getfield 16, 3) := by decide +kernel
theorem dX8_image_37 : decode cX8_image 37 = .ok (.iload_n 1, 1) := by decide +kernel
theorem dX8_image_38 : decode cX8_image 38 = .ok (.aload_n 2, 1) := by decide +kernel
theorem dX8_image_39 : decode cX8_image 39 = .ok (.aastore, 1) := by decide +kernel
theorem dX8_image_40 : decode cX8_image 40 = .ok (.aload_n 2, 1) := by decide +kernel
theorem dX8_image_41 : decode cX8_image 41 = .ok (.aload_n 0, 1) := by decide +kernel
theorem dX8_image_42 : decode cX8_image 42 = .ok (.getfield 10, 3) := by decide +kernel
theorem dX8_image_45 : decode cX8_image 45 = .ok (.invokevirtual 254, 3) := by decide +kernel
theorem dX8_image_48 : decode cX8_image 48 = .ok (.iconst 1, 1) := by decide +kernel
theorem dX8_image_49 : decode cX8_image 49 = .ok (.ireturn, 1) := by decide +kernel
theorem dX8_from_0 : decode cX8_from 0 = .ok (.iload_n 1, 1) := by decide +kernel
theorem dX8_from_1 : decode cX8_from 1 = .ok (.iconst 0, 1) := by decide +kernel
theorem dX8_from_2 : decode cX8_from 2 = .ok (.iconst 1, 1) := by decide +kernel
theorem dX8_from_3 : decode cX8_from 3 = .ok (.invokestatic 48, 3) := by decide +kernel
theorem dX8_from_6 : decode cX8_from 6 = .ok (.ifCond .ne 8, 3) := by decide +kernel
theorem dX8_from_9 : decode cX8_from 9 = .ok (.aload_n 0, 1) := by decide +kernel
theorem dX8_from_10 : decode cX8_from 10 = .ok (.invokevirtual 52, 3) := by decide +kernel
theorem dX8_from_13 : decode cX8_from 13 = .ok (.ireturn, 1) := by decide +kernel
theorem dX8_from_14 : decode cX8_from 14 = .ok (.aload_n 0, 1) := by decide +kernel
theorem dX8_from_15 : decode cX8_from 15 = .ok (.getfield 16, 3) := by decide +kernel
theorem dX8_from_18 : decode cX8_from 18 = .ok (.iload_n 1, 1) := by decide +kernel
theorem dX8_from_19 : decode cX8_from 19 = .ok (.aaload, 1) := by decide +kernel
theorem dX8_from_20 : decode cX8_from 20 = .ok (.astore_n 2, 1) := by decide +kernel
theorem dX8_from_21 : decode cX8_from 21 = .ok (.aload_n 2, 1) := by decide +kernel
theorem dX8_from_22 : decode cX8_from 22 = .ok (.ifnonnull 8, 3) := by decide +kernel
theorem dX8_from_25 : decode cX8_from 25 = .ok (.aload_n 0, 1) := by decide +kernel
theorem dX8_from_26 : decode cX8_from 26 = .ok (.invokevirtual 131, 3) := by decide +kernel
theorem dX8_from_29 : decode cX8_from 29 = .ok (.ireturn, 1) := by decide +kernel
theorem dX8_from_30 : decode cX8_from 30 = .ok (.aload_n 0, 1) := by decide +kernel
theorem dX8_from_31 : decode cX8_from 31 = .ok (.getfield 10, 3) := by decide +kernel
theorem dX8_from_34 : decode cX8_from 34 = .ok (.aload_n 2, 1) := by decide +kernel
theorem dX8_from_35 : decode cX8_from 35 = .ok (.invokevirtual 254, 3) := by decide +kernel
theorem dX8_from_38 : decode cX8_from 38 = .ok (.iconst 1, 1) := by decide +kernel
theorem dX8_from_39 : decode cX8_from 39 = .ok (.ireturn, 1) := by decide +kernel
theorem dX8_status_0 : decode cX8_status 0 = .ok (.iload_n 1, 1) := by decide +kernel
theorem dX8_status_1 : decode cX8_status 1 = .ok (.tableswitch 42 0 2 #[27, 32, 37], 27) := by decide +kernel
theorem dX8_status_28 : decode cX8_status 28 = .ok (.aload_n 0, 1) := by decide +kernel
theorem dX8_status_29 : decode cX8_status 29 = .ok (.getfield 257, 3) := by decide +kernel
theorem dX8_status_32 : decode cX8_status 32 = .ok (.ireturn, 1) := by decide +kernel
theorem dX8_status_33 : decode cX8_status 33 = .ok (.aload_n 0, 1) := by decide +kernel
theorem dX8_status_34 : decode cX8_status 34 = .ok (.getfield 260, 3) := by decide +kernel
theorem dX8_status_37 : decode cX8_status 37 = .ok (.ireturn, 1) := by decide +kernel
theorem dX8_status_38 : decode cX8_status 38 = .ok (.aload_n 0, 1) := by decide +kernel
theorem dX8_status_39 : decode cX8_status 39 = .ok (.getfield 263, 3) := by decide +kernel
theorem dX8_status_42 : decode cX8_status 42 = .ok (.ireturn, 1) := by decide +kernel
theorem dX8_status_43 : decode cX8_status 43 = .ok (.aload_n 0, 1) := by decide +kernel
theorem dX8_status_44 : decode cX8_status 44 = .ok (.invokevirtual 52, 3) := by decide +kernel
theorem dX8_status_47 : decode cX8_status 47 = .ok (.pop, 1) := by decide +kernel
theorem dX8_status_48 : decode cX8_status 48 = .ok (.iconst (-1), 1) := by decide +kernel
theorem dX8_status_49 : decode cX8_status 49 = .ok (.ireturn, 1) := by decide +kernel
theorem dX8_count_0 : decode cX8_count 0 = .ok (.iload_n 1, 1) := by decide +kernel
theorem dX8_count_1 : decode cX8_count 1 = .ok (.iconst 0, 1) := by decide +kernel
theorem dX8_count_2 : decode cX8_count 2 = .ok (.bipush 10, 2) := by decide +kernel
theorem dX8_count_4 : decode cX8_count 4 = .ok (.invokestatic 48, 3) := by decide +kernel
theorem dX8_count_7 : decode cX8_count 7 = .ok (.ifCond .ne 8, 3) := by decide +kernel
theorem dX8_count_10 : decode cX8_count 10 = .ok (.aload_n 0, 1) := by decide +kernel
theorem dX8_count_11 : decode cX8_count 11 = .ok (.invokevirtual 52, 3) := by decide +kernel
theorem dX8_count_14 : decode cX8_count 14 = .ok (.ireturn, 1) := by decide +kernel
theorem dX8_count_15 : decode cX8_count 15 = .ok (.aload_n 0, 1) := by decide +kernel
theorem dX8_count_16 : decode cX8_count 16 = .ok (.iload_n 1, 1) := by decide +kernel
theorem dX8_count_17 : decode cX8_count 17 = .ok (.invokevirtual 266, 3) := by decide +kernel
theorem dX8_count_20 : decode cX8_count 20 = .ok (.ireturn, 1) := by decide +kernel
theorem dX8_digest_0 : decode cX8_digest 0 = .ok (.ldc2_w 269, 3) := by decide +kernel
theorem dX8_digest_3 : decode cX8_digest 3 = .ok (.lstore_n 1, 1) := by decide +kernel
theorem dX8_digest_4 : decode cX8_digest 4 = .ok (.iconst 0, 1) := by decide +kernel
theorem dX8_digest_5 : decode cX8_digest 5 = .ok (.istore_n 3, 1) := by decide +kernel
theorem dX8_digest_6 : decode cX8_digest 6 = .ok (.iload_n 3, 1) := by decide +kernel
theorem dX8_digest_7 : decode cX8_digest 7 = .ok (.bipush 10, 2) := by decide +kernel
theorem dX8_digest_9 : decode cX8_digest 9 = .ok (.if_icmp .gt 22, 3) := by decide +kernel
theorem dX8_digest_12 : decode cX8_digest 12 = .ok (.ldc2_w 271, 3) := by decide +kernel
theorem dX8_digest_15 : decode cX8_digest 15 = .ok (.lload_n 1, 1) := by decide +kernel
theorem dX8_digest_16 : decode cX8_digest 16 = .ok (.lmul, 1) := by decide +kernel
theorem dX8_digest_17 : decode cX8_digest 17 = .ok (.aload_n 0, 1) := by decide +kernel
theorem dX8_digest_18 : decode cX8_digest 18 = .ok (.iload_n 3, 1) := by decide +kernel
theorem dX8_digest_19 : decode cX8_digest 19 = .ok (.invokevirtual 266, 3) := by decide +kernel
theorem dX8_digest_22 : decode cX8_digest 22 = .ok (.i2l, 1) := by decide +kernel
theorem dX8_digest_23 : decode cX8_digest 23 = .ok (.ladd, 1) := by decide +kernel
theorem dX8_digest_24 : decode cX8_digest 24 = .ok (.lstore_n 1, 1) := by decide +kernel
theorem dX8_digest_25 : decode cX8_digest 25 = .ok (.iinc 3 1, 3) := by decide +kernel
theorem dX8_digest_28 : decode cX8_digest 28 = .ok (.goto (-22), 3) := by decide +kernel
theorem dX8_digest_31 : decode cX8_digest 31 = .ok (.aload_n 0, 1) := by decide +kernel
theorem dX8_digest_32 : decode cX8_digest 32 = .ok (.getfield 10, 3) := by decide +kernel
theorem dX8_digest_35 : decode cX8_digest 35 = .ok (.getfield 56, 3) := by decide +kernel
theorem dX8_digest_38 : decode cX8_digest 38 = .ok (.lload_n 1, 1) := by decide +kernel
theorem dX8_digest_39 : decode cX8_digest 39 = .ok (.invokevirtual 273, 3) := by decide +kernel
theorem dX8_digest_42 : decode cX8_digest 42 = .ok (.lstore_n 1, 1) := by decide +kernel
theorem dX8_digest_43 : decode cX8_digest 43 = .ok (.aload_n 0, 1) := by decide +kernel
theorem dX8_digest_44 : decode cX8_digest 44 = .ok (.getfield 10, 3) := by decide +kernel
theorem dX8_digest_47 : decode cX8_digest 47 = .ok (.getfield 204, 3) := by decide +kernel
theorem dX8_digest_50 : decode cX8_digest 50 = .ok (.lload_n 1, 1) := by decide +kernel
theorem dX8_digest_51 : decode cX8_digest 51 = .ok (.iconst 5, 1) := by decide +kernel
theorem dX8_digest_52 : decode cX8_digest 52 = .ok (.invokevirtual 277, 3) := by decide +kernel
theorem dX8_digest_55 : decode cX8_digest 55 = .ok (.lstore_n 1, 1) := by decide +kernel
theorem dX8_digest_56 : decode cX8_digest 56 = .ok (.aload_n 0, 1) := by decide +kernel
theorem dX8_digest_57 : decode cX8_digest 57 = .ok (.getfield 10, 3) := by decide +kernel
theorem dX8_digest_60 : decode cX8_digest 60 = .ok (.getfield 221, 3) := by decide +kernel
theorem dX8_digest_63 : decode cX8_digest 63 = .ok (.lload_n 1, 1) := by decide +kernel
theorem dX8_digest_64 : decode cX8_digest 64 = .ok (.bipush 6, 2) := by decide +kernel
theorem dX8_digest_66 : decode cX8_digest 66 = .ok (.invokevirtual 277, 3) := by decide +kernel
theorem dX8_digest_69 : decode cX8_digest 69 = .ok (.lstore_n 1, 1) := by decide +kernel
theorem dX8_digest_70 : decode cX8_digest 70 = .ok (.aload_n 0, 1) := by decide +kernel
theorem dX8_digest_71 : decode cX8_digest 71 = .ok (.getfield 10, 3) := by decide +kernel
theorem dX8_digest_74 : decode cX8_digest 74 = .ok (.getfield 224, 3) := by decide +kernel
theorem dX8_digest_77 : decode cX8_digest 77 = .ok (.lload_n 1, 1) := by decide +kernel
theorem dX8_digest_78 : decode cX8_digest 78 = .ok (.iconst 5, 1) := by decide +kernel
theorem dX8_digest_79 : decode cX8_digest 79 = .ok (.invokevirtual 277, 3) := by decide +kernel
theorem dX8_digest_82 : decode cX8_digest 82 = .ok (.lstore_n 1, 1) := by decide +kernel
theorem dX8_digest_83 : decode cX8_digest 83 = .ok (.ldc2_w 271, 3) := by decide +kernel
theorem dX8_digest_86 : decode cX8_digest 86 = .ok (.lload_n 1, 1) := by decide +kernel
theorem dX8_digest_87 : decode cX8_digest 87 = .ok (.lmul, 1) := by decide +kernel
theorem dX8_digest_88 : decode cX8_digest 88 = .ok (.aload_n 0, 1) := by decide +kernel
theorem dX8_digest_89 : decode cX8_digest 89 = .ok (.getfield 41, 3) := by decide +kernel
theorem dX8_digest_92 : decode cX8_digest 92 = .ok (.ladd, 1) := by decide +kernel
theorem dX8_digest_93 : decode cX8_digest 93 = .ok (.lstore_n 1, 1) := by decide +kernel
theorem dX8_digest_94 : decode cX8_digest 94 = .ok (.ldc2_w 271, 3) := by decide +kernel
theorem dX8_digest_97 : decode cX8_digest 97 = .ok (.lload_n 1, 1) := by decide +kernel
theorem dX8_digest_98 : decode cX8_digest 98 = .ok (.lmul, 1) := by decide +kernel
theorem dX8_digest_99 : decode cX8_digest 99 = .ok (.aload_n 0, 1) := by decide +kernel
theorem dX8_digest_100 : decode cX8_digest 100 = .ok (.getfield 45, 3) := by decide +kernel
theorem dX8_digest_103 : decode cX8_digest 103 = .ok (.ladd, 1) := by decide +kernel
theorem dX8_digest_104 : decode cX8_digest 104 = .ok (.lreturn, 1) := by decide +kernel
theorem dX8_howMany_0 : decode cX8_howMany 0 = .ok (.iload_n 1, 1) := by decide +kernel
theorem dX8_howMany_1 : decode cX8_howMany 1 = .ok (.tableswitch 167 0 9 #[55, 66, 77, 88, 99, 111, 123, 134, 145, 156], 55) := by decide +kernel
theorem dX8_howMany_56 : decode cX8_howMany 56 = .ok (.aload_n 0, 1) := by decide +kernel
theorem dX8_howMany_57 : decode cX8_howMany 57 = .ok (.getfield 10, 3) := by decide +kernel
theorem dX8_howMany_60 : decode cX8_howMany 60 = .ok (.getfield 56, 3) := by decide +kernel
theorem dX8_howMany_63 : decode cX8_howMany 63 = .ok (.getfield 74, 3) := by decide +kernel
theorem dX8_howMany_66 : decode cX8_howMany 66 = .ok (.ireturn, 1) := by decide +kernel
theorem dX8_howMany_67 : decode cX8_howMany 67 = .ok (.aload_n 0, 1) := by decide +kernel
theorem dX8_howMany_68 : decode cX8_howMany 68 = .ok (.getfield 10, 3) := by decide +kernel
theorem dX8_howMany_71 : decode cX8_howMany 71 = .ok (.getfield 56, 3) := by decide +kernel
theorem dX8_howMany_74 : decode cX8_howMany 74 = .ok (.getfield 60, 3) := by decide +kernel
theorem dX8_howMany_77 : decode cX8_howMany 77 = .ok (.ireturn, 1) := by decide +kernel
theorem dX8_howMany_78 : decode cX8_howMany 78 = .ok (.aload_n 0, 1) := by decide +kernel
theorem dX8_howMany_79 : decode cX8_howMany 79 = .ok (.getfield 10, 3) := by decide +kernel
theorem dX8_howMany_82 : decode cX8_howMany 82 = .ok (.getfield 56, 3) := by decide +kernel
theorem dX8_howMany_85 : decode cX8_howMany 85 = .ok (.getfield 146, 3) := by decide +kernel
theorem dX8_howMany_88 : decode cX8_howMany 88 = .ok (.ireturn, 1) := by decide +kernel
theorem dX8_howMany_89 : decode cX8_howMany 89 = .ok (.aload_n 0, 1) := by decide +kernel
theorem dX8_howMany_90 : decode cX8_howMany 90 = .ok (.getfield 10, 3) := by decide +kernel
theorem dX8_howMany_93 : decode cX8_howMany 93 = .ok (.getfield 56, 3) := by decide +kernel
theorem dX8_howMany_96 : decode cX8_howMany 96 = .ok (.invokevirtual 280, 3) := by decide +kernel
theorem dX8_howMany_99 : decode cX8_howMany 99 = .ok (.ireturn, 1) := by decide +kernel
theorem dX8_howMany_100 : decode cX8_howMany 100 = .ok (.aload_n 0, 1) := by decide +kernel
theorem dX8_howMany_101 : decode cX8_howMany 101 = .ok (.getfield 10, 3) := by decide +kernel
theorem dX8_howMany_104 : decode cX8_howMany 104 = .ok (.getfield 56, 3) := by decide +kernel
theorem dX8_howMany_107 : decode cX8_howMany 107 = .ok (.iconst 4, 1) := by decide +kernel
theorem dX8_howMany_108 : decode cX8_howMany 108 = .ok (.invokevirtual 283, 3) := by decide +kernel
theorem dX8_howMany_111 : decode cX8_howMany 111 = .ok (.ireturn, 1) := by decide +kernel
theorem dX8_howMany_112 : decode cX8_howMany 112 = .ok (.aload_n 0, 1) := by decide +kernel
theorem dX8_howMany_113 : decode cX8_howMany 113 = .ok (.getfield 10, 3) := by decide +kernel
theorem dX8_howMany_116 : decode cX8_howMany 116 = .ok (.getfield 56, 3) := by decide +kernel
theorem dX8_howMany_119 : decode cX8_howMany 119 = .ok (.iconst 5, 1) := by decide +kernel
theorem dX8_howMany_120 : decode cX8_howMany 120 = .ok (.invokevirtual 283, 3) := by decide +kernel
theorem dX8_howMany_123 : decode cX8_howMany 123 = .ok (.ireturn, 1) := by decide +kernel
theorem dX8_howMany_124 : decode cX8_howMany 124 = .ok (.aload_n 0, 1) := by decide +kernel
theorem dX8_howMany_125 : decode cX8_howMany 125 = .ok (.getfield 10, 3) := by decide +kernel
theorem dX8_howMany_128 : decode cX8_howMany 128 = .ok (.getfield 204, 3) := by decide +kernel
theorem dX8_howMany_131 : decode cX8_howMany 131 = .ok (.getfield 231, 3) := by decide +kernel
theorem dX8_howMany_134 : decode cX8_howMany 134 = .ok (.ireturn, 1) := by decide +kernel
theorem dX8_howMany_135 : decode cX8_howMany 135 = .ok (.aload_n 0, 1) := by decide +kernel
theorem dX8_howMany_136 : decode cX8_howMany 136 = .ok (.getfield 10, 3) := by decide +kernel
theorem dX8_howMany_139 : decode cX8_howMany 139 = .ok (.getfield 221, 3) := by decide +kernel
theorem dX8_howMany_142 : decode cX8_howMany 142 = .ok (.getfield 231, 3) := by decide +kernel
theorem dX8_howMany_145 : decode cX8_howMany 145 = .ok (.ireturn, 1) := by decide +kernel
theorem dX8_howMany_146 : decode cX8_howMany 146 = .ok (.aload_n 0, 1) := by decide +kernel
theorem dX8_howMany_147 : decode cX8_howMany 147 = .ok (.getfield 10, 3) := by decide +kernel
theorem dX8_howMany_150 : decode cX8_howMany 150 = .ok (.getfield 224, 3) := by decide +kernel
theorem dX8_howMany_153 : decode cX8_howMany 153 = .ok (.getfield 231, 3) := by decide +kernel
theorem dX8_howMany_156 : decode cX8_howMany 156 = .ok (.ireturn, 1) := by decide +kernel
theorem dX8_howMany_157 : decode cX8_howMany 157 = .ok (.aload_n 0, 1) := by decide +kernel
theorem dX8_howMany_158 : decode cX8_howMany 158 = .ok (.getfield 10, 3) := by decide +kernel
theorem dX8_howMany_161 : decode cX8_howMany 161 = .ok (.getfield 80, 3) := by decide +kernel
theorem dX8_howMany_164 : decode cX8_howMany 164 = .ok (.getfield 159, 3) := by decide +kernel
theorem dX8_howMany_167 : decode cX8_howMany 167 = .ok (.ireturn, 1) := by decide +kernel
theorem dX8_howMany_168 : decode cX8_howMany 168 = .ok (.aload_n 0, 1) := by decide +kernel
theorem dX8_howMany_169 : decode cX8_howMany 169 = .ok (.getfield 23, 3) := by decide +kernel
theorem dX8_howMany_172 : decode cX8_howMany 172 = .ok (.getfield 107, 3) := by decide +kernel
theorem dX8_howMany_175 : decode cX8_howMany 175 = .ok (.ireturn, 1) := by decide +kernel
theorem dX8_bad_0 : decode cX8_bad 0 = .ok (.aload_n 0, 1) := by decide +kernel
theorem dX8_bad_1 : decode cX8_bad 1 = .ok (.dup, 1) := by decide +kernel
theorem dX8_bad_2 : decode cX8_bad 2 = .ok (.getfield 257, 3) := by decide +kernel
theorem dX8_bad_5 : decode cX8_bad 5 = .ok (.iconst 1, 1) := by decide +kernel
theorem dX8_bad_6 : decode cX8_bad 6 = .ok (.iadd, 1) := by decide +kernel
theorem dX8_bad_7 : decode cX8_bad 7 = .ok (.putfield 257, 3) := by decide +kernel
theorem dX8_bad_10 : decode cX8_bad 10 = .ok (.bipush (-2), 2) := by decide +kernel
theorem dX8_bad_12 : decode cX8_bad 12 = .ok (.ireturn, 1) := by decide +kernel
theorem dX8_badBelow_0 : decode cX8_badBelow 0 = .ok (.aload_n 0, 1) := by decide +kernel
theorem dX8_badBelow_1 : decode cX8_badBelow 1 = .ok (.dup, 1) := by decide +kernel
theorem dX8_badBelow_2 : decode cX8_badBelow 2 = .ok (.getfield 257, 3) := by decide +kernel
theorem dX8_badBelow_5 : decode cX8_badBelow 5 = .ok (.iconst 1, 1) := by decide +kernel
theorem dX8_badBelow_6 : decode cX8_badBelow 6 = .ok (.iadd, 1) := by decide +kernel
theorem dX8_badBelow_7 : decode cX8_badBelow 7 = .ok (.putfield 257, 3) := by decide +kernel
theorem dX8_badBelow_10 : decode cX8_badBelow 10 = .ok (.bipush (-10), 2) := by decide +kernel
theorem dX8_badBelow_12 : decode cX8_badBelow 12 = .ok (.ireturn, 1) := by decide +kernel
theorem dX8_no_0 : decode cX8_no 0 = .ok (.aload_n 0, 1) := by decide +kernel
theorem dX8_no_1 : decode cX8_no 1 = .ok (.dup, 1) := by decide +kernel
theorem dX8_no_2 : decode cX8_no 2 = .ok (.getfield 260, 3) := by decide +kernel
theorem dX8_no_5 : decode cX8_no 5 = .ok (.iconst 1, 1) := by decide +kernel
theorem dX8_no_6 : decode cX8_no 6 = .ok (.iadd, 1) := by decide +kernel
theorem dX8_no_7 : decode cX8_no 7 = .ok (.putfield 260, 3) := by decide +kernel
theorem dX8_no_10 : decode cX8_no 10 = .ok (.bipush (-3), 2) := by decide +kernel
theorem dX8_no_12 : decode cX8_no 12 = .ok (.ireturn, 1) := by decide +kernel
theorem dX8_full_0 : decode cX8_full 0 = .ok (.aload_n 0, 1) := by decide +kernel
theorem dX8_full_1 : decode cX8_full 1 = .ok (.dup, 1) := by decide +kernel
theorem dX8_full_2 : decode cX8_full 2 = .ok (.getfield 263, 3) := by decide +kernel
theorem dX8_full_5 : decode cX8_full 5 = .ok (.iconst 1, 1) := by decide +kernel
theorem dX8_full_6 : decode cX8_full 6 = .ok (.iadd, 1) := by decide +kernel
theorem dX8_full_7 : decode cX8_full 7 = .ok (.putfield 263, 3) := by decide +kernel
theorem dX8_full_10 : decode cX8_full 10 = .ok (.bipush (-4), 2) := by decide +kernel
theorem dX8_full_12 : decode cX8_full 12 = .ok (.ireturn, 1) := by decide +kernel
theorem dX8_areTwoNuts_0 : decode cX8_areTwoNuts 0 = .ok (.aload_n 0, 1) := by decide +kernel
theorem dX8_areTwoNuts_1 : decode cX8_areTwoNuts 1 = .ok (.getfield 10, 3) := by decide +kernel
theorem dX8_areTwoNuts_4 : decode cX8_areTwoNuts 4 = .ok (.getfield 56, 3) := by decide +kernel
theorem dX8_areTwoNuts_7 : decode cX8_areTwoNuts 7 = .ok (.iload_n 1, 1) := by decide +kernel
theorem dX8_areTwoNuts_8 : decode cX8_areTwoNuts 8 = .ok (.invokevirtual 149, 3) := by decide +kernel
theorem dX8_areTwoNuts_11 : decode cX8_areTwoNuts 11 = .ok (.ifCond .eq 26, 3) := by decide +kernel
theorem dX8_areTwoNuts_14 : decode cX8_areTwoNuts 14 = .ok (.aload_n 0, 1) := by decide +kernel
theorem dX8_areTwoNuts_15 : decode cX8_areTwoNuts 15 = .ok (.getfield 10, 3) := by decide +kernel
theorem dX8_areTwoNuts_18 : decode cX8_areTwoNuts 18 = .ok (.getfield 56, 3) := by decide +kernel
theorem dX8_areTwoNuts_21 : decode cX8_areTwoNuts 21 = .ok (.iload_n 2, 1) := by decide +kernel
theorem dX8_areTwoNuts_22 : decode cX8_areTwoNuts 22 = .ok (.invokevirtual 149, 3) := by decide +kernel
theorem dX8_areTwoNuts_25 : decode cX8_areTwoNuts 25 = .ok (.ifCond .eq 12, 3) := by decide +kernel
theorem dX8_areTwoNuts_28 : decode cX8_areTwoNuts 28 = .ok (.iload_n 1, 1) := by decide +kernel
theorem dX8_areTwoNuts_29 : decode cX8_areTwoNuts 29 = .ok (.iload_n 2, 1) := by decide +kernel
theorem dX8_areTwoNuts_30 : decode cX8_areTwoNuts 30 = .ok (.if_icmp .eq 7, 3) := by decide +kernel
theorem dX8_areTwoNuts_33 : decode cX8_areTwoNuts 33 = .ok (.iconst 1, 1) := by decide +kernel
theorem dX8_areTwoNuts_34 : decode cX8_areTwoNuts 34 = .ok (.goto 4, 3) := by decide +kernel
theorem dX8_areTwoNuts_37 : decode cX8_areTwoNuts 37 = .ok (.iconst 0, 1) := by decide +kernel
theorem dX8_areTwoNuts_38 : decode cX8_areTwoNuts 38 = .ok (.ireturn, 1) := by decide +kernel
theorem dX8_isSight_0 : decode cX8_isSight 0 = .ok (.iload_n 0, 1) := by decide +kernel
theorem dX8_isSight_1 : decode cX8_isSight 1 = .ok (.iconst 0, 1) := by decide +kernel
theorem dX8_isSight_2 : decode cX8_isSight 2 = .ok (.bipush 99, 2) := by decide +kernel
theorem dX8_isSight_4 : decode cX8_isSight 4 = .ok (.invokestatic 48, 3) := by decide +kernel
theorem dX8_isSight_7 : decode cX8_isSight 7 = .ok (.ifCond .eq 37, 3) := by decide +kernel
theorem dX8_isSight_10 : decode cX8_isSight 10 = .ok (.iload_n 1, 1) := by decide +kernel
theorem dX8_isSight_11 : decode cX8_isSight 11 = .ok (.iconst 0, 1) := by decide +kernel
theorem dX8_isSight_12 : decode cX8_isSight 12 = .ok (.bipush 9, 2) := by decide +kernel
theorem dX8_isSight_14 : decode cX8_isSight 14 = .ok (.invokestatic 48, 3) := by decide +kernel
theorem dX8_isSight_17 : decode cX8_isSight 17 = .ok (.ifCond .eq 27, 3) := by decide +kernel
theorem dX8_isSight_20 : decode cX8_isSight 20 = .ok (.iload_n 2, 1) := by decide +kernel
theorem dX8_isSight_21 : decode cX8_isSight 21 = .ok (.iconst 0, 1) := by decide +kernel
theorem dX8_isSight_22 : decode cX8_isSight 22 = .ok (.bipush 44, 2) := by decide +kernel
theorem dX8_isSight_24 : decode cX8_isSight 24 = .ok (.invokestatic 48, 3) := by decide +kernel
theorem dX8_isSight_27 : decode cX8_isSight 27 = .ok (.ifCond .eq 17, 3) := by decide +kernel
theorem dX8_isSight_30 : decode cX8_isSight 30 = .ok (.iload_n 3, 1) := by decide +kernel
theorem dX8_isSight_31 : decode cX8_isSight 31 = .ok (.iconst 0, 1) := by decide +kernel
theorem dX8_isSight_32 : decode cX8_isSight 32 = .ok (.bipush 60, 2) := by decide +kernel
theorem dX8_isSight_34 : decode cX8_isSight 34 = .ok (.invokestatic 48, 3) := by decide +kernel
theorem dX8_isSight_37 : decode cX8_isSight 37 = .ok (.ifCond .eq 7, 3) := by decide +kernel
theorem dX8_isSight_40 : decode cX8_isSight 40 = .ok (.iconst 1, 1) := by decide +kernel
theorem dX8_isSight_41 : decode cX8_isSight 41 = .ok (.goto 4, 3) := by decide +kernel
theorem dX8_isSight_44 : decode cX8_isSight 44 = .ok (.iconst 0, 1) := by decide +kernel
theorem dX8_isSight_45 : decode cX8_isSight 45 = .ok (.ireturn, 1) := by decide +kernel
theorem dX8_isKind_0 : decode cX8_isKind 0 = .ok (.iload_n 0, 1) := by decide +kernel
theorem dX8_isKind_1 : decode cX8_isKind 1 = .ok (.iconst 0, 1) := by decide +kernel
theorem dX8_isKind_2 : decode cX8_isKind 2 = .ok (.iconst 5, 1) := by decide +kernel
theorem dX8_isKind_3 : decode cX8_isKind 3 = .ok (.invokestatic 48, 3) := by decide +kernel
theorem dX8_isKind_6 : decode cX8_isKind 6 = .ok (.ireturn, 1) := by decide +kernel
theorem dX8_within_0 : decode cX8_within 0 = .ok (.iload_n 1, 1) := by decide +kernel
theorem dX8_within_1 : decode cX8_within 1 = .ok (.iload_n 0, 1) := by decide +kernel
theorem dX8_within_2 : decode cX8_within 2 = .ok (.if_icmp .gt 12, 3) := by decide +kernel
theorem dX8_within_5 : decode cX8_within 5 = .ok (.iload_n 0, 1) := by decide +kernel
theorem dX8_within_6 : decode cX8_within 6 = .ok (.iload_n 2, 1) := by decide +kernel
theorem dX8_within_7 : decode cX8_within 7 = .ok (.if_icmp .gt 7, 3) := by decide +kernel
theorem dX8_within_10 : decode cX8_within 10 = .ok (.iconst 1, 1) := by decide +kernel
theorem dX8_within_11 : decode cX8_within 11 = .ok (.goto 4, 3) := by decide +kernel
theorem dX8_within_14 : decode cX8_within 14 = .ok (.iconst 0, 1) := by decide +kernel
theorem dX8_within_15 : decode cX8_within 15 = .ok (.ireturn, 1) := by decide +kernel
theorem dX8_has_0 : decode cX8_has 0 = .ok (.iload_n 0, 1) := by decide +kernel
theorem dX8_has_1 : decode cX8_has 1 = .ok (.iload_n 1, 1) := by decide +kernel
theorem dX8_has_2 : decode cX8_has 2 = .ok (.ishr, 1) := by decide +kernel
theorem dX8_has_3 : decode cX8_has 3 = .ok (.iconst 1, 1) := by decide +kernel
theorem dX8_has_4 : decode cX8_has 4 = .ok (.iand, 1) := by decide +kernel
theorem dX8_has_5 : decode cX8_has 5 = .ok (.ifCond .eq 7, 3) := by decide +kernel
theorem dX8_has_8 : decode cX8_has 8 = .ok (.iconst 1, 1) := by decide +kernel
theorem dX8_has_9 : decode cX8_has 9 = .ok (.goto 4, 3) := by decide +kernel
theorem dX8_has_12 : decode cX8_has 12 = .ok (.iconst 0, 1) := by decide +kernel
theorem dX8_has_13 : decode cX8_has 13 = .ok (.ireturn, 1) := by decide +kernel
theorem dX8_powerOfTen_0 : decode cX8_powerOfTen 0 = .ok (.lconst 1, 1) := by decide +kernel
theorem dX8_powerOfTen_1 : decode cX8_powerOfTen 1 = .ok (.lstore_n 1, 1) := by decide +kernel
theorem dX8_powerOfTen_2 : decode cX8_powerOfTen 2 = .ok (.iconst 0, 1) := by decide +kernel
theorem dX8_powerOfTen_3 : decode cX8_powerOfTen 3 = .ok (.istore_n 3, 1) := by decide +kernel
theorem dX8_powerOfTen_4 : decode cX8_powerOfTen 4 = .ok (.iload_n 3, 1) := by decide +kernel
theorem dX8_powerOfTen_5 : decode cX8_powerOfTen 5 = .ok (.iload_n 0, 1) := by decide +kernel
theorem dX8_powerOfTen_6 : decode cX8_powerOfTen 6 = .ok (.if_icmp .ge 15, 3) := by decide +kernel
theorem dX8_powerOfTen_9 : decode cX8_powerOfTen 9 = .ok (.lload_n 1, 1) := by decide +kernel
theorem dX8_powerOfTen_10 : decode cX8_powerOfTen 10 = .ok (.ldc2_w 286, 3) := by decide +kernel
theorem dX8_powerOfTen_13 : decode cX8_powerOfTen 13 = .ok (.lmul, 1) := by decide +kernel
theorem dX8_powerOfTen_14 : decode cX8_powerOfTen 14 = .ok (.lstore_n 1, 1) := by decide +kernel
theorem dX8_powerOfTen_15 : decode cX8_powerOfTen 15 = .ok (.iinc 3 1, 3) := by decide +kernel
theorem dX8_powerOfTen_18 : decode cX8_powerOfTen 18 = .ok (.goto (-14), 3) := by decide +kernel
theorem dX8_powerOfTen_21 : decode cX8_powerOfTen 21 = .ok (.lload_n 1, 1) := by decide +kernel
theorem dX8_powerOfTen_22 : decode cX8_powerOfTen 22 = .ok (.lreturn, 1) := by decide +kernel
theorem dX8_commonDivisor_0 : decode cX8_commonDivisor 0 = .ok (.iconst 0, 1) := by decide +kernel
theorem dX8_commonDivisor_1 : decode cX8_commonDivisor 1 = .ok (.istore 4, 2) := by decide +kernel
theorem dX8_commonDivisor_3 : decode cX8_commonDivisor 3 = .ok (.iload 4, 2) := by decide +kernel
theorem dX8_commonDivisor_5 : decode cX8_commonDivisor 5 = .ok (.bipush 64, 2) := by decide +kernel
theorem dX8_commonDivisor_7 : decode cX8_commonDivisor 7 = .ok (.if_icmp .ge 25, 3) := by decide +kernel
theorem dX8_commonDivisor_10 : decode cX8_commonDivisor 10 = .ok (.lload_n 2, 1) := by decide +kernel
theorem dX8_commonDivisor_11 : decode cX8_commonDivisor 11 = .ok (.lconst 0, 1) := by decide +kernel
theorem dX8_commonDivisor_12 : decode cX8_commonDivisor 12 = .ok (.lcmp, 1) := by decide +kernel
theorem dX8_commonDivisor_13 : decode cX8_commonDivisor 13 = .ok (.ifCond .eq 19, 3) := by decide +kernel
theorem dX8_commonDivisor_16 : decode cX8_commonDivisor 16 = .ok (.lload_n 0, 1) := by decide +kernel
theorem dX8_commonDivisor_17 : decode cX8_commonDivisor 17 = .ok (.lload_n 2, 1) := by decide +kernel
theorem dX8_commonDivisor_18 : decode cX8_commonDivisor 18 = .ok (.lrem, 1) := by decide +kernel
theorem dX8_commonDivisor_19 : decode cX8_commonDivisor 19 = .ok (.lstore 5, 2) := by decide +kernel
theorem dX8_commonDivisor_21 : decode cX8_commonDivisor 21 = .ok (.lload_n 2, 1) := by decide +kernel
theorem dX8_commonDivisor_22 : decode cX8_commonDivisor 22 = .ok (.lstore_n 0, 1) := by decide +kernel
theorem dX8_commonDivisor_23 : decode cX8_commonDivisor 23 = .ok (.lload 5, 2) := by decide +kernel
theorem dX8_commonDivisor_25 : decode cX8_commonDivisor 25 = .ok (.lstore_n 2, 1) := by decide +kernel
theorem dX8_commonDivisor_26 : decode cX8_commonDivisor 26 = .ok (.iinc 4 1, 3) := by decide +kernel
theorem dX8_commonDivisor_29 : decode cX8_commonDivisor 29 = .ok (.goto (-26), 3) := by decide +kernel
theorem dX8_commonDivisor_32 : decode cX8_commonDivisor 32 = .ok (.lload_n 0, 1) := by decide +kernel
theorem dX8_commonDivisor_33 : decode cX8_commonDivisor 33 = .ok (.lreturn, 1) := by decide +kernel
theorem dX9_init_0 : decode cX9_init 0 = .ok (.aload_n 0, 1) := by decide +kernel
theorem dX9_init_1 : decode cX9_init 1 = .ok (.invokespecial 1, 3) := by decide +kernel
theorem dX9_init_4 : decode cX9_init 4 = .ok (.aload_n 0, 1) := by decide +kernel
theorem dX9_init_5 : decode cX9_init 5 = .ok (.iconst 3, 1) := by decide +kernel
theorem dX9_init_6 : decode cX9_init 6 = .ok (.newarray .int, 2) := by decide +kernel
theorem dX9_init_8 : decode cX9_init 8 = .ok (.putfield 7, 3) := by decide +kernel
theorem dX9_init_11 : decode cX9_init 11 = .ok (.aload_n 0, 1) := by decide +kernel
theorem dX9_init_12 : decode cX9_init 12 = .ok (.lconst 1, 1) := by decide +kernel
theorem dX9_init_13 : decode cX9_init 13 = .ok (.putfield 13, 3) := by decide +kernel
theorem dX9_init_16 : decode cX9_init 16 = .ok (.aload_n 0, 1) := by decide +kernel
theorem dX9_init_17 : decode cX9_init 17 = .ok (.bipush 45, 2) := by decide +kernel
theorem dX9_init_19 : decode cX9_init 19 = .ok (.newarray .int, 2) := by decide +kernel
theorem dX9_init_21 : decode cX9_init 21 = .ok (.putfield 17, 3) := by decide +kernel
theorem dX9_init_24 : decode cX9_init 24 = .ok (.aload_n 0, 1) := by decide +kernel
theorem dX9_init_25 : decode cX9_init 25 = .ok (.bipush 45, 2) := by decide +kernel
theorem dX9_init_27 : decode cX9_init 27 = .ok (.newarray .int, 2) := by decide +kernel
theorem dX9_init_29 : decode cX9_init 29 = .ok (.putfield 20, 3) := by decide +kernel
theorem dX9_init_32 : decode cX9_init 32 = .ok (.aload_n 0, 1) := by decide +kernel
theorem dX9_init_33 : decode cX9_init 33 = .ok (.bipush 45, 2) := by decide +kernel
theorem dX9_init_35 : decode cX9_init 35 = .ok (.newarray .int, 2) := by decide +kernel
theorem dX9_init_37 : decode cX9_init 37 = .ok (.putfield 23, 3) := by decide +kernel
theorem dX9_init_40 : decode cX9_init 40 = .ok (.aload_n 0, 1) := by decide +kernel
theorem dX9_init_41 : decode cX9_init 41 = .ok (.bipush 94, 2) := by decide +kernel
theorem dX9_init_43 : decode cX9_init 43 = .ok (.newarray .int, 2) := by decide +kernel
theorem dX9_init_45 : decode cX9_init 45 = .ok (.putfield 26, 3) := by decide +kernel
theorem dX9_init_48 : decode cX9_init 48 = .ok (.aload_n 0, 1) := by decide +kernel
theorem dX9_init_49 : decode cX9_init 49 = .ok (.sipush 150, 3) := by decide +kernel
theorem dX9_init_52 : decode cX9_init 52 = .ok (.newarray .int, 2) := by decide +kernel
theorem dX9_init_54 : decode cX9_init 54 = .ok (.putfield 29, 3) := by decide +kernel
theorem dX9_init_57 : decode cX9_init 57 = .ok (.aload_n 0, 1) := by decide +kernel
theorem dX9_init_58 : decode cX9_init 58 = .ok (.sipush 360, 3) := by decide +kernel
theorem dX9_init_61 : decode cX9_init 61 = .ok (.newarray .int, 2) := by decide +kernel
theorem dX9_init_63 : decode cX9_init 63 = .ok (.putfield 32, 3) := by decide +kernel
theorem dX9_init_66 : decode cX9_init 66 = .ok (.aload_n 0, 1) := by decide +kernel
theorem dX9_init_67 : decode cX9_init 67 = .ok (.bipush 72, 2) := by decide +kernel
theorem dX9_init_69 : decode cX9_init 69 = .ok (.newarray .int, 2) := by decide +kernel
theorem dX9_init_71 : decode cX9_init 71 = .ok (.putfield 35, 3) := by decide +kernel
theorem dX9_init_74 : decode cX9_init 74 = .ok (.aload_n 0, 1) := by decide +kernel
theorem dX9_init_75 : decode cX9_init 75 = .ok (.iconst 2, 1) := by decide +kernel
theorem dX9_init_76 : decode cX9_init 76 = .ok (.newarray .boolean, 2) := by decide +kernel
theorem dX9_init_78 : decode cX9_init 78 = .ok (.putfield 38, 3) := by decide +kernel
theorem dX9_init_81 : decode cX9_init 81 = .ok (.aload_n 0, 1) := by decide +kernel
theorem dX9_init_82 : decode cX9_init 82 = .ok (.bipush 90, 2) := by decide +kernel
theorem dX9_init_84 : decode cX9_init 84 = .ok (.newarray .int, 2) := by decide +kernel
theorem dX9_init_86 : decode cX9_init 86 = .ok (.putfield 42, 3) := by decide +kernel
theorem dX9_init_89 : decode cX9_init 89 = .ok (.aload_n 0, 1) := by decide +kernel
theorem dX9_init_90 : decode cX9_init 90 = .ok (.sipush 188, 3) := by decide +kernel
theorem dX9_init_93 : decode cX9_init 93 = .ok (.newarray .int, 2) := by decide +kernel
theorem dX9_init_95 : decode cX9_init 95 = .ok (.putfield 45, 3) := by decide +kernel
theorem dX9_init_98 : decode cX9_init 98 = .ok (.aload_n 0, 1) := by decide +kernel
theorem dX9_init_99 : decode cX9_init 99 = .ok (.sipush 720, 3) := by decide +kernel
theorem dX9_init_102 : decode cX9_init 102 = .ok (.newarray .int, 2) := by decide +kernel
theorem dX9_init_104 : decode cX9_init 104 = .ok (.putfield 48, 3) := by decide +kernel
theorem dX9_init_107 : decode cX9_init 107 = .ok (.aload_n 0, 1) := by decide +kernel
theorem dX9_init_108 : decode cX9_init 108 = .ok (.iconst 2, 1) := by decide +kernel
theorem dX9_init_109 : decode cX9_init 109 = .ok (.newarray .int, 2) := by decide +kernel
theorem dX9_init_111 : decode cX9_init 111 = .ok (.putfield 51, 3) := by decide +kernel
theorem dX9_init_114 : decode cX9_init 114 = .ok (.aload_n 0, 1) := by decide +kernel
theorem dX9_init_115 : decode cX9_init 115 = .ok (.iconst 2, 1) := by decide +kernel
theorem dX9_init_116 : decode cX9_init 116 = .ok (.newarray .int, 2) := by decide +kernel
theorem dX9_init_118 : decode cX9_init 118 = .ok (.putfield 54, 3) := by decide +kernel
theorem dX9_init_121 : decode cX9_init 121 = .ok (.return_, 1) := by decide +kernel
theorem dX9_in_0 : decode cX9_in 0 = .ok (.iload_n 0, 1) := by decide +kernel
theorem dX9_in_1 : decode cX9_in 1 = .ok (.iload_n 1, 1) := by decide +kernel
theorem dX9_in_2 : decode cX9_in 2 = .ok (.if_icmp .lt 12, 3) := by decide +kernel
theorem dX9_in_5 : decode cX9_in 5 = .ok (.iload_n 0, 1) := by decide +kernel
theorem dX9_in_6 : decode cX9_in 6 = .ok (.iload_n 2, 1) := by decide +kernel
theorem dX9_in_7 : decode cX9_in 7 = .ok (.if_icmp .gt 7, 3) := by decide +kernel
theorem dX9_in_10 : decode cX9_in 10 = .ok (.iconst 1, 1) := by decide +kernel
theorem dX9_in_11 : decode cX9_in 11 = .ok (.goto 4, 3) := by decide +kernel
theorem dX9_in_14 : decode cX9_in 14 = .ok (.iconst 0, 1) := by decide +kernel
theorem dX9_in_15 : decode cX9_in 15 = .ok (.ireturn, 1) := by decide +kernel
theorem dX9_has_0 : decode cX9_has 0 = .ok (.iload_n 0, 1) := by decide +kernel
theorem dX9_has_1 : decode cX9_has 1 = .ok (.iload_n 1, 1) := by decide +kernel
theorem dX9_has_2 : decode cX9_has 2 = .ok (.ishr, 1) := by decide +kernel
theorem dX9_has_3 : decode cX9_has 3 = .ok (.iconst 1, 1) := by decide +kernel
theorem dX9_has_4 : decode cX9_has 4 = .ok (.iand, 1) := by decide +kernel
theorem dX9_has_5 : decode cX9_has 5 = .ok (.iconst 1, 1) := by decide +kernel
theorem dX9_has_6 : decode cX9_has 6 = .ok (.if_icmp .ne 7, 3) := by decide +kernel
theorem dX9_has_9 : decode cX9_has 9 = .ok (.iconst 1, 1) := by decide +kernel
theorem dX9_has_10 : decode cX9_has 10 = .ok (.goto 4, 3) := by decide +kernel
theorem dX9_has_13 : decode cX9_has 13 = .ok (.iconst 0, 1) := by decide +kernel
theorem dX9_has_14 : decode cX9_has 14 = .ok (.ireturn, 1) := by decide +kernel
theorem dX9_bits_0 : decode cX9_bits 0 = .ok (.iconst 0, 1) := by decide +kernel
theorem dX9_bits_1 : decode cX9_bits 1 = .ok (.istore_n 1, 1) := by decide +kernel
theorem dX9_bits_2 : decode cX9_bits 2 = .ok (.iload_n 0, 1) := by decide +kernel
theorem dX9_bits_3 : decode cX9_bits 3 = .ok (.istore_n 2, 1) := by decide +kernel
theorem dX9_bits_4 : decode cX9_bits 4 = .ok (.iload_n 2, 1) := by decide +kernel
theorem dX9_bits_5 : decode cX9_bits 5 = .ok (.ifCond .eq 15, 3) := by decide +kernel
theorem dX9_bits_8 : decode cX9_bits 8 = .ok (.iinc 1 1, 3) := by decide +kernel
theorem dX9_bits_11 : decode cX9_bits 11 = .ok (.iload_n 2, 1) := by decide +kernel
theorem dX9_bits_12 : decode cX9_bits 12 = .ok (.iload_n 2, 1) := by decide +kernel
theorem dX9_bits_13 : decode cX9_bits 13 = .ok (.iconst 1, 1) := by decide +kernel
theorem dX9_bits_14 : decode cX9_bits 14 = .ok (.isub, 1) := by decide +kernel
theorem dX9_bits_15 : decode cX9_bits 15 = .ok (.iand, 1) := by decide +kernel
theorem dX9_bits_16 : decode cX9_bits 16 = .ok (.istore_n 2, 1) := by decide +kernel
theorem dX9_bits_17 : decode cX9_bits 17 = .ok (.goto (-13), 3) := by decide +kernel
theorem dX9_bits_20 : decode cX9_bits 20 = .ok (.iload_n 1, 1) := by decide +kernel
theorem dX9_bits_21 : decode cX9_bits 21 = .ok (.ireturn, 1) := by decide +kernel
theorem dX9_bad_0 : decode cX9_bad 0 = .ok (.aload_n 0, 1) := by decide +kernel
theorem dX9_bad_1 : decode cX9_bad 1 = .ok (.getfield 7, 3) := by decide +kernel
theorem dX9_bad_4 : decode cX9_bad 4 = .ok (.iconst 0, 1) := by decide +kernel
theorem dX9_bad_5 : decode cX9_bad 5 = .ok (.dup2, 1) := by decide +kernel
theorem dX9_bad_6 : decode cX9_bad 6 = .ok (.iaload, 1) := by decide +kernel
theorem dX9_bad_7 : decode cX9_bad 7 = .ok (.iconst 1, 1) := by decide +kernel
theorem dX9_bad_8 : decode cX9_bad 8 = .ok (.iadd, 1) := by decide +kernel
theorem dX9_bad_9 : decode cX9_bad 9 = .ok (.iastore, 1) := by decide +kernel
theorem dX9_bad_10 : decode cX9_bad 10 = .ok (.iload_n 1, 1) := by decide +kernel
theorem dX9_bad_11 : decode cX9_bad 11 = .ok (.ireturn, 1) := by decide +kernel
theorem dX9_no_0 : decode cX9_no 0 = .ok (.aload_n 0, 1) := by decide +kernel
theorem dX9_no_1 : decode cX9_no 1 = .ok (.getfield 7, 3) := by decide +kernel
theorem dX9_no_4 : decode cX9_no 4 = .ok (.iconst 1, 1) := by decide +kernel
theorem dX9_no_5 : decode cX9_no 5 = .ok (.dup2, 1) := by decide +kernel
theorem dX9_no_6 : decode cX9_no 6 = .ok (.iaload, 1) := by decide +kernel
theorem dX9_no_7 : decode cX9_no 7 = .ok (.iconst 1, 1) := by decide +kernel
theorem dX9_no_8 : decode cX9_no 8 = .ok (.iadd, 1) := by decide +kernel
theorem dX9_no_9 : decode cX9_no 9 = .ok (.iastore, 1) := by decide +kernel
theorem dX9_no_10 : decode cX9_no 10 = .ok (.bipush (-3), 2) := by decide +kernel
theorem dX9_no_12 : decode cX9_no 12 = .ok (.ireturn, 1) := by decide +kernel
theorem dX9_full_0 : decode cX9_full 0 = .ok (.aload_n 0, 1) := by decide +kernel
theorem dX9_full_1 : decode cX9_full 1 = .ok (.getfield 7, 3) := by decide +kernel
theorem dX9_full_4 : decode cX9_full 4 = .ok (.iconst 2, 1) := by decide +kernel
theorem dX9_full_5 : decode cX9_full 5 = .ok (.dup2, 1) := by decide +kernel
theorem dX9_full_6 : decode cX9_full 6 = .ok (.iaload, 1) := by decide +kernel
theorem dX9_full_7 : decode cX9_full 7 = .ok (.iconst 1, 1) := by decide +kernel
theorem dX9_full_8 : decode cX9_full 8 = .ok (.iadd, 1) := by decide +kernel
theorem dX9_full_9 : decode cX9_full 9 = .ok (.iastore, 1) := by decide +kernel
theorem dX9_full_10 : decode cX9_full 10 = .ok (.bipush (-4), 2) := by decide +kernel
theorem dX9_full_12 : decode cX9_full 12 = .ok (.ireturn, 1) := by decide +kernel
theorem dX9_status_0 : decode cX9_status 0 = .ok (.iload_n 1, 1) := by decide +kernel
theorem dX9_status_1 : decode cX9_status 1 = .ok (.iconst 0, 1) := by decide +kernel
theorem dX9_status_2 : decode cX9_status 2 = .ok (.iconst 2, 1) := by decide +kernel
theorem dX9_status_3 : decode cX9_status 3 = .ok (.invokestatic 57, 3) := by decide +kernel
theorem dX9_status_6 : decode cX9_status 6 = .ok (.ifCond .eq 12, 3) := by decide +kernel
theorem dX9_status_9 : decode cX9_status 9 = .ok (.aload_n 0, 1) := by decide +kernel
theorem dX9_status_10 : decode cX9_status 10 = .ok (.getfield 7, 3) := by decide +kernel
theorem dX9_status_13 : decode cX9_status 13 = .ok (.iload_n 1, 1) := by decide +kernel
theorem dX9_status_14 : decode cX9_status 14 = .ok (.iaload, 1) := by decide +kernel
theorem dX9_status_15 : decode cX9_status 15 = .ok (.goto 8, 3) := by decide +kernel
theorem dX9_status_18 : decode cX9_status 18 = .ok (.aload_n 0, 1) := by decide +kernel
theorem dX9_status_19 : decode cX9_status 19 = .ok (.iconst (-1), 1) := by decide +kernel
theorem dX9_status_20 : decode cX9_status 20 = .ok (.invokevirtual 61, 3) := by decide +kernel
theorem dX9_status_23 : decode cX9_status 23 = .ok (.ireturn, 1) := by decide +kernel
theorem dX9_part_0 : decode cX9_part 0 = .ok (.iload_n 1, 1) := by decide +kernel
theorem dX9_part_1 : decode cX9_part 1 = .ok (.ifCond .ne 10, 3) := by decide +kernel
theorem dX9_part_4 : decode cX9_part 4 = .ok (.aload_n 0, 1) := by decide +kernel
theorem dX9_part_5 : decode cX9_part 5 = .ok (.getfield 65, 3) := by decide +kernel
theorem dX9_part_8 : decode cX9_part 8 = .ok (.goto 22, 3) := by decide +kernel
theorem dX9_part_11 : decode cX9_part 11 = .ok (.iload_n 1, 1) := by decide +kernel
theorem dX9_part_12 : decode cX9_part 12 = .ok (.iconst 1, 1) := by decide +kernel
theorem dX9_part_13 : decode cX9_part 13 = .ok (.if_icmp .ne 10, 3) := by decide +kernel
theorem dX9_part_16 : decode cX9_part 16 = .ok (.aload_n 0, 1) := by decide +kernel
theorem dX9_part_17 : decode cX9_part 17 = .ok (.getfield 13, 3) := by decide +kernel
theorem dX9_part_20 : decode cX9_part 20 = .ok (.goto 10, 3) := by decide +kernel
theorem dX9_part_23 : decode cX9_part 23 = .ok (.aload_n 0, 1) := by decide +kernel
theorem dX9_part_24 : decode cX9_part 24 = .ok (.bipush (-2), 2) := by decide +kernel
theorem dX9_part_26 : decode cX9_part 26 = .ok (.invokevirtual 61, 3) := by decide +kernel
theorem dX9_part_29 : decode cX9_part 29 = .ok (.i2l, 1) := by decide +kernel
theorem dX9_part_30 : decode cX9_part 30 = .ok (.lreturn, 1) := by decide +kernel
theorem dX9_forceBy_0 : decode cX9_forceBy 0 = .ok (.iload_n 1, 1) := by decide +kernel
theorem dX9_forceBy_1 : decode cX9_forceBy 1 = .ok (.iload_n 2, 1) := by decide +kernel
theorem dX9_forceBy_2 : decode cX9_forceBy 2 = .ok (.iadd, 1) := by decide +kernel
theorem dX9_forceBy_3 : decode cX9_forceBy 3 = .ok (.istore 4, 2) := by decide +kernel
theorem dX9_forceBy_5 : decode cX9_forceBy 5 = .ok (.iload_n 3, 1) := by decide +kernel
theorem dX9_forceBy_6 : decode cX9_forceBy 6 = .ok (.iconst 3, 1) := by decide +kernel
theorem dX9_forceBy_7 : decode cX9_forceBy 7 = .ok (.irem, 1) := by decide +kernel
theorem dX9_forceBy_8 : decode cX9_forceBy 8 = .ok (.iconst 2, 1) := by decide +kernel
theorem dX9_forceBy_9 : decode cX9_forceBy 9 = .ok (.if_icmp .ne 10, 3) := by decide +kernel
theorem dX9_forceBy_12 : decode cX9_forceBy 12 = .ok (.iload 4, 2) := by decide +kernel
theorem dX9_forceBy_14 : decode cX9_forceBy 14 = .ok (.iconst 4, 1) := by decide +kernel
theorem dX9_forceBy_15 : decode cX9_forceBy 15 = .ok (.iadd, 1) := by decide +kernel
theorem dX9_forceBy_16 : decode cX9_forceBy 16 = .ok (.goto 5, 3) := by decide +kernel
theorem dX9_forceBy_19 : decode cX9_forceBy 19 = .ok (.iload 4, 2) := by decide +kernel
theorem dX9_forceBy_21 : decode cX9_forceBy 21 = .ok (.istore 5, 2) := by decide +kernel
theorem dX9_forceBy_23 : decode cX9_forceBy 23 = .ok (.iload_n 0, 1) := by decide +kernel
theorem dX9_forceBy_24 : decode cX9_forceBy 24 = .ok (.tableswitch 93 1 5 #[36, 41, 44, 69, 76], 36) := by decide +kernel
theorem dX9_forceBy_60 : decode cX9_forceBy 60 = .ok (.iload 4, 2) := by decide +kernel
theorem dX9_forceBy_62 : decode cX9_forceBy 62 = .ok (.iconst 3, 1) := by decide +kernel
theorem dX9_forceBy_63 : decode cX9_forceBy 63 = .ok (.iadd, 1) := by decide +kernel
theorem dX9_forceBy_64 : decode cX9_forceBy 64 = .ok (.ireturn, 1) := by decide +kernel
theorem dX9_forceBy_65 : decode cX9_forceBy 65 = .ok (.iload 5, 2) := by decide +kernel
theorem dX9_forceBy_67 : decode cX9_forceBy 67 = .ok (.ireturn, 1) := by decide +kernel
theorem dX9_forceBy_68 : decode cX9_forceBy 68 = .ok (.iload 4, 2) := by decide +kernel
theorem dX9_forceBy_70 : decode cX9_forceBy 70 = .ok (.iconst 3, 1) := by decide +kernel
theorem dX9_forceBy_71 : decode cX9_forceBy 71 = .ok (.iadd, 1) := by decide +kernel
theorem dX9_forceBy_72 : decode cX9_forceBy 72 = .ok (.iload_n 3, 1) := by decide +kernel
theorem dX9_forceBy_73 : decode cX9_forceBy 73 = .ok (.iconst 5, 1) := by decide +kernel
theorem dX9_forceBy_74 : decode cX9_forceBy 74 = .ok (.idiv, 1) := by decide +kernel
theorem dX9_forceBy_75 : decode cX9_forceBy 75 = .ok (.isub, 1) := by decide +kernel
theorem dX9_forceBy_76 : decode cX9_forceBy 76 = .ok (.iconst 1, 1) := by decide +kernel
theorem dX9_forceBy_77 : decode cX9_forceBy 77 = .ok (.if_icmp .le 14, 3) := by decide +kernel
theorem dX9_forceBy_80 : decode cX9_forceBy 80 = .ok (.iload 4, 2) := by decide +kernel
theorem dX9_forceBy_82 : decode cX9_forceBy 82 = .ok (.iconst 3, 1) := by decide +kernel
theorem dX9_forceBy_83 : decode cX9_forceBy 83 = .ok (.iadd, 1) := by decide +kernel
theorem dX9_forceBy_84 : decode cX9_forceBy 84 = .ok (.iload_n 3, 1) := by decide +kernel
theorem dX9_forceBy_85 : decode cX9_forceBy 85 = .ok (.iconst 5, 1) := by decide +kernel
theorem dX9_forceBy_86 : decode cX9_forceBy 86 = .ok (.idiv, 1) := by decide +kernel
theorem dX9_forceBy_87 : decode cX9_forceBy 87 = .ok (.isub, 1) := by decide +kernel
theorem dX9_forceBy_88 : decode cX9_forceBy 88 = .ok (.goto 4, 3) := by decide +kernel
theorem dX9_forceBy_91 : decode cX9_forceBy 91 = .ok (.iconst 1, 1) := by decide +kernel
theorem dX9_forceBy_92 : decode cX9_forceBy 92 = .ok (.ireturn, 1) := by decide +kernel
theorem dX9_forceBy_93 : decode cX9_forceBy 93 = .ok (.iload 4, 2) := by decide +kernel
theorem dX9_forceBy_95 : decode cX9_forceBy 95 = .ok (.iconst 1, 1) := by decide +kernel
theorem dX9_forceBy_96 : decode cX9_forceBy 96 = .ok (.iadd, 1) := by decide +kernel
theorem dX9_forceBy_97 : decode cX9_forceBy 97 = .ok (.iconst 2, 1) := by decide +kernel
theorem dX9_forceBy_98 : decode cX9_forceBy 98 = .ok (.idiv, 1) := by decide +kernel
theorem dX9_forceBy_99 : decode cX9_forceBy 99 = .ok (.ireturn, 1) := by decide +kernel
theorem dX9_forceBy_100 : decode cX9_forceBy 100 = .ok (.iload_n 3, 1) := by decide +kernel
theorem dX9_forceBy_101 : decode cX9_forceBy 101 = .ok (.bipush 7, 2) := by decide +kernel
theorem dX9_forceBy_103 : decode cX9_forceBy 103 = .ok (.irem, 1) := by decide +kernel
theorem dX9_forceBy_104 : decode cX9_forceBy 104 = .ok (.ifCond .ne 10, 3) := by decide +kernel
theorem dX9_forceBy_107 : decode cX9_forceBy 107 = .ok (.iconst 2, 1) := by decide +kernel
theorem dX9_forceBy_108 : decode cX9_forceBy 108 = .ok (.iload 5, 2) := by decide +kernel
theorem dX9_forceBy_110 : decode cX9_forceBy 110 = .ok (.imul, 1) := by decide +kernel
theorem dX9_forceBy_111 : decode cX9_forceBy 111 = .ok (.goto 5, 3) := by decide +kernel
theorem dX9_forceBy_114 : decode cX9_forceBy 114 = .ok (.iload 5, 2) := by decide +kernel
theorem dX9_forceBy_116 : decode cX9_forceBy 116 = .ok (.ireturn, 1) := by decide +kernel
theorem dX9_forceBy_117 : decode cX9_forceBy 117 = .ok (.iload 4, 2) := by decide +kernel
theorem dX9_forceBy_119 : decode cX9_forceBy 119 = .ok (.ireturn, 1) := by decide +kernel
theorem dX9_cracksBy_0 : decode cX9_cracksBy 0 = .ok (.iload_n 3, 1) := by decide +kernel
theorem dX9_cracksBy_1 : decode cX9_cracksBy 1 = .ok (.iload_n 1, 1) := by decide +kernel
theorem dX9_cracksBy_2 : decode cX9_cracksBy 2 = .ok (.if_icmp .le 9, 3) := by decide +kernel
theorem dX9_cracksBy_5 : decode cX9_cracksBy 5 = .ok (.iload_n 3, 1) := by decide +kernel
theorem dX9_cracksBy_6 : decode cX9_cracksBy 6 = .ok (.iload_n 1, 1) := by decide +kernel
theorem dX9_cracksBy_7 : decode cX9_cracksBy 7 = .ok (.isub, 1) := by decide +kernel
theorem dX9_cracksBy_8 : decode cX9_cracksBy 8 = .ok (.goto 4, 3) := by decide +kernel
theorem dX9_cracksBy_11 : decode cX9_cracksBy 11 = .ok (.iconst 0, 1) := by decide +kernel
theorem dX9_cracksBy_12 : decode cX9_cracksBy 12 = .ok (.istore 5, 2) := by decide +kernel
theorem dX9_cracksBy_14 : decode cX9_cracksBy 14 = .ok (.iload_n 3, 1) := by decide +kernel
theorem dX9_cracksBy_15 : decode cX9_cracksBy 15 = .ok (.iload_n 1, 1) := by decide +kernel
theorem dX9_cracksBy_16 : decode cX9_cracksBy 16 = .ok (.if_icmp .le 10, 3) := by decide +kernel
theorem dX9_cracksBy_19 : decode cX9_cracksBy 19 = .ok (.iload 5, 2) := by decide +kernel
theorem dX9_cracksBy_21 : decode cX9_cracksBy 21 = .ok (.iconst 2, 1) := by decide +kernel
theorem dX9_cracksBy_22 : decode cX9_cracksBy 22 = .ok (.iadd, 1) := by decide +kernel
theorem dX9_cracksBy_23 : decode cX9_cracksBy 23 = .ok (.goto 5, 3) := by decide +kernel
theorem dX9_cracksBy_26 : decode cX9_cracksBy 26 = .ok (.iload 5, 2) := by decide +kernel
theorem dX9_cracksBy_28 : decode cX9_cracksBy 28 = .ok (.istore 6, 2) := by decide +kernel
theorem dX9_cracksBy_30 : decode cX9_cracksBy 30 = .ok (.iload_n 0, 1) := by decide +kernel
theorem dX9_cracksBy_31 : decode cX9_cracksBy 31 = .ok (.tableswitch 95 1 5 #[33, 38, 41, 58, 72], 33) := by decide +kernel
theorem dX9_cracksBy_64 : decode cX9_cracksBy 64 = .ok (.iload 5, 2) := by decide +kernel
theorem dX9_cracksBy_66 : decode cX9_cracksBy 66 = .ok (.iconst 2, 1) := by decide +kernel
theorem dX9_cracksBy_67 : decode cX9_cracksBy 67 = .ok (.idiv, 1) := by decide +kernel
theorem dX9_cracksBy_68 : decode cX9_cracksBy 68 = .ok (.ireturn, 1) := by decide +kernel
theorem dX9_cracksBy_69 : decode cX9_cracksBy 69 = .ok (.iload 6, 2) := by decide +kernel
theorem dX9_cracksBy_71 : decode cX9_cracksBy 71 = .ok (.ireturn, 1) := by decide +kernel
theorem dX9_cracksBy_72 : decode cX9_cracksBy 72 = .ok (.iload 5, 2) := by decide +kernel
theorem dX9_cracksBy_74 : decode cX9_cracksBy 74 = .ok (.iconst 2, 1) := by decide +kernel
theorem dX9_cracksBy_75 : decode cX9_cracksBy 75 = .ok (.idiv, 1) := by decide +kernel
theorem dX9_cracksBy_76 : decode cX9_cracksBy 76 = .ok (.iconst 2, 1) := by decide +kernel
theorem dX9_cracksBy_77 : decode cX9_cracksBy 77 = .ok (.if_icmp .le 7, 3) := by decide +kernel
theorem dX9_cracksBy_80 : decode cX9_cracksBy 80 = .ok (.iconst 2, 1) := by decide +kernel
theorem dX9_cracksBy_81 : decode cX9_cracksBy 81 = .ok (.goto 7, 3) := by decide +kernel
theorem dX9_cracksBy_84 : decode cX9_cracksBy 84 = .ok (.iload 5, 2) := by decide +kernel
theorem dX9_cracksBy_86 : decode cX9_cracksBy 86 = .ok (.iconst 2, 1) := by decide +kernel
theorem dX9_cracksBy_87 : decode cX9_cracksBy 87 = .ok (.idiv, 1) := by decide +kernel
theorem dX9_cracksBy_88 : decode cX9_cracksBy 88 = .ok (.ireturn, 1) := by decide +kernel
theorem dX9_cracksBy_89 : decode cX9_cracksBy 89 = .ok (.iload 6, 2) := by decide +kernel
theorem dX9_cracksBy_91 : decode cX9_cracksBy 91 = .ok (.ifCond .ne 7, 3) := by decide +kernel
theorem dX9_cracksBy_94 : decode cX9_cracksBy 94 = .ok (.iconst 0, 1) := by decide +kernel
theorem dX9_cracksBy_95 : decode cX9_cracksBy 95 = .ok (.goto 7, 3) := by decide +kernel
theorem dX9_cracksBy_98 : decode cX9_cracksBy 98 = .ok (.iload 6, 2) := by decide +kernel
theorem dX9_cracksBy_100 : decode cX9_cracksBy 100 = .ok (.iload_n 2, 1) := by decide +kernel
theorem dX9_cracksBy_101 : decode cX9_cracksBy 101 = .ok (.iadd, 1) := by decide +kernel
theorem dX9_cracksBy_102 : decode cX9_cracksBy 102 = .ok (.ireturn, 1) := by decide +kernel
theorem dX9_cracksBy_103 : decode cX9_cracksBy 103 = .ok (.iload 4, 2) := by decide +kernel
theorem dX9_cracksBy_105 : decode cX9_cracksBy 105 = .ok (.iconst 2, 1) := by decide +kernel
theorem dX9_cracksBy_106 : decode cX9_cracksBy 106 = .ok (.irem, 1) := by decide +kernel
theorem dX9_cracksBy_107 : decode cX9_cracksBy 107 = .ok (.iconst 1, 1) := by decide +kernel
theorem dX9_cracksBy_108 : decode cX9_cracksBy 108 = .ok (.if_icmp .ne 15, 3) := by decide +kernel
theorem dX9_cracksBy_111 : decode cX9_cracksBy 111 = .ok (.iload 5, 2) := by decide +kernel
theorem dX9_cracksBy_113 : decode cX9_cracksBy 113 = .ok (.ifCond .le 10, 3) := by decide +kernel
theorem dX9_cracksBy_116 : decode cX9_cracksBy 116 = .ok (.iload 5, 2) := by decide +kernel
theorem dX9_cracksBy_118 : decode cX9_cracksBy 118 = .ok (.iconst 1, 1) := by decide +kernel
theorem dX9_cracksBy_119 : decode cX9_cracksBy 119 = .ok (.isub, 1) := by decide +kernel
theorem dX9_cracksBy_120 : decode cX9_cracksBy 120 = .ok (.goto 5, 3) := by decide +kernel
theorem dX9_cracksBy_123 : decode cX9_cracksBy 123 = .ok (.iload 5, 2) := by decide +kernel
theorem dX9_cracksBy_125 : decode cX9_cracksBy 125 = .ok (.ireturn, 1) := by decide +kernel
theorem dX9_cracksBy_126 : decode cX9_cracksBy 126 = .ok (.iload 5, 2) := by decide +kernel
theorem dX9_cracksBy_128 : decode cX9_cracksBy 128 = .ok (.ireturn, 1) := by decide +kernel
theorem dX9_copies_0 : decode cX9_copies 0 = .ok (.iconst 0, 1) := by decide +kernel
theorem dX9_copies_1 : decode cX9_copies 1 = .ok (.istore_n 2, 1) := by decide +kernel
theorem dX9_copies_2 : decode cX9_copies 2 = .ok (.iload_n 2, 1) := by decide +kernel
theorem dX9_copies_3 : decode cX9_copies 3 = .ok (.bipush 45, 2) := by decide +kernel
theorem dX9_copies_5 : decode cX9_copies 5 = .ok (.if_icmp .ge 15, 3) := by decide +kernel
theorem dX9_copies_8 : decode cX9_copies 8 = .ok (.aload_n 1, 1) := by decide +kernel
theorem dX9_copies_9 : decode cX9_copies 9 = .ok (.iload_n 2, 1) := by decide +kernel
theorem dX9_copies_10 : decode cX9_copies 10 = .ok (.aload_n 0, 1) := by decide +kernel
theorem dX9_copies_11 : decode cX9_copies 11 = .ok (.iload_n 2, 1) := by decide +kernel
theorem dX9_copies_12 : decode cX9_copies 12 = .ok (.iaload, 1) := by decide +kernel
theorem dX9_copies_13 : decode cX9_copies 13 = .ok (.iastore, 1) := by decide +kernel
theorem dX9_copies_14 : decode cX9_copies 14 = .ok (.iinc 2 1, 3) := by decide +kernel
theorem dX9_copies_17 : decode cX9_copies 17 = .ok (.goto (-15), 3) := by decide +kernel
theorem dX9_copies_20 : decode cX9_copies 20 = .ok (.return_, 1) := by decide +kernel
theorem dX9_isNut_0 : decode cX9_isNut 0 = .ok (.iload_n 1, 1) := by decide +kernel
theorem dX9_isNut_1 : decode cX9_isNut 1 = .ok (.iconst 0, 1) := by decide +kernel
theorem dX9_isNut_2 : decode cX9_isNut 2 = .ok (.aload_n 0, 1) := by decide +kernel
theorem dX9_isNut_3 : decode cX9_isNut 3 = .ok (.iconst 2, 1) := by decide +kernel
theorem dX9_isNut_4 : decode cX9_isNut 4 = .ok (.iaload, 1) := by decide +kernel
theorem dX9_isNut_5 : decode cX9_isNut 5 = .ok (.iconst 1, 1) := by decide +kernel
theorem dX9_isNut_6 : decode cX9_isNut 6 = .ok (.isub, 1) := by decide +kernel
theorem dX9_isNut_7 : decode cX9_isNut 7 = .ok (.invokestatic 57, 3) := by decide +kernel
theorem dX9_isNut_10 : decode cX9_isNut 10 = .ok (.ireturn, 1) := by decide +kernel
theorem dX9_isBroken_0 : decode cX9_isBroken 0 = .ok (.aload_n 0, 1) := by decide +kernel
theorem dX9_isBroken_1 : decode cX9_isBroken 1 = .ok (.bipush 33, 2) := by decide +kernel
theorem dX9_isBroken_3 : decode cX9_isBroken 3 = .ok (.iload_n 1, 1) := by decide +kernel
theorem dX9_isBroken_4 : decode cX9_isBroken 4 = .ok (.iadd, 1) := by decide +kernel
theorem dX9_isBroken_5 : decode cX9_isBroken 5 = .ok (.iaload, 1) := by decide +kernel
theorem dX9_isBroken_6 : decode cX9_isBroken 6 = .ok (.bipush 10, 2) := by decide +kernel
theorem dX9_isBroken_8 : decode cX9_isBroken 8 = .ok (.if_icmp .lt 7, 3) := by decide +kernel
theorem dX9_isBroken_11 : decode cX9_isBroken 11 = .ok (.iconst 1, 1) := by decide +kernel
theorem dX9_isBroken_12 : decode cX9_isBroken 12 = .ok (.goto 4, 3) := by decide +kernel
theorem dX9_isBroken_15 : decode cX9_isBroken 15 = .ok (.iconst 0, 1) := by decide +kernel
theorem dX9_isBroken_16 : decode cX9_isBroken 16 = .ok (.ireturn, 1) := by decide +kernel
theorem dX9_canStrike_0 : decode cX9_canStrike 0 = .ok (.aload_n 0, 1) := by decide +kernel
theorem dX9_canStrike_1 : decode cX9_canStrike 1 = .ok (.iload_n 1, 1) := by decide +kernel
theorem dX9_canStrike_2 : decode cX9_canStrike 2 = .ok (.invokestatic 68, 3) := by decide +kernel
theorem dX9_canStrike_5 : decode cX9_canStrike 5 = .ok (.ifCond .eq 46, 3) := by decide +kernel
theorem dX9_canStrike_8 : decode cX9_canStrike 8 = .ok (.aload_n 0, 1) := by decide +kernel
theorem dX9_canStrike_9 : decode cX9_canStrike 9 = .ok (.iload_n 2, 1) := by decide +kernel
theorem dX9_canStrike_10 : decode cX9_canStrike 10 = .ok (.invokestatic 68, 3) := by decide +kernel
theorem dX9_canStrike_13 : decode cX9_canStrike 13 = .ok (.ifCond .eq 38, 3) := by decide +kernel
theorem dX9_canStrike_16 : decode cX9_canStrike 16 = .ok (.aload_n 0, 1) := by decide +kernel
theorem dX9_canStrike_17 : decode cX9_canStrike 17 = .ok (.bipush 9, 2) := by decide +kernel
theorem dX9_canStrike_19 : decode cX9_canStrike 19 = .ok (.iload_n 1, 1) := by decide +kernel
theorem dX9_canStrike_20 : decode cX9_canStrike 20 = .ok (.iadd, 1) := by decide +kernel
theorem dX9_canStrike_21 : decode cX9_canStrike 21 = .ok (.iaload, 1) := by decide +kernel
theorem dX9_canStrike_22 : decode cX9_canStrike 22 = .ok (.aload_n 0, 1) := by decide +kernel
theorem dX9_canStrike_23 : decode cX9_canStrike 23 = .ok (.bipush 9, 2) := by decide +kernel
theorem dX9_canStrike_25 : decode cX9_canStrike 25 = .ok (.iload_n 2, 1) := by decide +kernel
theorem dX9_canStrike_26 : decode cX9_canStrike 26 = .ok (.iadd, 1) := by decide +kernel
theorem dX9_canStrike_27 : decode cX9_canStrike 27 = .ok (.iaload, 1) := by decide +kernel
theorem dX9_canStrike_28 : decode cX9_canStrike 28 = .ok (.if_icmp .eq 23, 3) := by decide +kernel
theorem dX9_canStrike_31 : decode cX9_canStrike 31 = .ok (.aload_n 0, 1) := by decide +kernel
theorem dX9_canStrike_32 : decode cX9_canStrike 32 = .ok (.iload_n 1, 1) := by decide +kernel
theorem dX9_canStrike_33 : decode cX9_canStrike 33 = .ok (.invokestatic 72, 3) := by decide +kernel
theorem dX9_canStrike_36 : decode cX9_canStrike 36 = .ok (.ifCond .ne 15, 3) := by decide +kernel
theorem dX9_canStrike_39 : decode cX9_canStrike 39 = .ok (.aload_n 0, 1) := by decide +kernel
theorem dX9_canStrike_40 : decode cX9_canStrike 40 = .ok (.iload_n 2, 1) := by decide +kernel
theorem dX9_canStrike_41 : decode cX9_canStrike 41 = .ok (.invokestatic 72, 3) := by decide +kernel
theorem dX9_canStrike_44 : decode cX9_canStrike 44 = .ok (.ifCond .ne 7, 3) := by decide +kernel
theorem dX9_canStrike_47 : decode cX9_canStrike 47 = .ok (.iconst 1, 1) := by decide +kernel
theorem dX9_canStrike_48 : decode cX9_canStrike 48 = .ok (.goto 4, 3) := by decide +kernel
theorem dX9_canStrike_51 : decode cX9_canStrike 51 = .ok (.iconst 0, 1) := by decide +kernel
theorem dX9_canStrike_52 : decode cX9_canStrike 52 = .ok (.ireturn, 1) := by decide +kernel
theorem dX9_nextNumber_0 : decode cX9_nextNumber 0 = .ok (.aload_n 0, 1) := by decide +kernel
theorem dX9_nextNumber_1 : decode cX9_nextNumber 1 = .ok (.iconst 0, 1) := by decide +kernel
theorem dX9_nextNumber_2 : decode cX9_nextNumber 2 = .ok (.iaload, 1) := by decide +kernel
theorem dX9_nextNumber_3 : decode cX9_nextNumber 3 = .ok (.sipush 9999, 3) := by decide +kernel
theorem dX9_nextNumber_6 : decode cX9_nextNumber 6 = .ok (.if_icmp .ge 11, 3) := by decide +kernel
theorem dX9_nextNumber_9 : decode cX9_nextNumber 9 = .ok (.aload_n 0, 1) := by decide +kernel
theorem dX9_nextNumber_10 : decode cX9_nextNumber 10 = .ok (.iconst 0, 1) := by decide +kernel
theorem dX9_nextNumber_11 : decode cX9_nextNumber 11 = .ok (.iaload, 1) := by decide +kernel
theorem dX9_nextNumber_12 : decode cX9_nextNumber 12 = .ok (.iconst 1, 1) := by decide +kernel
theorem dX9_nextNumber_13 : decode cX9_nextNumber 13 = .ok (.iadd, 1) := by decide +kernel
theorem dX9_nextNumber_14 : decode cX9_nextNumber 14 = .ok (.goto 6, 3) := by decide +kernel
theorem dX9_nextNumber_17 : decode cX9_nextNumber 17 = .ok (.sipush 9999, 3) := by decide +kernel
theorem dX9_nextNumber_20 : decode cX9_nextNumber 20 = .ok (.ireturn, 1) := by decide +kernel
theorem dX9_forceOf_0 : decode cX9_forceOf 0 = .ok (.aload_n 0, 1) := by decide +kernel
theorem dX9_forceOf_1 : decode cX9_forceOf 1 = .ok (.bipush 9, 2) := by decide +kernel
theorem dX9_forceOf_3 : decode cX9_forceOf 3 = .ok (.iload_n 1, 1) := by decide +kernel
theorem dX9_forceOf_4 : decode cX9_forceOf 4 = .ok (.iadd, 1) := by decide +kernel
theorem dX9_forceOf_5 : decode cX9_forceOf 5 = .ok (.iaload, 1) := by decide +kernel
theorem dX9_forceOf_6 : decode cX9_forceOf 6 = .ok (.istore_n 3, 1) := by decide +kernel
theorem dX9_forceOf_7 : decode cX9_forceOf 7 = .ok (.aload_n 0, 1) := by decide +kernel
theorem dX9_forceOf_8 : decode cX9_forceOf 8 = .ok (.iconst 3, 1) := by decide +kernel
theorem dX9_forceOf_9 : decode cX9_forceOf 9 = .ok (.iload_n 3, 1) := by decide +kernel
theorem dX9_forceOf_10 : decode cX9_forceOf 10 = .ok (.iadd, 1) := by decide +kernel
theorem dX9_forceOf_11 : decode cX9_forceOf 11 = .ok (.iaload, 1) := by decide +kernel
theorem dX9_forceOf_12 : decode cX9_forceOf 12 = .ok (.aload_n 0, 1) := by decide +kernel
theorem dX9_forceOf_13 : decode cX9_forceOf 13 = .ok (.bipush 6, 2) := by decide +kernel
theorem dX9_forceOf_15 : decode cX9_forceOf 15 = .ok (.iload_n 3, 1) := by decide +kernel
theorem dX9_forceOf_16 : decode cX9_forceOf 16 = .ok (.iadd, 1) := by decide +kernel
theorem dX9_forceOf_17 : decode cX9_forceOf 17 = .ok (.iaload, 1) := by decide +kernel
theorem dX9_forceOf_18 : decode cX9_forceOf 18 = .ok (.aload_n 0, 1) := by decide +kernel
theorem dX9_forceOf_19 : decode cX9_forceOf 19 = .ok (.bipush 27, 2) := by decide +kernel
theorem dX9_forceOf_21 : decode cX9_forceOf 21 = .ok (.iload_n 1, 1) := by decide +kernel
theorem dX9_forceOf_22 : decode cX9_forceOf 22 = .ok (.iadd, 1) := by decide +kernel
theorem dX9_forceOf_23 : decode cX9_forceOf 23 = .ok (.iaload, 1) := by decide +kernel
theorem dX9_forceOf_24 : decode cX9_forceOf 24 = .ok (.iload_n 2, 1) := by decide +kernel
theorem dX9_forceOf_25 : decode cX9_forceOf 25 = .ok (.invokestatic 75, 3) := by decide +kernel
theorem dX9_forceOf_28 : decode cX9_forceOf 28 = .ok (.ireturn, 1) := by decide +kernel
theorem dX9_cracked_0 : decode cX9_cracked 0 = .ok (.aload_n 0, 1) := by decide +kernel
theorem dX9_cracked_1 : decode cX9_cracked 1 = .ok (.bipush 33, 2) := by decide +kernel
theorem dX9_cracked_3 : decode cX9_cracked 3 = .ok (.iload_n 1, 1) := by decide +kernel
theorem dX9_cracked_4 : decode cX9_cracked 4 = .ok (.iadd, 1) := by decide +kernel
theorem dX9_cracked_5 : decode cX9_cracked 5 = .ok (.iaload, 1) := by decide +kernel
theorem dX9_cracked_6 : decode cX9_cracked 6 = .ok (.istore 4, 2) := by decide +kernel
theorem dX9_cracked_8 : decode cX9_cracked 8 = .ok (.iload 4, 2) := by decide +kernel
theorem dX9_cracked_10 : decode cX9_cracked 10 = .ok (.aload_n 0, 1) := by decide +kernel
theorem dX9_cracked_11 : decode cX9_cracked 11 = .ok (.bipush 15, 2) := by decide +kernel
theorem dX9_cracked_13 : decode cX9_cracked 13 = .ok (.iload_n 1, 1) := by decide +kernel
theorem dX9_cracked_14 : decode cX9_cracked 14 = .ok (.iadd, 1) := by decide +kernel
theorem dX9_cracked_15 : decode cX9_cracked 15 = .ok (.iaload, 1) := by decide +kernel
theorem dX9_cracked_16 : decode cX9_cracked 16 = .ok (.aload_n 0, 1) := by decide +kernel
theorem dX9_cracked_17 : decode cX9_cracked 17 = .ok (.bipush 21, 2) := by decide +kernel
theorem dX9_cracked_19 : decode cX9_cracked 19 = .ok (.iload_n 1, 1) := by decide +kernel
theorem dX9_cracked_20 : decode cX9_cracked 20 = .ok (.iadd, 1) := by decide +kernel
theorem dX9_cracked_21 : decode cX9_cracked 21 = .ok (.iaload, 1) := by decide +kernel
theorem dX9_cracked_22 : decode cX9_cracked 22 = .ok (.iload 4, 2) := by decide +kernel
theorem dX9_cracked_24 : decode cX9_cracked 24 = .ok (.iload_n 2, 1) := by decide +kernel
theorem dX9_cracked_25 : decode cX9_cracked 25 = .ok (.iload_n 3, 1) := by decide +kernel
theorem dX9_cracked_26 : decode cX9_cracked 26 = .ok (.invokestatic 79, 3) := by decide +kernel
theorem dX9_cracked_29 : decode cX9_cracked 29 = .ok (.iadd, 1) := by decide +kernel
theorem dX9_cracked_30 : decode cX9_cracked 30 = .ok (.istore 5, 2) := by decide +kernel
theorem dX9_cracked_32 : decode cX9_cracked 32 = .ok (.iload 5, 2) := by decide +kernel
theorem dX9_cracked_34 : decode cX9_cracked 34 = .ok (.bipush 10, 2) := by decide +kernel
theorem dX9_cracked_36 : decode cX9_cracked 36 = .ok (.if_icmp .le 8, 3) := by decide +kernel
theorem dX9_cracked_39 : decode cX9_cracked 39 = .ok (.bipush 10, 2) := by decide +kernel
theorem dX9_cracked_41 : decode cX9_cracked 41 = .ok (.goto 5, 3) := by decide +kernel
theorem dX9_cracked_44 : decode cX9_cracked 44 = .ok (.iload 5, 2) := by decide +kernel
theorem dX9_cracked_46 : decode cX9_cracked 46 = .ok (.ireturn, 1) := by decide +kernel
theorem dX9_scores_0 : decode cX9_scores 0 = .ok (.aload_n 0, 1) := by decide +kernel
theorem dX9_scores_1 : decode cX9_scores 1 = .ok (.bipush 39, 2) := by decide +kernel
theorem dX9_scores_3 : decode cX9_scores 3 = .ok (.iload_n 1, 1) := by decide +kernel
theorem dX9_scores_4 : decode cX9_scores 4 = .ok (.iadd, 1) := by decide +kernel
theorem dX9_scores_5 : decode cX9_scores 5 = .ok (.iaload, 1) := by decide +kernel
theorem dX9_scores_6 : decode cX9_scores 6 = .ok (.aload_n 0, 1) := by decide +kernel
theorem dX9_scores_7 : decode cX9_scores 7 = .ok (.bipush 39, 2) := by decide +kernel
theorem dX9_scores_9 : decode cX9_scores 9 = .ok (.iload_n 2, 1) := by decide +kernel
theorem dX9_scores_10 : decode cX9_scores 10 = .ok (.iadd, 1) := by decide +kernel
theorem dX9_scores_11 : decode cX9_scores 11 = .ok (.iaload, 1) := by decide +kernel
theorem dX9_scores_12 : decode cX9_scores 12 = .ok (.iadd, 1) := by decide +kernel
theorem dX9_scores_13 : decode cX9_scores 13 = .ok (.istore_n 3, 1) := by decide +kernel
theorem dX9_scores_14 : decode cX9_scores 14 = .ok (.aload_n 0, 1) := by decide +kernel
theorem dX9_scores_15 : decode cX9_scores 15 = .ok (.bipush 39, 2) := by decide +kernel
theorem dX9_scores_17 : decode cX9_scores 17 = .ok (.iload_n 1, 1) := by decide +kernel
theorem dX9_scores_18 : decode cX9_scores 18 = .ok (.iadd, 1) := by decide +kernel
theorem dX9_scores_19 : decode cX9_scores 19 = .ok (.iload_n 3, 1) := by decide +kernel
theorem dX9_scores_20 : decode cX9_scores 20 = .ok (.sipush 999, 3) := by decide +kernel
theorem dX9_scores_23 : decode cX9_scores 23 = .ok (.if_icmp .le 9, 3) := by decide +kernel
theorem dX9_scores_26 : decode cX9_scores 26 = .ok (.sipush 999, 3) := by decide +kernel
theorem dX9_scores_29 : decode cX9_scores 29 = .ok (.goto 4, 3) := by decide +kernel
theorem dX9_scores_32 : decode cX9_scores 32 = .ok (.iload_n 3, 1) := by decide +kernel
theorem dX9_scores_33 : decode cX9_scores 33 = .ok (.iastore, 1) := by decide +kernel
theorem dX9_scores_34 : decode cX9_scores 34 = .ok (.return_, 1) := by decide +kernel
theorem dX9_struck_0 : decode cX9_struck 0 = .ok (.aload_n 0, 1) := by decide +kernel
theorem dX9_struck_1 : decode cX9_struck 1 = .ok (.invokestatic 83, 3) := by decide +kernel
theorem dX9_struck_4 : decode cX9_struck 4 = .ok (.istore_n 3, 1) := by decide +kernel
theorem dX9_struck_5 : decode cX9_struck 5 = .ok (.aload_n 0, 1) := by decide +kernel
theorem dX9_struck_6 : decode cX9_struck 6 = .ok (.iconst 0, 1) := by decide +kernel
theorem dX9_struck_7 : decode cX9_struck 7 = .ok (.iload_n 3, 1) := by decide +kernel
theorem dX9_struck_8 : decode cX9_struck 8 = .ok (.iastore, 1) := by decide +kernel
theorem dX9_struck_9 : decode cX9_struck 9 = .ok (.aload_n 0, 1) := by decide +kernel
theorem dX9_struck_10 : decode cX9_struck 10 = .ok (.iload_n 1, 1) := by decide +kernel
theorem dX9_struck_11 : decode cX9_struck 11 = .ok (.iload_n 3, 1) := by decide +kernel
theorem dX9_struck_12 : decode cX9_struck 12 = .ok (.invokestatic 87, 3) := by decide +kernel
theorem dX9_struck_15 : decode cX9_struck 15 = .ok (.istore 4, 2) := by decide +kernel
theorem dX9_struck_17 : decode cX9_struck 17 = .ok (.aload_n 0, 1) := by decide +kernel
theorem dX9_struck_18 : decode cX9_struck 18 = .ok (.iload_n 1, 1) := by decide +kernel
theorem dX9_struck_19 : decode cX9_struck 19 = .ok (.iload 4, 2) := by decide +kernel
theorem dX9_struck_21 : decode cX9_struck 21 = .ok (.iconst 2, 1) := by decide +kernel
theorem dX9_struck_22 : decode cX9_struck 22 = .ok (.idiv, 1) := by decide +kernel
theorem dX9_struck_23 : decode cX9_struck 23 = .ok (.iload_n 3, 1) := by decide +kernel
theorem dX9_struck_24 : decode cX9_struck 24 = .ok (.invokestatic 91, 3) := by decide +kernel
theorem dX9_struck_27 : decode cX9_struck 27 = .ok (.istore 5, 2) := by decide +kernel
theorem dX9_struck_29 : decode cX9_struck 29 = .ok (.aload_n 0, 1) := by decide +kernel
theorem dX9_struck_30 : decode cX9_struck 30 = .ok (.bipush 33, 2) := by decide +kernel
theorem dX9_struck_32 : decode cX9_struck 32 = .ok (.iload_n 2, 1) := by decide +kernel
theorem dX9_struck_33 : decode cX9_struck 33 = .ok (.iadd, 1) := by decide +kernel
theorem dX9_struck_34 : decode cX9_struck 34 = .ok (.aload_n 0, 1) := by decide +kernel
theorem dX9_struck_35 : decode cX9_struck 35 = .ok (.iload_n 2, 1) := by decide +kernel
theorem dX9_struck_36 : decode cX9_struck 36 = .ok (.iload 4, 2) := by decide +kernel
theorem dX9_struck_38 : decode cX9_struck 38 = .ok (.iload_n 3, 1) := by decide +kernel
theorem dX9_struck_39 : decode cX9_struck 39 = .ok (.invokestatic 91, 3) := by decide +kernel
theorem dX9_struck_42 : decode cX9_struck 42 = .ok (.iastore, 1) := by decide +kernel
theorem dX9_struck_43 : decode cX9_struck 43 = .ok (.aload_n 0, 1) := by decide +kernel
theorem dX9_struck_44 : decode cX9_struck 44 = .ok (.bipush 33, 2) := by decide +kernel
theorem dX9_struck_46 : decode cX9_struck 46 = .ok (.iload_n 1, 1) := by decide +kernel
theorem dX9_struck_47 : decode cX9_struck 47 = .ok (.iadd, 1) := by decide +kernel
theorem dX9_struck_48 : decode cX9_struck 48 = .ok (.iload 5, 2) := by decide +kernel
theorem dX9_struck_50 : decode cX9_struck 50 = .ok (.iastore, 1) := by decide +kernel
theorem dX9_struck_51 : decode cX9_struck 51 = .ok (.aload_n 0, 1) := by decide +kernel
theorem dX9_struck_52 : decode cX9_struck 52 = .ok (.iload_n 1, 1) := by decide +kernel
theorem dX9_struck_53 : decode cX9_struck 53 = .ok (.invokestatic 72, 3) := by decide +kernel
theorem dX9_struck_56 : decode cX9_struck 56 = .ok (.aload_n 0, 1) := by decide +kernel
theorem dX9_struck_57 : decode cX9_struck 57 = .ok (.iload_n 2, 1) := by decide +kernel
theorem dX9_struck_58 : decode cX9_struck 58 = .ok (.invokestatic 72, 3) := by decide +kernel
theorem dX9_struck_61 : decode cX9_struck 61 = .ok (.if_icmp .eq 33, 3) := by decide +kernel
theorem dX9_struck_64 : decode cX9_struck 64 = .ok (.aload_n 0, 1) := by decide +kernel
theorem dX9_struck_65 : decode cX9_struck 65 = .ok (.aload_n 0, 1) := by decide +kernel
theorem dX9_struck_66 : decode cX9_struck 66 = .ok (.iload_n 1, 1) := by decide +kernel
theorem dX9_struck_67 : decode cX9_struck 67 = .ok (.invokestatic 72, 3) := by decide +kernel
theorem dX9_struck_70 : decode cX9_struck 70 = .ok (.ifCond .eq 7, 3) := by decide +kernel
theorem dX9_struck_73 : decode cX9_struck 73 = .ok (.iload_n 2, 1) := by decide +kernel
theorem dX9_struck_74 : decode cX9_struck 74 = .ok (.goto 4, 3) := by decide +kernel
theorem dX9_struck_77 : decode cX9_struck 77 = .ok (.iload_n 1, 1) := by decide +kernel
theorem dX9_struck_78 : decode cX9_struck 78 = .ok (.aload_n 0, 1) := by decide +kernel
theorem dX9_struck_79 : decode cX9_struck 79 = .ok (.iload_n 1, 1) := by decide +kernel
theorem dX9_struck_80 : decode cX9_struck 80 = .ok (.invokestatic 72, 3) := by decide +kernel
theorem dX9_struck_83 : decode cX9_struck 83 = .ok (.ifCond .eq 7, 3) := by decide +kernel
theorem dX9_struck_86 : decode cX9_struck 86 = .ok (.iload_n 1, 1) := by decide +kernel
theorem dX9_struck_87 : decode cX9_struck 87 = .ok (.goto 4, 3) := by decide +kernel
theorem dX9_struck_90 : decode cX9_struck 90 = .ok (.iload_n 2, 1) := by decide +kernel
theorem dX9_struck_91 : decode cX9_struck 91 = .ok (.invokestatic 95, 3) := by decide +kernel
theorem dX9_struck_94 : decode cX9_struck 94 = .ok (.return_, 1) := by decide +kernel
theorem dX9_canSet_0 : decode cX9_canSet 0 = .ok (.iconst 0, 1) := by decide +kernel
theorem dX9_canSet_1 : decode cX9_canSet 1 = .ok (.istore_n 2, 1) := by decide +kernel
theorem dX9_canSet_2 : decode cX9_canSet 2 = .ok (.iconst 0, 1) := by decide +kernel
theorem dX9_canSet_3 : decode cX9_canSet 3 = .ok (.istore_n 3, 1) := by decide +kernel
theorem dX9_canSet_4 : decode cX9_canSet 4 = .ok (.iload_n 3, 1) := by decide +kernel
theorem dX9_canSet_5 : decode cX9_canSet 5 = .ok (.aload_n 0, 1) := by decide +kernel
theorem dX9_canSet_6 : decode cX9_canSet 6 = .ok (.iconst 2, 1) := by decide +kernel
theorem dX9_canSet_7 : decode cX9_canSet 7 = .ok (.iaload, 1) := by decide +kernel
theorem dX9_canSet_8 : decode cX9_canSet 8 = .ok (.if_icmp .ge 28, 3) := by decide +kernel
theorem dX9_canSet_11 : decode cX9_canSet 11 = .ok (.iload_n 2, 1) := by decide +kernel
theorem dX9_canSet_12 : decode cX9_canSet 12 = .ok (.aload_n 0, 1) := by decide +kernel
theorem dX9_canSet_13 : decode cX9_canSet 13 = .ok (.iload_n 1, 1) := by decide +kernel
theorem dX9_canSet_14 : decode cX9_canSet 14 = .ok (.iload_n 3, 1) := by decide +kernel
theorem dX9_canSet_15 : decode cX9_canSet 15 = .ok (.invokestatic 99, 3) := by decide +kernel
theorem dX9_canSet_18 : decode cX9_canSet 18 = .ok (.ifCond .eq 9, 3) := by decide +kernel
theorem dX9_canSet_21 : decode cX9_canSet 21 = .ok (.iconst 1, 1) := by decide +kernel
theorem dX9_canSet_22 : decode cX9_canSet 22 = .ok (.iload_n 3, 1) := by decide +kernel
theorem dX9_canSet_23 : decode cX9_canSet 23 = .ok (.ishl, 1) := by decide +kernel
theorem dX9_canSet_24 : decode cX9_canSet 24 = .ok (.goto 4, 3) := by decide +kernel
theorem dX9_canSet_27 : decode cX9_canSet 27 = .ok (.iconst 0, 1) := by decide +kernel
theorem dX9_canSet_28 : decode cX9_canSet 28 = .ok (.ior, 1) := by decide +kernel
theorem dX9_canSet_29 : decode cX9_canSet 29 = .ok (.istore_n 2, 1) := by decide +kernel
theorem dX9_canSet_30 : decode cX9_canSet 30 = .ok (.iinc 3 1, 3) := by decide +kernel
theorem dX9_canSet_33 : decode cX9_canSet 33 = .ok (.goto (-29), 3) := by decide +kernel
theorem dX9_canSet_36 : decode cX9_canSet 36 = .ok (.iload_n 2, 1) := by decide +kernel
theorem dX9_canSet_37 : decode cX9_canSet 37 = .ok (.ireturn, 1) := by decide +kernel
theorem dX9_clearTold_0 : decode cX9_clearTold 0 = .ok (.aload_n 0, 1) := by decide +kernel
theorem dX9_clearTold_1 : decode cX9_clearTold 1 = .ok (.getfield 26, 3) := by decide +kernel
theorem dX9_clearTold_4 : decode cX9_clearTold 4 = .ok (.iconst 0, 1) := by decide +kernel
theorem dX9_clearTold_5 : decode cX9_clearTold 5 = .ok (.iconst 0, 1) := by decide +kernel
theorem dX9_clearTold_6 : decode cX9_clearTold 6 = .ok (.iastore, 1) := by decide +kernel
theorem dX9_clearTold_7 : decode cX9_clearTold 7 = .ok (.aload_n 0, 1) := by decide +kernel
theorem dX9_clearTold_8 : decode cX9_clearTold 8 = .ok (.getfield 26, 3) := by decide +kernel
theorem dX9_clearTold_11 : decode cX9_clearTold 11 = .ok (.bipush 26, 2) := by decide +kernel
theorem dX9_clearTold_13 : decode cX9_clearTold 13 = .ok (.iconst 0, 1) := by decide +kernel
theorem dX9_clearTold_14 : decode cX9_clearTold 14 = .ok (.iastore, 1) := by decide +kernel
theorem dX9_clearTold_15 : decode cX9_clearTold 15 = .ok (.aload_n 0, 1) := by decide +kernel
theorem dX9_clearTold_16 : decode cX9_clearTold 16 = .ok (.getfield 26, 3) := by decide +kernel
theorem dX9_clearTold_19 : decode cX9_clearTold 19 = .ok (.bipush 63, 2) := by decide +kernel
theorem dX9_clearTold_21 : decode cX9_clearTold 21 = .ok (.iconst 0, 1) := by decide +kernel
theorem dX9_clearTold_22 : decode cX9_clearTold 22 = .ok (.iastore, 1) := by decide +kernel
theorem dX9_clearTold_23 : decode cX9_clearTold 23 = .ok (.aload_n 0, 1) := by decide +kernel
theorem dX9_clearTold_24 : decode cX9_clearTold 24 = .ok (.iconst 0, 1) := by decide +kernel
theorem dX9_clearTold_25 : decode cX9_clearTold 25 = .ok (.putfield 103, 3) := by decide +kernel
theorem dX9_clearTold_28 : decode cX9_clearTold 28 = .ok (.return_, 1) := by decide +kernel
theorem dX9_begins_0 : decode cX9_begins 0 = .ok (.iconst 0, 1) := by decide +kernel
theorem dX9_begins_1 : decode cX9_begins 1 = .ok (.istore_n 2, 1) := by decide +kernel
theorem dX9_begins_2 : decode cX9_begins 2 = .ok (.iload_n 2, 1) := by decide +kernel
theorem dX9_begins_3 : decode cX9_begins 3 = .ok (.bipush 45, 2) := by decide +kernel
theorem dX9_begins_5 : decode cX9_begins 5 = .ok (.if_icmp .ge 13, 3) := by decide +kernel
theorem dX9_begins_8 : decode cX9_begins 8 = .ok (.aload_n 0, 1) := by decide +kernel
theorem dX9_begins_9 : decode cX9_begins 9 = .ok (.iload_n 2, 1) := by decide +kernel
theorem dX9_begins_10 : decode cX9_begins 10 = .ok (.iconst 0, 1) := by decide +kernel
theorem dX9_begins_11 : decode cX9_begins 11 = .ok (.iastore, 1) := by decide +kernel
theorem dX9_begins_12 : decode cX9_begins 12 = .ok (.iinc 2 1, 3) := by decide +kernel
theorem dX9_begins_15 : decode cX9_begins 15 = .ok (.goto (-13), 3) := by decide +kernel
theorem dX9_begins_18 : decode cX9_begins 18 = .ok (.aload_n 0, 1) := by decide +kernel
theorem dX9_begins_19 : decode cX9_begins 19 = .ok (.iconst 0, 1) := by decide +kernel
theorem dX9_begins_20 : decode cX9_begins 20 = .ok (.iload_n 1, 1) := by decide +kernel
theorem dX9_begins_21 : decode cX9_begins 21 = .ok (.iastore, 1) := by decide +kernel
theorem dX9_begins_22 : decode cX9_begins 22 = .ok (.return_, 1) := by decide +kernel
theorem dX9_yard_0 : decode cX9_yard 0 = .ok (.iload_n 1, 1) := by decide +kernel
theorem dX9_yard_1 : decode cX9_yard 1 = .ok (.iconst 0, 1) := by decide +kernel
theorem dX9_yard_2 : decode cX9_yard 2 = .ok (.bipush 99, 2) := by decide +kernel
theorem dX9_yard_4 : decode cX9_yard 4 = .ok (.invokestatic 57, 3) := by decide +kernel
theorem dX9_yard_7 : decode cX9_yard 7 = .ok (.ifCond .ne 10, 3) := by decide +kernel
theorem dX9_yard_10 : decode cX9_yard 10 = .ok (.aload_n 0, 1) := by decide +kernel
theorem dX9_yard_11 : decode cX9_yard 11 = .ok (.bipush (-2), 2) := by decide +kernel
theorem dX9_yard_13 : decode cX9_yard 13 = .ok (.invokevirtual 61, 3) := by decide +kernel
theorem dX9_yard_16 : decode cX9_yard 16 = .ok (.ireturn, 1) := by decide +kernel
theorem dX9_yard_17 : decode cX9_yard 17 = .ok (.aload_n 0, 1) := by decide +kernel
theorem dX9_yard_18 : decode cX9_yard 18 = .ok (.getfield 17, 3) := by decide +kernel
theorem dX9_yard_21 : decode cX9_yard 21 = .ok (.iconst 2, 1) := by decide +kernel
theorem dX9_yard_22 : decode cX9_yard 22 = .ok (.iaload, 1) := by decide +kernel
theorem dX9_yard_23 : decode cX9_yard 23 = .ok (.istore_n 2, 1) := by decide +kernel
theorem dX9_yard_24 : decode cX9_yard 24 = .ok (.aload_n 0, 1) := by decide +kernel
theorem dX9_yard_25 : decode cX9_yard 25 = .ok (.getfield 17, 3) := by decide +kernel
theorem dX9_yard_28 : decode cX9_yard 28 = .ok (.iload_n 1, 1) := by decide +kernel
theorem dX9_yard_29 : decode cX9_yard 29 = .ok (.invokestatic 107, 3) := by decide +kernel
theorem dX9_yard_32 : decode cX9_yard 32 = .ok (.aload_n 0, 1) := by decide +kernel
theorem dX9_yard_33 : decode cX9_yard 33 = .ok (.invokevirtual 111, 3) := by decide +kernel
theorem dX9_yard_36 : decode cX9_yard 36 = .ok (.iload_n 2, 1) := by decide +kernel
theorem dX9_yard_37 : decode cX9_yard 37 = .ok (.ireturn, 1) := by decide +kernel
theorem dX9_joins_0 : decode cX9_joins 0 = .ok (.aload_n 0, 1) := by decide +kernel
theorem dX9_joins_1 : decode cX9_joins 1 = .ok (.iconst 1, 1) := by decide +kernel
theorem dX9_joins_2 : decode cX9_joins 2 = .ok (.iaload, 1) := by decide +kernel
theorem dX9_joins_3 : decode cX9_joins 3 = .ok (.istore_n 3, 1) := by decide +kernel
theorem dX9_joins_4 : decode cX9_joins 4 = .ok (.aload_n 0, 1) := by decide +kernel
theorem dX9_joins_5 : decode cX9_joins 5 = .ok (.iconst 3, 1) := by decide +kernel
theorem dX9_joins_6 : decode cX9_joins 6 = .ok (.iload_n 3, 1) := by decide +kernel
theorem dX9_joins_7 : decode cX9_joins 7 = .ok (.iadd, 1) := by decide +kernel
theorem dX9_joins_8 : decode cX9_joins 8 = .ok (.iload_n 1, 1) := by decide +kernel
theorem dX9_joins_9 : decode cX9_joins 9 = .ok (.iastore, 1) := by decide +kernel
theorem dX9_joins_10 : decode cX9_joins 10 = .ok (.aload_n 0, 1) := by decide +kernel
theorem dX9_joins_11 : decode cX9_joins 11 = .ok (.bipush 6, 2) := by decide +kernel
theorem dX9_joins_13 : decode cX9_joins 13 = .ok (.iload_n 3, 1) := by decide +kernel
theorem dX9_joins_14 : decode cX9_joins 14 = .ok (.iadd, 1) := by decide +kernel
theorem dX9_joins_15 : decode cX9_joins 15 = .ok (.iload_n 2, 1) := by decide +kernel
theorem dX9_joins_16 : decode cX9_joins 16 = .ok (.iastore, 1) := by decide +kernel
theorem dX9_joins_17 : decode cX9_joins 17 = .ok (.aload_n 0, 1) := by decide +kernel
theorem dX9_joins_18 : decode cX9_joins 18 = .ok (.iconst 1, 1) := by decide +kernel
theorem dX9_joins_19 : decode cX9_joins 19 = .ok (.dup2, 1) := by decide +kernel
theorem dX9_joins_20 : decode cX9_joins 20 = .ok (.iaload, 1) := by decide +kernel
theorem dX9_joins_21 : decode cX9_joins 21 = .ok (.iconst 1, 1) := by decide +kernel
theorem dX9_joins_22 : decode cX9_joins 22 = .ok (.iadd, 1) := by decide +kernel
theorem dX9_joins_23 : decode cX9_joins 23 = .ok (.iastore, 1) := by decide +kernel
theorem dX9_joins_24 : decode cX9_joins 24 = .ok (.iload_n 3, 1) := by decide +kernel
theorem dX9_joins_25 : decode cX9_joins 25 = .ok (.ireturn, 1) := by decide +kernel
theorem dX9_player_0 : decode cX9_player 0 = .ok (.iload_n 1, 1) := by decide +kernel
theorem dX9_player_1 : decode cX9_player 1 = .ok (.iconst 0, 1) := by decide +kernel
theorem dX9_player_2 : decode cX9_player 2 = .ok (.iconst 5, 1) := by decide +kernel
theorem dX9_player_3 : decode cX9_player 3 = .ok (.invokestatic 57, 3) := by decide +kernel

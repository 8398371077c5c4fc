theorem dX9_ended_19 : decode cX9_ended 19 = .ok (.getfield 20, 3) := by decide +kernel
theorem dX9_ended_22 : decode cX9_ended 22 = .ok (.invokestatic 190, 3) := by decide +kernel
theorem dX9_ended_25 : decode cX9_ended 25 = .ok (.aload_n 0, 1) := by decide +kernel
theorem dX9_ended_26 : decode cX9_ended 26 = .ok (.getfield 20, 3) := by decide +kernel
theorem dX9_ended_29 : decode cX9_ended 29 = .ok (.iload_n 1, 1) := by decide +kernel
theorem dX9_ended_30 : decode cX9_ended 30 = .ok (.iload_n 2, 1) := by decide +kernel
theorem dX9_ended_31 : decode cX9_ended 31 = .ok (.iload 4, 2) := by decide +kernel
theorem dX9_ended_33 : decode cX9_ended 33 = .ok (.invokestatic 219, 3) := by decide +kernel
theorem dX9_ended_36 : decode cX9_ended 36 = .ok (.istore 5, 2) := by decide +kernel
theorem dX9_ended_38 : decode cX9_ended 38 = .ok (.aload_n 0, 1) := by decide +kernel
theorem dX9_ended_39 : decode cX9_ended 39 = .ok (.getfield 20, 3) := by decide +kernel
theorem dX9_ended_42 : decode cX9_ended 42 = .ok (.iload_n 1, 1) := by decide +kernel
theorem dX9_ended_43 : decode cX9_ended 43 = .ok (.iload_n 2, 1) := by decide +kernel
theorem dX9_ended_44 : decode cX9_ended 44 = .ok (.invokestatic 223, 3) := by decide +kernel
theorem dX9_ended_47 : decode cX9_ended 47 = .ok (.istore 6, 2) := by decide +kernel
theorem dX9_ended_49 : decode cX9_ended 49 = .ok (.iload 5, 2) := by decide +kernel
theorem dX9_ended_51 : decode cX9_ended 51 = .ok (.iconst (-1), 1) := by decide +kernel
theorem dX9_ended_52 : decode cX9_ended 52 = .ok (.if_icmp .eq 7, 3) := by decide +kernel
theorem dX9_ended_55 : decode cX9_ended 55 = .ok (.iload_n 3, 1) := by decide +kernel
theorem dX9_ended_56 : decode cX9_ended 56 = .ok (.ifCond .ne 8, 3) := by decide +kernel
theorem dX9_ended_59 : decode cX9_ended 59 = .ok (.iload 5, 2) := by decide +kernel
theorem dX9_ended_61 : decode cX9_ended 61 = .ok (.goto 29, 3) := by decide +kernel
theorem dX9_ended_64 : decode cX9_ended 64 = .ok (.iload_n 3, 1) := by decide +kernel
theorem dX9_ended_65 : decode cX9_ended 65 = .ok (.iconst 1, 1) := by decide +kernel
theorem dX9_ended_66 : decode cX9_ended 66 = .ok (.if_icmp .eq 9, 3) := by decide +kernel
theorem dX9_ended_69 : decode cX9_ended 69 = .ok (.iload 6, 2) := by decide +kernel
theorem dX9_ended_71 : decode cX9_ended 71 = .ok (.iconst (-1), 1) := by decide +kernel
theorem dX9_ended_72 : decode cX9_ended 72 = .ok (.if_icmp .ne 8, 3) := by decide +kernel
theorem dX9_ended_75 : decode cX9_ended 75 = .ok (.iload 6, 2) := by decide +kernel
theorem dX9_ended_77 : decode cX9_ended 77 = .ok (.goto 13, 3) := by decide +kernel
theorem dX9_ended_80 : decode cX9_ended 80 = .ok (.aload_n 0, 1) := by decide +kernel
theorem dX9_ended_81 : decode cX9_ended 81 = .ok (.getfield 20, 3) := by decide +kernel
theorem dX9_ended_84 : decode cX9_ended 84 = .ok (.bipush 39, 2) := by decide +kernel
theorem dX9_ended_86 : decode cX9_ended 86 = .ok (.iload 6, 2) := by decide +kernel
theorem dX9_ended_88 : decode cX9_ended 88 = .ok (.iadd, 1) := by decide +kernel
theorem dX9_ended_89 : decode cX9_ended 89 = .ok (.iaload, 1) := by decide +kernel
theorem dX9_ended_90 : decode cX9_ended 90 = .ok (.ireturn, 1) := by decide +kernel
theorem dX9_lasts_0 : decode cX9_lasts 0 = .ok (.aload_n 0, 1) := by decide +kernel
theorem dX9_lasts_1 : decode cX9_lasts 1 = .ok (.iload_n 1, 1) := by decide +kernel
theorem dX9_lasts_2 : decode cX9_lasts 2 = .ok (.iload_n 2, 1) := by decide +kernel
theorem dX9_lasts_3 : decode cX9_lasts 3 = .ok (.invokevirtual 197, 3) := by decide +kernel
theorem dX9_lasts_6 : decode cX9_lasts 6 = .ok (.ifCond .eq 23, 3) := by decide +kernel
theorem dX9_lasts_9 : decode cX9_lasts 9 = .ok (.iload_n 3, 1) := by decide +kernel
theorem dX9_lasts_10 : decode cX9_lasts 10 = .ok (.iconst 0, 1) := by decide +kernel
theorem dX9_lasts_11 : decode cX9_lasts 11 = .ok (.iconst 1, 1) := by decide +kernel
theorem dX9_lasts_12 : decode cX9_lasts 12 = .ok (.invokestatic 57, 3) := by decide +kernel
theorem dX9_lasts_15 : decode cX9_lasts 15 = .ok (.ifCond .eq 14, 3) := by decide +kernel
theorem dX9_lasts_18 : decode cX9_lasts 18 = .ok (.aload_n 0, 1) := by decide +kernel
theorem dX9_lasts_19 : decode cX9_lasts 19 = .ok (.iload_n 1, 1) := by decide +kernel
theorem dX9_lasts_20 : decode cX9_lasts 20 = .ok (.iload_n 2, 1) := by decide +kernel
theorem dX9_lasts_21 : decode cX9_lasts 21 = .ok (.iload_n 3, 1) := by decide +kernel
theorem dX9_lasts_22 : decode cX9_lasts 22 = .ok (.iconst 0, 1) := by decide +kernel
theorem dX9_lasts_23 : decode cX9_lasts 23 = .ok (.invokevirtual 226, 3) := by decide +kernel
theorem dX9_lasts_26 : decode cX9_lasts 26 = .ok (.goto 9, 3) := by decide +kernel
theorem dX9_lasts_29 : decode cX9_lasts 29 = .ok (.aload_n 0, 1) := by decide +kernel
theorem dX9_lasts_30 : decode cX9_lasts 30 = .ok (.bipush (-2), 2) := by decide +kernel
theorem dX9_lasts_32 : decode cX9_lasts 32 = .ok (.invokevirtual 61, 3) := by decide +kernel
theorem dX9_lasts_35 : decode cX9_lasts 35 = .ok (.ireturn, 1) := by decide +kernel
theorem dX9_bout_0 : decode cX9_bout 0 = .ok (.aload_n 0, 1) := by decide +kernel
theorem dX9_bout_1 : decode cX9_bout 1 = .ok (.iload_n 1, 1) := by decide +kernel
theorem dX9_bout_2 : decode cX9_bout 2 = .ok (.iload_n 2, 1) := by decide +kernel
theorem dX9_bout_3 : decode cX9_bout 3 = .ok (.invokevirtual 197, 3) := by decide +kernel
theorem dX9_bout_6 : decode cX9_bout 6 = .ok (.ifCond .eq 23, 3) := by decide +kernel
theorem dX9_bout_9 : decode cX9_bout 9 = .ok (.iload_n 3, 1) := by decide +kernel
theorem dX9_bout_10 : decode cX9_bout 10 = .ok (.iconst 0, 1) := by decide +kernel
theorem dX9_bout_11 : decode cX9_bout 11 = .ok (.iconst 2, 1) := by decide +kernel
theorem dX9_bout_12 : decode cX9_bout 12 = .ok (.invokestatic 57, 3) := by decide +kernel
theorem dX9_bout_15 : decode cX9_bout 15 = .ok (.ifCond .eq 14, 3) := by decide +kernel
theorem dX9_bout_18 : decode cX9_bout 18 = .ok (.aload_n 0, 1) := by decide +kernel
theorem dX9_bout_19 : decode cX9_bout 19 = .ok (.iload_n 1, 1) := by decide +kernel
theorem dX9_bout_20 : decode cX9_bout 20 = .ok (.iload_n 2, 1) := by decide +kernel
theorem dX9_bout_21 : decode cX9_bout 21 = .ok (.iload_n 3, 1) := by decide +kernel
theorem dX9_bout_22 : decode cX9_bout 22 = .ok (.iconst 1, 1) := by decide +kernel
theorem dX9_bout_23 : decode cX9_bout 23 = .ok (.invokevirtual 226, 3) := by decide +kernel
theorem dX9_bout_26 : decode cX9_bout 26 = .ok (.goto 9, 3) := by decide +kernel
theorem dX9_bout_29 : decode cX9_bout 29 = .ok (.aload_n 0, 1) := by decide +kernel
theorem dX9_bout_30 : decode cX9_bout 30 = .ok (.bipush (-2), 2) := by decide +kernel
theorem dX9_bout_32 : decode cX9_bout 32 = .ok (.invokevirtual 61, 3) := by decide +kernel
theorem dX9_bout_35 : decode cX9_bout 35 = .ok (.ireturn, 1) := by decide +kernel
theorem dX9_rank_0 : decode cX9_rank 0 = .ok (.iload_n 1, 1) := by decide +kernel
theorem dX9_rank_1 : decode cX9_rank 1 = .ok (.ifCond .ge 10, 3) := by decide +kernel
theorem dX9_rank_4 : decode cX9_rank 4 = .ok (.aload_n 0, 1) := by decide +kernel
theorem dX9_rank_5 : decode cX9_rank 5 = .ok (.bipush (-2), 2) := by decide +kernel
theorem dX9_rank_7 : decode cX9_rank 7 = .ok (.invokevirtual 61, 3) := by decide +kernel
theorem dX9_rank_10 : decode cX9_rank 10 = .ok (.ireturn, 1) := by decide +kernel
theorem dX9_rank_11 : decode cX9_rank 11 = .ok (.iload_n 1, 1) := by decide +kernel
theorem dX9_rank_12 : decode cX9_rank 12 = .ok (.aload_n 0, 1) := by decide +kernel
theorem dX9_rank_13 : decode cX9_rank 13 = .ok (.getfield 17, 3) := by decide +kernel
theorem dX9_rank_16 : decode cX9_rank 16 = .ok (.iconst 2, 1) := by decide +kernel
theorem dX9_rank_17 : decode cX9_rank 17 = .ok (.iaload, 1) := by decide +kernel
theorem dX9_rank_18 : decode cX9_rank 18 = .ok (.if_icmp .lt 8, 3) := by decide +kernel
theorem dX9_rank_21 : decode cX9_rank 21 = .ok (.aload_n 0, 1) := by decide +kernel
theorem dX9_rank_22 : decode cX9_rank 22 = .ok (.invokevirtual 200, 3) := by decide +kernel
theorem dX9_rank_25 : decode cX9_rank 25 = .ok (.ireturn, 1) := by decide +kernel
theorem dX9_rank_26 : decode cX9_rank 26 = .ok (.iconst (-1), 1) := by decide +kernel
theorem dX9_rank_27 : decode cX9_rank 27 = .ok (.istore_n 2, 1) := by decide +kernel
theorem dX9_rank_28 : decode cX9_rank 28 = .ok (.iconst 0, 1) := by decide +kernel
theorem dX9_rank_29 : decode cX9_rank 29 = .ok (.istore_n 3, 1) := by decide +kernel
theorem dX9_rank_30 : decode cX9_rank 30 = .ok (.iconst 0, 1) := by decide +kernel
theorem dX9_rank_31 : decode cX9_rank 31 = .ok (.istore 4, 2) := by decide +kernel
theorem dX9_rank_33 : decode cX9_rank 33 = .ok (.iload 4, 2) := by decide +kernel
theorem dX9_rank_35 : decode cX9_rank 35 = .ok (.iload_n 1, 1) := by decide +kernel
theorem dX9_rank_36 : decode cX9_rank 36 = .ok (.if_icmp .gt 119, 3) := by decide +kernel
theorem dX9_rank_39 : decode cX9_rank 39 = .ok (.iconst (-1), 1) := by decide +kernel
theorem dX9_rank_40 : decode cX9_rank 40 = .ok (.istore 5, 2) := by decide +kernel
theorem dX9_rank_42 : decode cX9_rank 42 = .ok (.iconst 0, 1) := by decide +kernel
theorem dX9_rank_43 : decode cX9_rank 43 = .ok (.istore 6, 2) := by decide +kernel
theorem dX9_rank_45 : decode cX9_rank 45 = .ok (.iload 6, 2) := by decide +kernel
theorem dX9_rank_47 : decode cX9_rank 47 = .ok (.aload_n 0, 1) := by decide +kernel
theorem dX9_rank_48 : decode cX9_rank 48 = .ok (.getfield 17, 3) := by decide +kernel
theorem dX9_rank_51 : decode cX9_rank 51 = .ok (.iconst 2, 1) := by decide +kernel
theorem dX9_rank_52 : decode cX9_rank 52 = .ok (.iaload, 1) := by decide +kernel
theorem dX9_rank_53 : decode cX9_rank 53 = .ok (.if_icmp .ge 90, 3) := by decide +kernel
theorem dX9_rank_56 : decode cX9_rank 56 = .ok (.aload_n 0, 1) := by decide +kernel
theorem dX9_rank_57 : decode cX9_rank 57 = .ok (.getfield 17, 3) := by decide +kernel
theorem dX9_rank_60 : decode cX9_rank 60 = .ok (.bipush 39, 2) := by decide +kernel
theorem dX9_rank_62 : decode cX9_rank 62 = .ok (.iload 6, 2) := by decide +kernel
theorem dX9_rank_64 : decode cX9_rank 64 = .ok (.iadd, 1) := by decide +kernel
theorem dX9_rank_65 : decode cX9_rank 65 = .ok (.iaload, 1) := by decide +kernel
theorem dX9_rank_66 : decode cX9_rank 66 = .ok (.aload_n 0, 1) := by decide +kernel
theorem dX9_rank_67 : decode cX9_rank 67 = .ok (.getfield 17, 3) := by decide +kernel
theorem dX9_rank_70 : decode cX9_rank 70 = .ok (.iload 6, 2) := by decide +kernel
theorem dX9_rank_72 : decode cX9_rank 72 = .ok (.invokestatic 72, 3) := by decide +kernel
theorem dX9_rank_75 : decode cX9_rank 75 = .ok (.ifCond .eq 7, 3) := by decide +kernel
theorem dX9_rank_78 : decode cX9_rank 78 = .ok (.iconst 0, 1) := by decide +kernel
theorem dX9_rank_79 : decode cX9_rank 79 = .ok (.goto 6, 3) := by decide +kernel
theorem dX9_rank_82 : decode cX9_rank 82 = .ok (.sipush 1000, 3) := by decide +kernel
theorem dX9_rank_85 : decode cX9_rank 85 = .ok (.iadd, 1) := by decide +kernel
theorem dX9_rank_86 : decode cX9_rank 86 = .ok (.istore 7, 2) := by decide +kernel
theorem dX9_rank_88 : decode cX9_rank 88 = .ok (.iload_n 3, 1) := by decide +kernel
theorem dX9_rank_89 : decode cX9_rank 89 = .ok (.iload 6, 2) := by decide +kernel
theorem dX9_rank_91 : decode cX9_rank 91 = .ok (.invokestatic 210, 3) := by decide +kernel
theorem dX9_rank_94 : decode cX9_rank 94 = .ok (.ifCond .ne 14, 3) := by decide +kernel
theorem dX9_rank_97 : decode cX9_rank 97 = .ok (.iload 7, 2) := by decide +kernel
theorem dX9_rank_99 : decode cX9_rank 99 = .ok (.iload 5, 2) := by decide +kernel
theorem dX9_rank_101 : decode cX9_rank 101 = .ok (.if_icmp .le 7, 3) := by decide +kernel
theorem dX9_rank_104 : decode cX9_rank 104 = .ok (.iconst 1, 1) := by decide +kernel
theorem dX9_rank_105 : decode cX9_rank 105 = .ok (.goto 4, 3) := by decide +kernel
theorem dX9_rank_108 : decode cX9_rank 108 = .ok (.iconst 0, 1) := by decide +kernel
theorem dX9_rank_109 : decode cX9_rank 109 = .ok (.istore 8, 2) := by decide +kernel
theorem dX9_rank_111 : decode cX9_rank 111 = .ok (.iload 8, 2) := by decide +kernel
theorem dX9_rank_113 : decode cX9_rank 113 = .ok (.ifCond .eq 8, 3) := by decide +kernel
theorem dX9_rank_116 : decode cX9_rank 116 = .ok (.iload 6, 2) := by decide +kernel
theorem dX9_rank_118 : decode cX9_rank 118 = .ok (.goto 4, 3) := by decide +kernel
theorem dX9_rank_121 : decode cX9_rank 121 = .ok (.iload_n 2, 1) := by decide +kernel
theorem dX9_rank_122 : decode cX9_rank 122 = .ok (.istore_n 2, 1) := by decide +kernel
theorem dX9_rank_123 : decode cX9_rank 123 = .ok (.iload 8, 2) := by decide +kernel
theorem dX9_rank_125 : decode cX9_rank 125 = .ok (.ifCond .eq 8, 3) := by decide +kernel
theorem dX9_rank_128 : decode cX9_rank 128 = .ok (.iload 7, 2) := by decide +kernel
theorem dX9_rank_130 : decode cX9_rank 130 = .ok (.goto 5, 3) := by decide +kernel
theorem dX9_rank_133 : decode cX9_rank 133 = .ok (.iload 5, 2) := by decide +kernel
theorem dX9_rank_135 : decode cX9_rank 135 = .ok (.istore 5, 2) := by decide +kernel
theorem dX9_rank_137 : decode cX9_rank 137 = .ok (.iinc 6 1, 3) := by decide +kernel
theorem dX9_rank_140 : decode cX9_rank 140 = .ok (.goto (-95), 3) := by decide +kernel
theorem dX9_rank_143 : decode cX9_rank 143 = .ok (.iload_n 3, 1) := by decide +kernel
theorem dX9_rank_144 : decode cX9_rank 144 = .ok (.iconst 1, 1) := by decide +kernel
theorem dX9_rank_145 : decode cX9_rank 145 = .ok (.iload_n 2, 1) := by decide +kernel
theorem dX9_rank_146 : decode cX9_rank 146 = .ok (.ishl, 1) := by decide +kernel
theorem dX9_rank_147 : decode cX9_rank 147 = .ok (.ior, 1) := by decide +kernel
theorem dX9_rank_148 : decode cX9_rank 148 = .ok (.istore_n 3, 1) := by decide +kernel
theorem dX9_rank_149 : decode cX9_rank 149 = .ok (.iinc 4 1, 3) := by decide +kernel
theorem dX9_rank_152 : decode cX9_rank 152 = .ok (.goto (-119), 3) := by decide +kernel
theorem dX9_rank_155 : decode cX9_rank 155 = .ok (.iload_n 2, 1) := by decide +kernel
theorem dX9_rank_156 : decode cX9_rank 156 = .ok (.ireturn, 1) := by decide +kernel
theorem dX9_isOrder_0 : decode cX9_isOrder 0 = .ok (.iconst 0, 1) := by decide +kernel
theorem dX9_isOrder_1 : decode cX9_isOrder 1 = .ok (.istore_n 3, 1) := by decide +kernel
theorem dX9_isOrder_2 : decode cX9_isOrder 2 = .ok (.iload_n 0, 1) := by decide +kernel
theorem dX9_isOrder_3 : decode cX9_isOrder 3 = .ok (.istore 4, 2) := by decide +kernel
theorem dX9_isOrder_5 : decode cX9_isOrder 5 = .ok (.iconst 0, 1) := by decide +kernel
theorem dX9_isOrder_6 : decode cX9_isOrder 6 = .ok (.istore 5, 2) := by decide +kernel
theorem dX9_isOrder_8 : decode cX9_isOrder 8 = .ok (.iload 5, 2) := by decide +kernel
theorem dX9_isOrder_10 : decode cX9_isOrder 10 = .ok (.iload_n 2, 1) := by decide +kernel
theorem dX9_isOrder_11 : decode cX9_isOrder 11 = .ok (.if_icmp .ge 26, 3) := by decide +kernel
theorem dX9_isOrder_14 : decode cX9_isOrder 14 = .ok (.iload_n 3, 1) := by decide +kernel
theorem dX9_isOrder_15 : decode cX9_isOrder 15 = .ok (.iconst 1, 1) := by decide +kernel
theorem dX9_isOrder_16 : decode cX9_isOrder 16 = .ok (.iload 4, 2) := by decide +kernel
theorem dX9_isOrder_18 : decode cX9_isOrder 18 = .ok (.bipush 6, 2) := by decide +kernel
theorem dX9_isOrder_20 : decode cX9_isOrder 20 = .ok (.irem, 1) := by decide +kernel
theorem dX9_isOrder_21 : decode cX9_isOrder 21 = .ok (.ishl, 1) := by decide +kernel
theorem dX9_isOrder_22 : decode cX9_isOrder 22 = .ok (.ior, 1) := by decide +kernel
theorem dX9_isOrder_23 : decode cX9_isOrder 23 = .ok (.istore_n 3, 1) := by decide +kernel
theorem dX9_isOrder_24 : decode cX9_isOrder 24 = .ok (.iload 4, 2) := by decide +kernel
theorem dX9_isOrder_26 : decode cX9_isOrder 26 = .ok (.bipush 6, 2) := by decide +kernel
theorem dX9_isOrder_28 : decode cX9_isOrder 28 = .ok (.idiv, 1) := by decide +kernel
theorem dX9_isOrder_29 : decode cX9_isOrder 29 = .ok (.istore 4, 2) := by decide +kernel
theorem dX9_isOrder_31 : decode cX9_isOrder 31 = .ok (.iinc 5 1, 3) := by decide +kernel
theorem dX9_isOrder_34 : decode cX9_isOrder 34 = .ok (.goto (-26), 3) := by decide +kernel
theorem dX9_isOrder_37 : decode cX9_isOrder 37 = .ok (.iload_n 3, 1) := by decide +kernel
theorem dX9_isOrder_38 : decode cX9_isOrder 38 = .ok (.iload_n 1, 1) := by decide +kernel
theorem dX9_isOrder_39 : decode cX9_isOrder 39 = .ok (.if_icmp .ne 7, 3) := by decide +kernel
theorem dX9_isOrder_42 : decode cX9_isOrder 42 = .ok (.iconst 1, 1) := by decide +kernel
theorem dX9_isOrder_43 : decode cX9_isOrder 43 = .ok (.goto 4, 3) := by decide +kernel
theorem dX9_isOrder_46 : decode cX9_isOrder 46 = .ok (.iconst 0, 1) := by decide +kernel
theorem dX9_isOrder_47 : decode cX9_isOrder 47 = .ok (.ireturn, 1) := by decide +kernel
theorem dX9_placeIn_0 : decode cX9_placeIn 0 = .ok (.iload_n 0, 1) := by decide +kernel
theorem dX9_placeIn_1 : decode cX9_placeIn 1 = .ok (.istore_n 3, 1) := by decide +kernel
theorem dX9_placeIn_2 : decode cX9_placeIn 2 = .ok (.iload_n 1, 1) := by decide +kernel
theorem dX9_placeIn_3 : decode cX9_placeIn 3 = .ok (.iconst 1, 1) := by decide +kernel
theorem dX9_placeIn_4 : decode cX9_placeIn 4 = .ok (.isub, 1) := by decide +kernel
theorem dX9_placeIn_5 : decode cX9_placeIn 5 = .ok (.istore 4, 2) := by decide +kernel
theorem dX9_placeIn_7 : decode cX9_placeIn 7 = .ok (.iload 4, 2) := by decide +kernel
theorem dX9_placeIn_9 : decode cX9_placeIn 9 = .ok (.iload_n 2, 1) := by decide +kernel
theorem dX9_placeIn_10 : decode cX9_placeIn 10 = .ok (.if_icmp .le 14, 3) := by decide +kernel
theorem dX9_placeIn_13 : decode cX9_placeIn 13 = .ok (.iload_n 3, 1) := by decide +kernel
theorem dX9_placeIn_14 : decode cX9_placeIn 14 = .ok (.bipush 6, 2) := by decide +kernel
theorem dX9_placeIn_16 : decode cX9_placeIn 16 = .ok (.idiv, 1) := by decide +kernel
theorem dX9_placeIn_17 : decode cX9_placeIn 17 = .ok (.istore_n 3, 1) := by decide +kernel
theorem dX9_placeIn_18 : decode cX9_placeIn 18 = .ok (.iinc 4 (-1), 3) := by decide +kernel
theorem dX9_placeIn_21 : decode cX9_placeIn 21 = .ok (.goto (-14), 3) := by decide +kernel
theorem dX9_placeIn_24 : decode cX9_placeIn 24 = .ok (.iload_n 3, 1) := by decide +kernel
theorem dX9_placeIn_25 : decode cX9_placeIn 25 = .ok (.bipush 6, 2) := by decide +kernel
theorem dX9_placeIn_27 : decode cX9_placeIn 27 = .ok (.irem, 1) := by decide +kernel
theorem dX9_placeIn_28 : decode cX9_placeIn 28 = .ok (.ireturn, 1) := by decide +kernel
theorem dX9_order_0 : decode cX9_order 0 = .ok (.aload_n 0, 1) := by decide +kernel
theorem dX9_order_1 : decode cX9_order 1 = .ok (.getfield 17, 3) := by decide +kernel
theorem dX9_order_4 : decode cX9_order 4 = .ok (.iload_n 1, 1) := by decide +kernel
theorem dX9_order_5 : decode cX9_order 5 = .ok (.invokestatic 68, 3) := by decide +kernel
theorem dX9_order_8 : decode cX9_order 8 = .ok (.ifCond .eq 9, 3) := by decide +kernel
theorem dX9_order_11 : decode cX9_order 11 = .ok (.iload_n 2, 1) := by decide +kernel
theorem dX9_order_12 : decode cX9_order 12 = .ok (.bipush (-2), 2) := by decide +kernel
theorem dX9_order_14 : decode cX9_order 14 = .ok (.if_icmp .ge 10, 3) := by decide +kernel
theorem dX9_order_17 : decode cX9_order 17 = .ok (.aload_n 0, 1) := by decide +kernel
theorem dX9_order_18 : decode cX9_order 18 = .ok (.bipush (-10), 2) := by decide +kernel
theorem dX9_order_20 : decode cX9_order 20 = .ok (.invokevirtual 61, 3) := by decide +kernel
theorem dX9_order_23 : decode cX9_order 23 = .ok (.ireturn, 1) := by decide +kernel
theorem dX9_order_24 : decode cX9_order 24 = .ok (.aload_n 0, 1) := by decide +kernel
theorem dX9_order_25 : decode cX9_order 25 = .ok (.getfield 17, 3) := by decide +kernel
theorem dX9_order_28 : decode cX9_order 28 = .ok (.iload_n 1, 1) := by decide +kernel
theorem dX9_order_29 : decode cX9_order 29 = .ok (.invokestatic 206, 3) := by decide +kernel
theorem dX9_order_32 : decode cX9_order 32 = .ok (.istore_n 3, 1) := by decide +kernel
theorem dX9_order_33 : decode cX9_order 33 = .ok (.iload_n 3, 1) := by decide +kernel
theorem dX9_order_34 : decode cX9_order 34 = .ok (.invokestatic 230, 3) := by decide +kernel
theorem dX9_order_37 : decode cX9_order 37 = .ok (.istore 4, 2) := by decide +kernel
theorem dX9_order_39 : decode cX9_order 39 = .ok (.iconst 1, 1) := by decide +kernel
theorem dX9_order_40 : decode cX9_order 40 = .ok (.istore 5, 2) := by decide +kernel
theorem dX9_order_42 : decode cX9_order 42 = .ok (.iconst 0, 1) := by decide +kernel
theorem dX9_order_43 : decode cX9_order 43 = .ok (.istore 6, 2) := by decide +kernel
theorem dX9_order_45 : decode cX9_order 45 = .ok (.iload 6, 2) := by decide +kernel
theorem dX9_order_47 : decode cX9_order 47 = .ok (.iload 4, 2) := by decide +kernel
theorem dX9_order_49 : decode cX9_order 49 = .ok (.if_icmp .ge 16, 3) := by decide +kernel
theorem dX9_order_52 : decode cX9_order 52 = .ok (.iload 5, 2) := by decide +kernel
theorem dX9_order_54 : decode cX9_order 54 = .ok (.bipush 6, 2) := by decide +kernel
theorem dX9_order_56 : decode cX9_order 56 = .ok (.imul, 1) := by decide +kernel
theorem dX9_order_57 : decode cX9_order 57 = .ok (.istore 5, 2) := by decide +kernel
theorem dX9_order_59 : decode cX9_order 59 = .ok (.iinc 6 1, 3) := by decide +kernel
theorem dX9_order_62 : decode cX9_order 62 = .ok (.goto (-17), 3) := by decide +kernel
theorem dX9_order_65 : decode cX9_order 65 = .ok (.iconst 0, 1) := by decide +kernel
theorem dX9_order_66 : decode cX9_order 66 = .ok (.istore 6, 2) := by decide +kernel
theorem dX9_order_68 : decode cX9_order 68 = .ok (.iconst (-1), 1) := by decide +kernel
theorem dX9_order_69 : decode cX9_order 69 = .ok (.istore 7, 2) := by decide +kernel
theorem dX9_order_71 : decode cX9_order 71 = .ok (.iconst 0, 1) := by decide +kernel
theorem dX9_order_72 : decode cX9_order 72 = .ok (.istore 8, 2) := by decide +kernel
theorem dX9_order_74 : decode cX9_order 74 = .ok (.iconst 0, 1) := by decide +kernel
theorem dX9_order_75 : decode cX9_order 75 = .ok (.istore 9, 2) := by decide +kernel
theorem dX9_order_77 : decode cX9_order 77 = .ok (.iload 9, 2) := by decide +kernel
theorem dX9_order_79 : decode cX9_order 79 = .ok (.iload 5, 2) := by decide +kernel
theorem dX9_order_81 : decode cX9_order 81 = .ok (.if_icmp .ge 182, 3) := by decide +kernel
theorem dX9_order_84 : decode cX9_order 84 = .ok (.iload 9, 2) := by decide +kernel
theorem dX9_order_86 : decode cX9_order 86 = .ok (.iload_n 3, 1) := by decide +kernel
theorem dX9_order_87 : decode cX9_order 87 = .ok (.iload 4, 2) := by decide +kernel
theorem dX9_order_89 : decode cX9_order 89 = .ok (.invokestatic 233, 3) := by decide +kernel
theorem dX9_order_92 : decode cX9_order 92 = .ok (.ifCond .eq 165, 3) := by decide +kernel
theorem dX9_order_95 : decode cX9_order 95 = .ok (.aload_n 0, 1) := by decide +kernel
theorem dX9_order_96 : decode cX9_order 96 = .ok (.getfield 17, 3) := by decide +kernel
theorem dX9_order_99 : decode cX9_order 99 = .ok (.aload_n 0, 1) := by decide +kernel
theorem dX9_order_100 : decode cX9_order 100 = .ok (.getfield 20, 3) := by decide +kernel
theorem dX9_order_103 : decode cX9_order 103 = .ok (.invokestatic 190, 3) := by decide +kernel
theorem dX9_order_106 : decode cX9_order 106 = .ok (.iconst 0, 1) := by decide +kernel
theorem dX9_order_107 : decode cX9_order 107 = .ok (.istore 10, 2) := by decide +kernel
theorem dX9_order_109 : decode cX9_order 109 = .ok (.iload 10, 2) := by decide +kernel
theorem dX9_order_111 : decode cX9_order 111 = .ok (.iload 4, 2) := by decide +kernel
theorem dX9_order_113 : decode cX9_order 113 = .ok (.if_icmp .ge 39, 3) := by decide +kernel
theorem dX9_order_116 : decode cX9_order 116 = .ok (.aload_n 0, 1) := by decide +kernel
theorem dX9_order_117 : decode cX9_order 117 = .ok (.getfield 20, 3) := by decide +kernel
theorem dX9_order_120 : decode cX9_order 120 = .ok (.iload_n 1, 1) := by decide +kernel
theorem dX9_order_121 : decode cX9_order 121 = .ok (.invokestatic 72, 3) := by decide +kernel
theorem dX9_order_124 : decode cX9_order 124 = .ok (.ifCond .ne 28, 3) := by decide +kernel
theorem dX9_order_127 : decode cX9_order 127 = .ok (.aload_n 0, 1) := by decide +kernel
theorem dX9_order_128 : decode cX9_order 128 = .ok (.getfield 20, 3) := by decide +kernel
theorem dX9_order_131 : decode cX9_order 131 = .ok (.iload_n 1, 1) := by decide +kernel
theorem dX9_order_132 : decode cX9_order 132 = .ok (.iload 9, 2) := by decide +kernel
theorem dX9_order_134 : decode cX9_order 134 = .ok (.iload 4, 2) := by decide +kernel
theorem dX9_order_136 : decode cX9_order 136 = .ok (.iload 10, 2) := by decide +kernel
theorem dX9_order_138 : decode cX9_order 138 = .ok (.invokestatic 236, 3) := by decide +kernel
theorem dX9_order_141 : decode cX9_order 141 = .ok (.iconst 1, 1) := by decide +kernel
theorem dX9_order_142 : decode cX9_order 142 = .ok (.invokestatic 219, 3) := by decide +kernel
theorem dX9_order_145 : decode cX9_order 145 = .ok (.pop, 1) := by decide +kernel
theorem dX9_order_146 : decode cX9_order 146 = .ok (.iinc 10 1, 3) := by decide +kernel
theorem dX9_order_149 : decode cX9_order 149 = .ok (.goto (-40), 3) := by decide +kernel
theorem dX9_order_152 : decode cX9_order 152 = .ok (.aload_n 0, 1) := by decide +kernel
theorem dX9_order_153 : decode cX9_order 153 = .ok (.getfield 20, 3) := by decide +kernel
theorem dX9_order_156 : decode cX9_order 156 = .ok (.bipush 39, 2) := by decide +kernel
theorem dX9_order_158 : decode cX9_order 158 = .ok (.iload_n 1, 1) := by decide +kernel
theorem dX9_order_159 : decode cX9_order 159 = .ok (.iadd, 1) := by decide +kernel
theorem dX9_order_160 : decode cX9_order 160 = .ok (.iaload, 1) := by decide +kernel
theorem dX9_order_161 : decode cX9_order 161 = .ok (.iload 7, 2) := by decide +kernel
theorem dX9_order_163 : decode cX9_order 163 = .ok (.if_icmp .gt 31, 3) := by decide +kernel
theorem dX9_order_166 : decode cX9_order 166 = .ok (.aload_n 0, 1) := by decide +kernel
theorem dX9_order_167 : decode cX9_order 167 = .ok (.getfield 20, 3) := by decide +kernel
theorem dX9_order_170 : decode cX9_order 170 = .ok (.bipush 39, 2) := by decide +kernel
theorem dX9_order_172 : decode cX9_order 172 = .ok (.iload_n 1, 1) := by decide +kernel
theorem dX9_order_173 : decode cX9_order 173 = .ok (.iadd, 1) := by decide +kernel
theorem dX9_order_174 : decode cX9_order 174 = .ok (.iaload, 1) := by decide +kernel
theorem dX9_order_175 : decode cX9_order 175 = .ok (.iload 7, 2) := by decide +kernel
theorem dX9_order_177 : decode cX9_order 177 = .ok (.if_icmp .ne 21, 3) := by decide +kernel
theorem dX9_order_180 : decode cX9_order 180 = .ok (.aload_n 0, 1) := by decide +kernel
theorem dX9_order_181 : decode cX9_order 181 = .ok (.getfield 20, 3) := by decide +kernel
theorem dX9_order_184 : decode cX9_order 184 = .ok (.bipush 33, 2) := by decide +kernel
theorem dX9_order_186 : decode cX9_order 186 = .ok (.iload_n 1, 1) := by decide +kernel
theorem dX9_order_187 : decode cX9_order 187 = .ok (.iadd, 1) := by decide +kernel
theorem dX9_order_188 : decode cX9_order 188 = .ok (.iaload, 1) := by decide +kernel
theorem dX9_order_189 : decode cX9_order 189 = .ok (.iload 8, 2) := by decide +kernel
theorem dX9_order_191 : decode cX9_order 191 = .ok (.if_icmp .ge 7, 3) := by decide +kernel
theorem dX9_order_194 : decode cX9_order 194 = .ok (.iconst 1, 1) := by decide +kernel
theorem dX9_order_195 : decode cX9_order 195 = .ok (.goto 4, 3) := by decide +kernel
theorem dX9_order_198 : decode cX9_order 198 = .ok (.iconst 0, 1) := by decide +kernel
theorem dX9_order_199 : decode cX9_order 199 = .ok (.istore 10, 2) := by decide +kernel
theorem dX9_order_201 : decode cX9_order 201 = .ok (.iload 10, 2) := by decide +kernel
theorem dX9_order_203 : decode cX9_order 203 = .ok (.ifCond .eq 8, 3) := by decide +kernel
theorem dX9_order_206 : decode cX9_order 206 = .ok (.iload 9, 2) := by decide +kernel
theorem dX9_order_208 : decode cX9_order 208 = .ok (.goto 5, 3) := by decide +kernel
theorem dX9_order_211 : decode cX9_order 211 = .ok (.iload 6, 2) := by decide +kernel
theorem dX9_order_213 : decode cX9_order 213 = .ok (.istore 6, 2) := by decide +kernel
theorem dX9_order_215 : decode cX9_order 215 = .ok (.iload 10, 2) := by decide +kernel
theorem dX9_order_217 : decode cX9_order 217 = .ok (.ifCond .eq 15, 3) := by decide +kernel
theorem dX9_order_220 : decode cX9_order 220 = .ok (.aload_n 0, 1) := by decide +kernel
theorem dX9_order_221 : decode cX9_order 221 = .ok (.getfield 20, 3) := by decide +kernel
theorem dX9_order_224 : decode cX9_order 224 = .ok (.bipush 33, 2) := by decide +kernel
theorem dX9_order_226 : decode cX9_order 226 = .ok (.iload_n 1, 1) := by decide +kernel
theorem dX9_order_227 : decode cX9_order 227 = .ok (.iadd, 1) := by decide +kernel
theorem dX9_order_228 : decode cX9_order 228 = .ok (.iaload, 1) := by decide +kernel
theorem dX9_order_229 : decode cX9_order 229 = .ok (.goto 5, 3) := by decide +kernel
theorem dX9_order_232 : decode cX9_order 232 = .ok (.iload 8, 2) := by decide +kernel
theorem dX9_order_234 : decode cX9_order 234 = .ok (.istore 8, 2) := by decide +kernel
theorem dX9_order_236 : decode cX9_order 236 = .ok (.iload 10, 2) := by decide +kernel
theorem dX9_order_238 : decode cX9_order 238 = .ok (.ifCond .eq 15, 3) := by decide +kernel
theorem dX9_order_241 : decode cX9_order 241 = .ok (.aload_n 0, 1) := by decide +kernel
theorem dX9_order_242 : decode cX9_order 242 = .ok (.getfield 20, 3) := by decide +kernel
theorem dX9_order_245 : decode cX9_order 245 = .ok (.bipush 39, 2) := by decide +kernel
theorem dX9_order_247 : decode cX9_order 247 = .ok (.iload_n 1, 1) := by decide +kernel
theorem dX9_order_248 : decode cX9_order 248 = .ok (.iadd, 1) := by decide +kernel
theorem dX9_order_249 : decode cX9_order 249 = .ok (.iaload, 1) := by decide +kernel
theorem dX9_order_250 : decode cX9_order 250 = .ok (.goto 5, 3) := by decide +kernel
theorem dX9_order_253 : decode cX9_order 253 = .ok (.iload 7, 2) := by decide +kernel
theorem dX9_order_255 : decode cX9_order 255 = .ok (.istore 7, 2) := by decide +kernel
theorem dX9_order_257 : decode cX9_order 257 = .ok (.iinc 9 1, 3) := by decide +kernel
theorem dX9_order_260 : decode cX9_order 260 = .ok (.goto (-183), 3) := by decide +kernel
theorem dX9_order_263 : decode cX9_order 263 = .ok (.iload_n 2, 1) := by decide +kernel
theorem dX9_order_264 : decode cX9_order 264 = .ok (.bipush (-2), 2) := by decide +kernel
theorem dX9_order_266 : decode cX9_order 266 = .ok (.if_icmp .ne 8, 3) := by decide +kernel
theorem dX9_order_269 : decode cX9_order 269 = .ok (.iload 7, 2) := by decide +kernel
theorem dX9_order_271 : decode cX9_order 271 = .ok (.goto 32, 3) := by decide +kernel
theorem dX9_order_274 : decode cX9_order 274 = .ok (.iload_n 2, 1) := by decide +kernel
theorem dX9_order_275 : decode cX9_order 275 = .ok (.iconst (-1), 1) := by decide +kernel
theorem dX9_order_276 : decode cX9_order 276 = .ok (.if_icmp .ne 8, 3) := by decide +kernel
theorem dX9_order_279 : decode cX9_order 279 = .ok (.iload 8, 2) := by decide +kernel
theorem dX9_order_281 : decode cX9_order 281 = .ok (.goto 22, 3) := by decide +kernel
theorem dX9_order_284 : decode cX9_order 284 = .ok (.iload_n 2, 1) := by decide +kernel
theorem dX9_order_285 : decode cX9_order 285 = .ok (.iload 4, 2) := by decide +kernel
theorem dX9_order_287 : decode cX9_order 287 = .ok (.if_icmp .ge 14, 3) := by decide +kernel
theorem dX9_order_290 : decode cX9_order 290 = .ok (.iload 6, 2) := by decide +kernel
theorem dX9_order_292 : decode cX9_order 292 = .ok (.iload 4, 2) := by decide +kernel
theorem dX9_order_294 : decode cX9_order 294 = .ok (.iload_n 2, 1) := by decide +kernel
theorem dX9_order_295 : decode cX9_order 295 = .ok (.invokestatic 236, 3) := by decide +kernel
theorem dX9_order_298 : decode cX9_order 298 = .ok (.goto 5, 3) := by decide +kernel
theorem dX9_order_301 : decode cX9_order 301 = .ok (.bipush (-5), 2) := by decide +kernel
theorem dX9_order_303 : decode cX9_order 303 = .ok (.ireturn, 1) := by decide +kernel
theorem dX9_firm_0 : decode cX9_firm 0 = .ok (.aload_n 0, 1) := by decide +kernel
theorem dX9_firm_1 : decode cX9_firm 1 = .ok (.iload_n 1, 1) := by decide +kernel
theorem dX9_firm_2 : decode cX9_firm 2 = .ok (.iload_n 2, 1) := by decide +kernel
theorem dX9_firm_3 : decode cX9_firm 3 = .ok (.invokevirtual 197, 3) := by decide +kernel
theorem dX9_firm_6 : decode cX9_firm 6 = .ok (.ifCond .ne 10, 3) := by decide +kernel
theorem dX9_firm_9 : decode cX9_firm 9 = .ok (.aload_n 0, 1) := by decide +kernel
theorem dX9_firm_10 : decode cX9_firm 10 = .ok (.bipush (-2), 2) := by decide +kernel
theorem dX9_firm_12 : decode cX9_firm 12 = .ok (.invokevirtual 61, 3) := by decide +kernel
theorem dX9_firm_15 : decode cX9_firm 15 = .ok (.ireturn, 1) := by decide +kernel
theorem dX9_firm_16 : decode cX9_firm 16 = .ok (.iconst 0, 1) := by decide +kernel
theorem dX9_firm_17 : decode cX9_firm 17 = .ok (.istore_n 3, 1) := by decide +kernel
theorem dX9_firm_18 : decode cX9_firm 18 = .ok (.iload_n 3, 1) := by decide +kernel
theorem dX9_firm_19 : decode cX9_firm 19 = .ok (.bipush 10, 2) := by decide +kernel
theorem dX9_firm_21 : decode cX9_firm 21 = .ok (.if_icmp .ge 68, 3) := by decide +kernel
theorem dX9_firm_24 : decode cX9_firm 24 = .ok (.aload_n 0, 1) := by decide +kernel
theorem dX9_firm_25 : decode cX9_firm 25 = .ok (.getfield 17, 3) := by decide +kernel
theorem dX9_firm_28 : decode cX9_firm 28 = .ok (.iload_n 1, 1) := by decide +kernel
theorem dX9_firm_29 : decode cX9_firm 29 = .ok (.iload_n 2, 1) := by decide +kernel
theorem dX9_firm_30 : decode cX9_firm 30 = .ok (.invokestatic 99, 3) := by decide +kernel
theorem dX9_firm_33 : decode cX9_firm 33 = .ok (.ifCond .eq 56, 3) := by decide +kernel
theorem dX9_firm_36 : decode cX9_firm 36 = .ok (.aload_n 0, 1) := by decide +kernel
theorem dX9_firm_37 : decode cX9_firm 37 = .ok (.getfield 17, 3) := by decide +kernel
theorem dX9_firm_40 : decode cX9_firm 40 = .ok (.aload_n 0, 1) := by decide +kernel
theorem dX9_firm_41 : decode cX9_firm 41 = .ok (.getfield 20, 3) := by decide +kernel
theorem dX9_firm_44 : decode cX9_firm 44 = .ok (.invokestatic 190, 3) := by decide +kernel
theorem dX9_firm_47 : decode cX9_firm 47 = .ok (.aload_n 0, 1) := by decide +kernel
theorem dX9_firm_48 : decode cX9_firm 48 = .ok (.getfield 20, 3) := by decide +kernel
theorem dX9_firm_51 : decode cX9_firm 51 = .ok (.bipush 21, 2) := by decide +kernel
theorem dX9_firm_53 : decode cX9_firm 53 = .ok (.iload_n 1, 1) := by decide +kernel
theorem dX9_firm_54 : decode cX9_firm 54 = .ok (.iadd, 1) := by decide +kernel
theorem dX9_firm_55 : decode cX9_firm 55 = .ok (.iload_n 3, 1) := by decide +kernel
theorem dX9_firm_56 : decode cX9_firm 56 = .ok (.iastore, 1) := by decide +kernel
theorem dX9_firm_57 : decode cX9_firm 57 = .ok (.aload_n 0, 1) := by decide +kernel
theorem dX9_firm_58 : decode cX9_firm 58 = .ok (.getfield 20, 3) := by decide +kernel
theorem dX9_firm_61 : decode cX9_firm 61 = .ok (.iload_n 1, 1) := by decide +kernel
theorem dX9_firm_62 : decode cX9_firm 62 = .ok (.iload_n 2, 1) := by decide +kernel
theorem dX9_firm_63 : decode cX9_firm 63 = .ok (.iconst 1, 1) := by decide +kernel
theorem dX9_firm_64 : decode cX9_firm 64 = .ok (.invokestatic 219, 3) := by decide +kernel
theorem dX9_firm_67 : decode cX9_firm 67 = .ok (.pop, 1) := by decide +kernel
theorem dX9_firm_68 : decode cX9_firm 68 = .ok (.aload_n 0, 1) := by decide +kernel
theorem dX9_firm_69 : decode cX9_firm 69 = .ok (.getfield 20, 3) := by decide +kernel
theorem dX9_firm_72 : decode cX9_firm 72 = .ok (.iload_n 1, 1) := by decide +kernel
theorem dX9_firm_73 : decode cX9_firm 73 = .ok (.iload_n 2, 1) := by decide +kernel
theorem dX9_firm_74 : decode cX9_firm 74 = .ok (.invokestatic 223, 3) := by decide +kernel
theorem dX9_firm_77 : decode cX9_firm 77 = .ok (.iload_n 1, 1) := by decide +kernel
theorem dX9_firm_78 : decode cX9_firm 78 = .ok (.if_icmp .ne 5, 3) := by decide +kernel
theorem dX9_firm_81 : decode cX9_firm 81 = .ok (.iload_n 3, 1) := by decide +kernel
theorem dX9_firm_82 : decode cX9_firm 82 = .ok (.ireturn, 1) := by decide +kernel
theorem dX9_firm_83 : decode cX9_firm 83 = .ok (.iinc 3 1, 3) := by decide +kernel
theorem dX9_firm_86 : decode cX9_firm 86 = .ok (.goto (-68), 3) := by decide +kernel
theorem dX9_firm_89 : decode cX9_firm 89 = .ok (.iconst (-1), 1) := by decide +kernel
theorem dX9_firm_90 : decode cX9_firm 90 = .ok (.ireturn, 1) := by decide +kernel
theorem dX9_fit_0 : decode cX9_fit 0 = .ok (.iload_n 1, 1) := by decide +kernel
theorem dX9_fit_1 : decode cX9_fit 1 = .ok (.iconst 0, 1) := by decide +kernel
theorem dX9_fit_2 : decode cX9_fit 2 = .ok (.aload_n 0, 1) := by decide +kernel
theorem dX9_fit_3 : decode cX9_fit 3 = .ok (.getfield 17, 3) := by decide +kernel
theorem dX9_fit_6 : decode cX9_fit 6 = .ok (.iconst 1, 1) := by decide +kernel
theorem dX9_fit_7 : decode cX9_fit 7 = .ok (.iaload, 1) := by decide +kernel
theorem dX9_fit_8 : decode cX9_fit 8 = .ok (.iconst 1, 1) := by decide +kernel
theorem dX9_fit_9 : decode cX9_fit 9 = .ok (.isub, 1) := by decide +kernel
theorem dX9_fit_10 : decode cX9_fit 10 = .ok (.invokestatic 57, 3) := by decide +kernel
theorem dX9_fit_13 : decode cX9_fit 13 = .ok (.ifCond .eq 12, 3) := by decide +kernel
theorem dX9_fit_16 : decode cX9_fit 16 = .ok (.iload_n 2, 1) := by decide +kernel
theorem dX9_fit_17 : decode cX9_fit 17 = .ok (.iconst 0, 1) := by decide +kernel
theorem dX9_fit_18 : decode cX9_fit 18 = .ok (.iconst 1, 1) := by decide +kernel
theorem dX9_fit_19 : decode cX9_fit 19 = .ok (.invokestatic 57, 3) := by decide +kernel
theorem dX9_fit_22 : decode cX9_fit 22 = .ok (.ifCond .ne 10, 3) := by decide +kernel
theorem dX9_fit_25 : decode cX9_fit 25 = .ok (.aload_n 0, 1) := by decide +kernel
theorem dX9_fit_26 : decode cX9_fit 26 = .ok (.bipush (-2), 2) := by decide +kernel
theorem dX9_fit_28 : decode cX9_fit 28 = .ok (.invokevirtual 61, 3) := by decide +kernel
theorem dX9_fit_31 : decode cX9_fit 31 = .ok (.ireturn, 1) := by decide +kernel
theorem dX9_fit_32 : decode cX9_fit 32 = .ok (.iconst (-1), 1) := by decide +kernel
theorem dX9_fit_33 : decode cX9_fit 33 = .ok (.istore_n 3, 1) := by decide +kernel
theorem dX9_fit_34 : decode cX9_fit 34 = .ok (.iconst (-1), 1) := by decide +kernel
theorem dX9_fit_35 : decode cX9_fit 35 = .ok (.istore 4, 2) := by decide +kernel
theorem dX9_fit_37 : decode cX9_fit 37 = .ok (.iconst 0, 1) := by decide +kernel
theorem dX9_fit_38 : decode cX9_fit 38 = .ok (.istore 5, 2) := by decide +kernel
theorem dX9_fit_40 : decode cX9_fit 40 = .ok (.iload 5, 2) := by decide +kernel
theorem dX9_fit_42 : decode cX9_fit 42 = .ok (.aload_n 0, 1) := by decide +kernel
theorem dX9_fit_43 : decode cX9_fit 43 = .ok (.getfield 17, 3) := by decide +kernel
theorem dX9_fit_46 : decode cX9_fit 46 = .ok (.iconst 2, 1) := by decide +kernel
theorem dX9_fit_47 : decode cX9_fit 47 = .ok (.iaload, 1) := by decide +kernel
theorem dX9_fit_48 : decode cX9_fit 48 = .ok (.if_icmp .ge 159, 3) := by decide +kernel
theorem dX9_fit_51 : decode cX9_fit 51 = .ok (.iconst 0, 1) := by decide +kernel
theorem dX9_fit_52 : decode cX9_fit 52 = .ok (.istore 6, 2) := by decide +kernel
theorem dX9_fit_54 : decode cX9_fit 54 = .ok (.iload 6, 2) := by decide +kernel
theorem dX9_fit_56 : decode cX9_fit 56 = .ok (.aload_n 0, 1) := by decide +kernel
theorem dX9_fit_57 : decode cX9_fit 57 = .ok (.getfield 17, 3) := by decide +kernel
theorem dX9_fit_60 : decode cX9_fit 60 = .ok (.iconst 2, 1) := by decide +kernel
theorem dX9_fit_61 : decode cX9_fit 61 = .ok (.iaload, 1) := by decide +kernel
theorem dX9_fit_62 : decode cX9_fit 62 = .ok (.if_icmp .ge 139, 3) := by decide +kernel
theorem dX9_fit_65 : decode cX9_fit 65 = .ok (.aload_n 0, 1) := by decide +kernel
theorem dX9_fit_66 : decode cX9_fit 66 = .ok (.getfield 17, 3) := by decide +kernel
theorem dX9_fit_69 : decode cX9_fit 69 = .ok (.bipush 9, 2) := by decide +kernel
theorem dX9_fit_71 : decode cX9_fit 71 = .ok (.iload 5, 2) := by decide +kernel
theorem dX9_fit_73 : decode cX9_fit 73 = .ok (.iadd, 1) := by decide +kernel
theorem dX9_fit_74 : decode cX9_fit 74 = .ok (.iaload, 1) := by decide +kernel
theorem dX9_fit_75 : decode cX9_fit 75 = .ok (.iload_n 1, 1) := by decide +kernel
theorem dX9_fit_76 : decode cX9_fit 76 = .ok (.if_icmp .ne 125, 3) := by decide +kernel
theorem dX9_fit_79 : decode cX9_fit 79 = .ok (.aload_n 0, 1) := by decide +kernel
theorem dX9_fit_80 : decode cX9_fit 80 = .ok (.getfield 17, 3) := by decide +kernel
theorem dX9_fit_83 : decode cX9_fit 83 = .ok (.iload 5, 2) := by decide +kernel
theorem dX9_fit_85 : decode cX9_fit 85 = .ok (.iload 6, 2) := by decide +kernel
theorem dX9_fit_87 : decode cX9_fit 87 = .ok (.invokestatic 99, 3) := by decide +kernel
theorem dX9_fit_90 : decode cX9_fit 90 = .ok (.ifCond .eq 105, 3) := by decide +kernel
theorem dX9_fit_93 : decode cX9_fit 93 = .ok (.aload_n 0, 1) := by decide +kernel
theorem dX9_fit_94 : decode cX9_fit 94 = .ok (.getfield 17, 3) := by decide +kernel
theorem dX9_fit_97 : decode cX9_fit 97 = .ok (.aload_n 0, 1) := by decide +kernel
theorem dX9_fit_98 : decode cX9_fit 98 = .ok (.getfield 20, 3) := by decide +kernel
theorem dX9_fit_101 : decode cX9_fit 101 = .ok (.invokestatic 190, 3) := by decide +kernel
theorem dX9_fit_104 : decode cX9_fit 104 = .ok (.aload_n 0, 1) := by decide +kernel
theorem dX9_fit_105 : decode cX9_fit 105 = .ok (.getfield 20, 3) := by decide +kernel
theorem dX9_fit_108 : decode cX9_fit 108 = .ok (.iload 5, 2) := by decide +kernel
theorem dX9_fit_110 : decode cX9_fit 110 = .ok (.iload 6, 2) := by decide +kernel
theorem dX9_fit_112 : decode cX9_fit 112 = .ok (.iconst 1, 1) := by decide +kernel
theorem dX9_fit_113 : decode cX9_fit 113 = .ok (.invokestatic 219, 3) := by decide +kernel
theorem dX9_fit_116 : decode cX9_fit 116 = .ok (.pop, 1) := by decide +kernel
theorem dX9_fit_117 : decode cX9_fit 117 = .ok (.aload_n 0, 1) := by decide +kernel
theorem dX9_fit_118 : decode cX9_fit 118 = .ok (.getfield 20, 3) := by decide +kernel
theorem dX9_fit_121 : decode cX9_fit 121 = .ok (.iload 5, 2) := by decide +kernel
theorem dX9_fit_123 : decode cX9_fit 123 = .ok (.iload 6, 2) := by decide +kernel
theorem dX9_fit_125 : decode cX9_fit 125 = .ok (.invokestatic 223, 3) := by decide +kernel
theorem dX9_fit_128 : decode cX9_fit 128 = .ok (.iload 5, 2) := by decide +kernel
theorem dX9_fit_130 : decode cX9_fit 130 = .ok (.if_icmp .ne 22, 3) := by decide +kernel
theorem dX9_fit_133 : decode cX9_fit 133 = .ok (.aload_n 0, 1) := by decide +kernel
theorem dX9_fit_134 : decode cX9_fit 134 = .ok (.getfield 20, 3) := by decide +kernel
theorem dX9_fit_137 : decode cX9_fit 137 = .ok (.bipush 39, 2) := by decide +kernel
theorem dX9_fit_139 : decode cX9_fit 139 = .ok (.iload 5, 2) := by decide +kernel
theorem dX9_fit_141 : decode cX9_fit 141 = .ok (.iadd, 1) := by decide +kernel
theorem dX9_fit_142 : decode cX9_fit 142 = .ok (.iaload, 1) := by decide +kernel
theorem dX9_fit_143 : decode cX9_fit 143 = .ok (.iload 4, 2) := by decide +kernel
theorem dX9_fit_145 : decode cX9_fit 145 = .ok (.if_icmp .le 7, 3) := by decide +kernel
theorem dX9_fit_148 : decode cX9_fit 148 = .ok (.iconst 1, 1) := by decide +kernel
theorem dX9_fit_149 : decode cX9_fit 149 = .ok (.goto 4, 3) := by decide +kernel
theorem dX9_fit_152 : decode cX9_fit 152 = .ok (.iconst 0, 1) := by decide +kernel
theorem dX9_fit_153 : decode cX9_fit 153 = .ok (.istore 7, 2) := by decide +kernel
theorem dX9_fit_155 : decode cX9_fit 155 = .ok (.iload 7, 2) := by decide +kernel
theorem dX9_fit_157 : decode cX9_fit 157 = .ok (.ifCond .eq 14, 3) := by decide +kernel
theorem dX9_fit_160 : decode cX9_fit 160 = .ok (.bipush 10, 2) := by decide +kernel
theorem dX9_fit_162 : decode cX9_fit 162 = .ok (.iload 5, 2) := by decide +kernel
theorem dX9_fit_164 : decode cX9_fit 164 = .ok (.imul, 1) := by decide +kernel
theorem dX9_fit_165 : decode cX9_fit 165 = .ok (.iload 6, 2) := by decide +kernel
theorem dX9_fit_167 : decode cX9_fit 167 = .ok (.iadd, 1) := by decide +kernel
theorem dX9_fit_168 : decode cX9_fit 168 = .ok (.goto 4, 3) := by decide +kernel
theorem dX9_fit_171 : decode cX9_fit 171 = .ok (.iload_n 3, 1) := by decide +kernel
theorem dX9_fit_172 : decode cX9_fit 172 = .ok (.istore_n 3, 1) := by decide +kernel
theorem dX9_fit_173 : decode cX9_fit 173 = .ok (.iload 7, 2) := by decide +kernel
theorem dX9_fit_175 : decode cX9_fit 175 = .ok (.ifCond .eq 16, 3) := by decide +kernel
theorem dX9_fit_178 : decode cX9_fit 178 = .ok (.aload_n 0, 1) := by decide +kernel
theorem dX9_fit_179 : decode cX9_fit 179 = .ok (.getfield 20, 3) := by decide +kernel
theorem dX9_fit_182 : decode cX9_fit 182 = .ok (.bipush 39, 2) := by decide +kernel
theorem dX9_fit_184 : decode cX9_fit 184 = .ok (.iload 5, 2) := by decide +kernel
theorem dX9_fit_186 : decode cX9_fit 186 = .ok (.iadd, 1) := by decide +kernel
theorem dX9_fit_187 : decode cX9_fit 187 = .ok (.iaload, 1) := by decide +kernel
theorem dX9_fit_188 : decode cX9_fit 188 = .ok (.goto 5, 3) := by decide +kernel
theorem dX9_fit_191 : decode cX9_fit 191 = .ok (.iload 4, 2) := by decide +kernel
theorem dX9_fit_193 : decode cX9_fit 193 = .ok (.istore 4, 2) := by decide +kernel
theorem dX9_fit_195 : decode cX9_fit 195 = .ok (.iinc 6 1, 3) := by decide +kernel
theorem dX9_fit_198 : decode cX9_fit 198 = .ok (.goto (-144), 3) := by decide +kernel
theorem dX9_fit_201 : decode cX9_fit 201 = .ok (.iinc 5 1, 3) := by decide +kernel
theorem dX9_fit_204 : decode cX9_fit 204 = .ok (.goto (-164), 3) := by decide +kernel
theorem dX9_fit_207 : decode cX9_fit 207 = .ok (.iload_n 2, 1) := by decide +kernel
theorem dX9_fit_208 : decode cX9_fit 208 = .ok (.ifCond .ne 7, 3) := by decide +kernel
theorem dX9_fit_211 : decode cX9_fit 211 = .ok (.iload_n 3, 1) := by decide +kernel
theorem dX9_fit_212 : decode cX9_fit 212 = .ok (.goto 5, 3) := by decide +kernel
theorem dX9_fit_215 : decode cX9_fit 215 = .ok (.iload 4, 2) := by decide +kernel
theorem dX9_fit_217 : decode cX9_fit 217 = .ok (.ireturn, 1) := by decide +kernel
theorem dX9_seen_0 : decode cX9_seen 0 = .ok (.aload_n 0, 1) := by decide +kernel
theorem dX9_seen_1 : decode cX9_seen 1 = .ok (.getfield 17, 3) := by decide +kernel
theorem dX9_seen_4 : decode cX9_seen 4 = .ok (.iload_n 1, 1) := by decide +kernel
theorem dX9_seen_5 : decode cX9_seen 5 = .ok (.invokestatic 68, 3) := by decide +kernel
theorem dX9_seen_8 : decode cX9_seen 8 = .ok (.ifCond .eq 45, 3) := by decide +kernel
theorem dX9_seen_11 : decode cX9_seen 11 = .ok (.iload_n 2, 1) := by decide +kernel
theorem dX9_seen_12 : decode cX9_seen 12 = .ok (.iconst 0, 1) := by decide +kernel
theorem dX9_seen_13 : decode cX9_seen 13 = .ok (.bipush 99, 2) := by decide +kernel
theorem dX9_seen_15 : decode cX9_seen 15 = .ok (.invokestatic 57, 3) := by decide +kernel
theorem dX9_seen_18 : decode cX9_seen 18 = .ok (.ifCond .eq 35, 3) := by decide +kernel
theorem dX9_seen_21 : decode cX9_seen 21 = .ok (.iload_n 3, 1) := by decide +kernel
theorem dX9_seen_22 : decode cX9_seen 22 = .ok (.iconst 0, 1) := by decide +kernel
theorem dX9_seen_23 : decode cX9_seen 23 = .ok (.bipush 9, 2) := by decide +kernel
theorem dX9_seen_25 : decode cX9_seen 25 = .ok (.invokestatic 57, 3) := by decide +kernel
theorem dX9_seen_28 : decode cX9_seen 28 = .ok (.ifCond .eq 25, 3) := by decide +kernel
theorem dX9_seen_31 : decode cX9_seen 31 = .ok (.iload 4, 2) := by decide +kernel
theorem dX9_seen_33 : decode cX9_seen 33 = .ok (.iconst 0, 1) := by decide +kernel
theorem dX9_seen_34 : decode cX9_seen 34 = .ok (.bipush 44, 2) := by decide +kernel
theorem dX9_seen_36 : decode cX9_seen 36 = .ok (.invokestatic 57, 3) := by decide +kernel
theorem dX9_seen_39 : decode cX9_seen 39 = .ok (.ifCond .eq 14, 3) := by decide +kernel
theorem dX9_seen_42 : decode cX9_seen 42 = .ok (.iload 5, 2) := by decide +kernel
theorem dX9_seen_44 : decode cX9_seen 44 = .ok (.iconst 0, 1) := by decide +kernel
theorem dX9_seen_45 : decode cX9_seen 45 = .ok (.bipush 60, 2) := by decide +kernel
theorem dX9_seen_47 : decode cX9_seen 47 = .ok (.invokestatic 57, 3) := by decide +kernel
theorem dX9_seen_50 : decode cX9_seen 50 = .ok (.ifCond .ne 10, 3) := by decide +kernel
theorem dX9_seen_53 : decode cX9_seen 53 = .ok (.aload_n 0, 1) := by decide +kernel
theorem dX9_seen_54 : decode cX9_seen 54 = .ok (.bipush (-2), 2) := by decide +kernel
theorem dX9_seen_56 : decode cX9_seen 56 = .ok (.invokevirtual 61, 3) := by decide +kernel
theorem dX9_seen_59 : decode cX9_seen 59 = .ok (.ireturn, 1) := by decide +kernel
theorem dX9_seen_60 : decode cX9_seen 60 = .ok (.aload_n 0, 1) := by decide +kernel
theorem dX9_seen_61 : decode cX9_seen 61 = .ok (.getfield 26, 3) := by decide +kernel
theorem dX9_seen_64 : decode cX9_seen 64 = .ok (.iconst 0, 1) := by decide +kernel
theorem dX9_seen_65 : decode cX9_seen 65 = .ok (.iaload, 1) := by decide +kernel
theorem dX9_seen_66 : decode cX9_seen 66 = .ok (.iconst 5, 1) := by decide +kernel
theorem dX9_seen_67 : decode cX9_seen 67 = .ok (.if_icmp .ne 8, 3) := by decide +kernel
theorem dX9_seen_70 : decode cX9_seen 70 = .ok (.aload_n 0, 1) := by decide +kernel
theorem dX9_seen_71 : decode cX9_seen 71 = .ok (.invokevirtual 114, 3) := by decide +kernel
theorem dX9_seen_74 : decode cX9_seen 74 = .ok (.ireturn, 1) := by decide +kernel
theorem dX9_seen_75 : decode cX9_seen 75 = .ok (.iconst 1, 1) := by decide +kernel
theorem dX9_seen_76 : decode cX9_seen 76 = .ok (.iconst 5, 1) := by decide +kernel
theorem dX9_seen_77 : decode cX9_seen 77 = .ok (.aload_n 0, 1) := by decide +kernel
theorem dX9_seen_78 : decode cX9_seen 78 = .ok (.getfield 26, 3) := by decide +kernel
theorem dX9_seen_81 : decode cX9_seen 81 = .ok (.iconst 0, 1) := by decide +kernel
theorem dX9_seen_82 : decode cX9_seen 82 = .ok (.iaload, 1) := by decide +kernel
theorem dX9_seen_83 : decode cX9_seen 83 = .ok (.imul, 1) := by decide +kernel
theorem dX9_seen_84 : decode cX9_seen 84 = .ok (.iadd, 1) := by decide +kernel
theorem dX9_seen_85 : decode cX9_seen 85 = .ok (.istore 6, 2) := by decide +kernel
theorem dX9_seen_87 : decode cX9_seen 87 = .ok (.aload_n 0, 1) := by decide +kernel
theorem dX9_seen_88 : decode cX9_seen 88 = .ok (.getfield 26, 3) := by decide +kernel
theorem dX9_seen_91 : decode cX9_seen 91 = .ok (.iload 6, 2) := by decide +kernel
theorem dX9_seen_93 : decode cX9_seen 93 = .ok (.iload_n 1, 1) := by decide +kernel
theorem dX9_seen_94 : decode cX9_seen 94 = .ok (.iastore, 1) := by decide +kernel
theorem dX9_seen_95 : decode cX9_seen 95 = .ok (.aload_n 0, 1) := by decide +kernel
theorem dX9_seen_96 : decode cX9_seen 96 = .ok (.getfield 26, 3) := by decide +kernel
theorem dX9_seen_99 : decode cX9_seen 99 = .ok (.iload 6, 2) := by decide +kernel
theorem dX9_seen_101 : decode cX9_seen 101 = .ok (.iconst 1, 1) := by decide +kernel
theorem dX9_seen_102 : decode cX9_seen 102 = .ok (.iadd, 1) := by decide +kernel
theorem dX9_seen_103 : decode cX9_seen 103 = .ok (.iload_n 2, 1) := by decide +kernel
theorem dX9_seen_104 : decode cX9_seen 104 = .ok (.iastore, 1) := by decide +kernel
theorem dX9_seen_105 : decode cX9_seen 105 = .ok (.aload_n 0, 1) := by decide +kernel
theorem dX9_seen_106 : decode cX9_seen 106 = .ok (.getfield 26, 3) := by decide +kernel
theorem dX9_seen_109 : decode cX9_seen 109 = .ok (.iload 6, 2) := by decide +kernel
theorem dX9_seen_111 : decode cX9_seen 111 = .ok (.iconst 2, 1) := by decide +kernel
theorem dX9_seen_112 : decode cX9_seen 112 = .ok (.iadd, 1) := by decide +kernel
theorem dX9_seen_113 : decode cX9_seen 113 = .ok (.iload_n 3, 1) := by decide +kernel
theorem dX9_seen_114 : decode cX9_seen 114 = .ok (.iastore, 1) := by decide +kernel
theorem dX9_seen_115 : decode cX9_seen 115 = .ok (.aload_n 0, 1) := by decide +kernel
theorem dX9_seen_116 : decode cX9_seen 116 = .ok (.getfield 26, 3) := by decide +kernel
theorem dX9_seen_119 : decode cX9_seen 119 = .ok (.iload 6, 2) := by decide +kernel
theorem dX9_seen_121 : decode cX9_seen 121 = .ok (.iconst 3, 1) := by decide +kernel
theorem dX9_seen_122 : decode cX9_seen 122 = .ok (.iadd, 1) := by decide +kernel
theorem dX9_seen_123 : decode cX9_seen 123 = .ok (.iload 4, 2) := by decide +kernel
theorem dX9_seen_125 : decode cX9_seen 125 = .ok (.iastore, 1) := by decide +kernel
theorem dX9_seen_126 : decode cX9_seen 126 = .ok (.aload_n 0, 1) := by decide +kernel
theorem dX9_seen_127 : decode cX9_seen 127 = .ok (.getfield 26, 3) := by decide +kernel
theorem dX9_seen_130 : decode cX9_seen 130 = .ok (.iload 6, 2) := by decide +kernel
theorem dX9_seen_132 : decode cX9_seen 132 = .ok (.iconst 4, 1) := by decide +kernel
theorem dX9_seen_133 : decode cX9_seen 133 = .ok (.iadd, 1) := by decide +kernel
theorem dX9_seen_134 : decode cX9_seen 134 = .ok (.iload 5, 2) := by decide +kernel
theorem dX9_seen_136 : decode cX9_seen 136 = .ok (.iastore, 1) := by decide +kernel
theorem dX9_seen_137 : decode cX9_seen 137 = .ok (.aload_n 0, 1) := by decide +kernel
theorem dX9_seen_138 : decode cX9_seen 138 = .ok (.getfield 26, 3) := by decide +kernel
theorem dX9_seen_141 : decode cX9_seen 141 = .ok (.iconst 0, 1) := by decide +kernel
theorem dX9_seen_142 : decode cX9_seen 142 = .ok (.dup2, 1) := by decide +kernel
theorem dX9_seen_143 : decode cX9_seen 143 = .ok (.iaload, 1) := by decide +kernel
theorem dX9_seen_144 : decode cX9_seen 144 = .ok (.iconst 1, 1) := by decide +kernel
theorem dX9_seen_145 : decode cX9_seen 145 = .ok (.iadd, 1) := by decide +kernel
theorem dX9_seen_146 : decode cX9_seen 146 = .ok (.iastore, 1) := by decide +kernel
theorem dX9_seen_147 : decode cX9_seen 147 = .ok (.aload_n 0, 1) := by decide +kernel
theorem dX9_seen_148 : decode cX9_seen 148 = .ok (.getfield 26, 3) := by decide +kernel
theorem dX9_seen_151 : decode cX9_seen 151 = .ok (.iconst 0, 1) := by decide +kernel
theorem dX9_seen_152 : decode cX9_seen 152 = .ok (.iaload, 1) := by decide +kernel
theorem dX9_seen_153 : decode cX9_seen 153 = .ok (.ireturn, 1) := by decide +kernel
theorem dX9_hardsOf_0 : decode cX9_hardsOf 0 = .ok (.iconst 0, 1) := by decide +kernel
theorem dX9_hardsOf_1 : decode cX9_hardsOf 1 = .ok (.istore_n 2, 1) := by decide +kernel
theorem dX9_hardsOf_2 : decode cX9_hardsOf 2 = .ok (.iconst 0, 1) := by decide +kernel
theorem dX9_hardsOf_3 : decode cX9_hardsOf 3 = .ok (.istore_n 3, 1) := by decide +kernel
theorem dX9_hardsOf_4 : decode cX9_hardsOf 4 = .ok (.iload_n 3, 1) := by decide +kernel
theorem dX9_hardsOf_5 : decode cX9_hardsOf 5 = .ok (.bipush 10, 2) := by decide +kernel
theorem dX9_hardsOf_7 : decode cX9_hardsOf 7 = .ok (.if_icmp .ge 130, 3) := by decide +kernel
theorem dX9_hardsOf_10 : decode cX9_hardsOf 10 = .ok (.iconst 1, 1) := by decide +kernel
theorem dX9_hardsOf_11 : decode cX9_hardsOf 11 = .ok (.istore 4, 2) := by decide +kernel
theorem dX9_hardsOf_13 : decode cX9_hardsOf 13 = .ok (.iconst 0, 1) := by decide +kernel
theorem dX9_hardsOf_14 : decode cX9_hardsOf 14 = .ok (.istore 5, 2) := by decide +kernel
theorem dX9_hardsOf_16 : decode cX9_hardsOf 16 = .ok (.iload 5, 2) := by decide +kernel
theorem dX9_hardsOf_18 : decode cX9_hardsOf 18 = .ok (.aload_n 0, 1) := by decide +kernel
theorem dX9_hardsOf_19 : decode cX9_hardsOf 19 = .ok (.getfield 26, 3) := by decide +kernel
theorem dX9_hardsOf_22 : decode cX9_hardsOf 22 = .ok (.iconst 0, 1) := by decide +kernel
theorem dX9_hardsOf_23 : decode cX9_hardsOf 23 = .ok (.iaload, 1) := by decide +kernel
theorem dX9_hardsOf_24 : decode cX9_hardsOf 24 = .ok (.if_icmp .ge 92, 3) := by decide +kernel
theorem dX9_hardsOf_27 : decode cX9_hardsOf 27 = .ok (.iconst 1, 1) := by decide +kernel
theorem dX9_hardsOf_28 : decode cX9_hardsOf 28 = .ok (.iconst 5, 1) := by decide +kernel
theorem dX9_hardsOf_29 : decode cX9_hardsOf 29 = .ok (.iload 5, 2) := by decide +kernel
theorem dX9_hardsOf_31 : decode cX9_hardsOf 31 = .ok (.imul, 1) := by decide +kernel
theorem dX9_hardsOf_32 : decode cX9_hardsOf 32 = .ok (.iadd, 1) := by decide +kernel
theorem dX9_hardsOf_33 : decode cX9_hardsOf 33 = .ok (.istore 6, 2) := by decide +kernel
theorem dX9_hardsOf_35 : decode cX9_hardsOf 35 = .ok (.iload 4, 2) := by decide +kernel
theorem dX9_hardsOf_37 : decode cX9_hardsOf 37 = .ok (.ifCond .eq 70, 3) := by decide +kernel
theorem dX9_hardsOf_40 : decode cX9_hardsOf 40 = .ok (.aload_n 0, 1) := by decide +kernel
theorem dX9_hardsOf_41 : decode cX9_hardsOf 41 = .ok (.getfield 26, 3) := by decide +kernel
theorem dX9_hardsOf_44 : decode cX9_hardsOf 44 = .ok (.iload 6, 2) := by decide +kernel
theorem dX9_hardsOf_46 : decode cX9_hardsOf 46 = .ok (.iaload, 1) := by decide +kernel
theorem dX9_hardsOf_47 : decode cX9_hardsOf 47 = .ok (.iload_n 1, 1) := by decide +kernel
theorem dX9_hardsOf_48 : decode cX9_hardsOf 48 = .ok (.if_icmp .ne 55, 3) := by decide +kernel
theorem dX9_hardsOf_51 : decode cX9_hardsOf 51 = .ok (.aload_n 0, 1) := by decide +kernel
theorem dX9_hardsOf_52 : decode cX9_hardsOf 52 = .ok (.getfield 17, 3) := by decide +kernel
theorem dX9_hardsOf_55 : decode cX9_hardsOf 55 = .ok (.bipush 15, 2) := by decide +kernel
theorem dX9_hardsOf_57 : decode cX9_hardsOf 57 = .ok (.iload_n 1, 1) := by decide +kernel
theorem dX9_hardsOf_58 : decode cX9_hardsOf 58 = .ok (.iadd, 1) := by decide +kernel
theorem dX9_hardsOf_59 : decode cX9_hardsOf 59 = .ok (.iaload, 1) := by decide +kernel
theorem dX9_hardsOf_60 : decode cX9_hardsOf 60 = .ok (.iload_n 3, 1) := by decide +kernel
theorem dX9_hardsOf_61 : decode cX9_hardsOf 61 = .ok (.aload_n 0, 1) := by decide +kernel
theorem dX9_hardsOf_62 : decode cX9_hardsOf 62 = .ok (.getfield 26, 3) := by decide +kernel
theorem dX9_hardsOf_65 : decode cX9_hardsOf 65 = .ok (.iload 6, 2) := by decide +kernel
theorem dX9_hardsOf_67 : decode cX9_hardsOf 67 = .ok (.iconst 2, 1) := by decide +kernel
theorem dX9_hardsOf_68 : decode cX9_hardsOf 68 = .ok (.iadd, 1) := by decide +kernel
theorem dX9_hardsOf_69 : decode cX9_hardsOf 69 = .ok (.iaload, 1) := by decide +kernel
theorem dX9_hardsOf_70 : decode cX9_hardsOf 70 = .ok (.aload_n 0, 1) := by decide +kernel
theorem dX9_hardsOf_71 : decode cX9_hardsOf 71 = .ok (.getfield 26, 3) := by decide +kernel
theorem dX9_hardsOf_74 : decode cX9_hardsOf 74 = .ok (.iload 6, 2) := by decide +kernel
theorem dX9_hardsOf_76 : decode cX9_hardsOf 76 = .ok (.iconst 3, 1) := by decide +kernel
theorem dX9_hardsOf_77 : decode cX9_hardsOf 77 = .ok (.iadd, 1) := by decide +kernel
theorem dX9_hardsOf_78 : decode cX9_hardsOf 78 = .ok (.iaload, 1) := by decide +kernel
theorem dX9_hardsOf_79 : decode cX9_hardsOf 79 = .ok (.aload_n 0, 1) := by decide +kernel
theorem dX9_hardsOf_80 : decode cX9_hardsOf 80 = .ok (.getfield 26, 3) := by decide +kernel
theorem dX9_hardsOf_83 : decode cX9_hardsOf 83 = .ok (.iload 6, 2) := by decide +kernel
theorem dX9_hardsOf_85 : decode cX9_hardsOf 85 = .ok (.iconst 1, 1) := by decide +kernel
theorem dX9_hardsOf_86 : decode cX9_hardsOf 86 = .ok (.iadd, 1) := by decide +kernel
theorem dX9_hardsOf_87 : decode cX9_hardsOf 87 = .ok (.iaload, 1) := by decide +kernel
theorem dX9_hardsOf_88 : decode cX9_hardsOf 88 = .ok (.invokestatic 79, 3) := by decide +kernel
theorem dX9_hardsOf_91 : decode cX9_hardsOf 91 = .ok (.aload_n 0, 1) := by decide +kernel
theorem dX9_hardsOf_92 : decode cX9_hardsOf 92 = .ok (.getfield 26, 3) := by decide +kernel
theorem dX9_hardsOf_95 : decode cX9_hardsOf 95 = .ok (.iload 6, 2) := by decide +kernel
theorem dX9_hardsOf_97 : decode cX9_hardsOf 97 = .ok (.iconst 4, 1) := by decide +kernel
theorem dX9_hardsOf_98 : decode cX9_hardsOf 98 = .ok (.iadd, 1) := by decide +kernel
theorem dX9_hardsOf_99 : decode cX9_hardsOf 99 = .ok (.iaload, 1) := by decide +kernel
theorem dX9_hardsOf_100 : decode cX9_hardsOf 100 = .ok (.if_icmp .ne 7, 3) := by decide +kernel
theorem dX9_hardsOf_103 : decode cX9_hardsOf 103 = .ok (.iconst 1, 1) := by decide +kernel
theorem dX9_hardsOf_104 : decode cX9_hardsOf 104 = .ok (.goto 4, 3) := by decide +kernel
theorem dX9_hardsOf_107 : decode cX9_hardsOf 107 = .ok (.iconst 0, 1) := by decide +kernel
theorem dX9_hardsOf_108 : decode cX9_hardsOf 108 = .ok (.istore 4, 2) := by decide +kernel
theorem dX9_hardsOf_110 : decode cX9_hardsOf 110 = .ok (.iinc 5 1, 3) := by decide +kernel
theorem dX9_hardsOf_113 : decode cX9_hardsOf 113 = .ok (.goto (-97), 3) := by decide +kernel
theorem dX9_hardsOf_116 : decode cX9_hardsOf 116 = .ok (.iload_n 2, 1) := by decide +kernel
theorem dX9_hardsOf_117 : decode cX9_hardsOf 117 = .ok (.iload 4, 2) := by decide +kernel
theorem dX9_hardsOf_119 : decode cX9_hardsOf 119 = .ok (.ifCond .eq 9, 3) := by decide +kernel
theorem dX9_hardsOf_122 : decode cX9_hardsOf 122 = .ok (.iconst 1, 1) := by decide +kernel
theorem dX9_hardsOf_123 : decode cX9_hardsOf 123 = .ok (.iload_n 3, 1) := by decide +kernel
theorem dX9_hardsOf_124 : decode cX9_hardsOf 124 = .ok (.ishl, 1) := by decide +kernel
theorem dX9_hardsOf_125 : decode cX9_hardsOf 125 = .ok (.goto 4, 3) := by decide +kernel
theorem dX9_hardsOf_128 : decode cX9_hardsOf 128 = .ok (.iconst 0, 1) := by decide +kernel
theorem dX9_hardsOf_129 : decode cX9_hardsOf 129 = .ok (.ior, 1) := by decide +kernel
theorem dX9_hardsOf_130 : decode cX9_hardsOf 130 = .ok (.istore_n 2, 1) := by decide +kernel
theorem dX9_hardsOf_131 : decode cX9_hardsOf 131 = .ok (.iinc 3 1, 3) := by decide +kernel
theorem dX9_hardsOf_134 : decode cX9_hardsOf 134 = .ok (.goto (-130), 3) := by decide +kernel
theorem dX9_hardsOf_137 : decode cX9_hardsOf 137 = .ok (.iload_n 2, 1) := by decide +kernel
theorem dX9_hardsOf_138 : decode cX9_hardsOf 138 = .ok (.ireturn, 1) := by decide +kernel
theorem dX9_hards_0 : decode cX9_hards 0 = .ok (.aload_n 0, 1) := by decide +kernel
theorem dX9_hards_1 : decode cX9_hards 1 = .ok (.getfield 17, 3) := by decide +kernel
theorem dX9_hards_4 : decode cX9_hards 4 = .ok (.iload_n 1, 1) := by decide +kernel
theorem dX9_hards_5 : decode cX9_hards 5 = .ok (.invokestatic 68, 3) := by decide +kernel
theorem dX9_hards_8 : decode cX9_hards 8 = .ok (.ifCond .eq 11, 3) := by decide +kernel
theorem dX9_hards_11 : decode cX9_hards 11 = .ok (.aload_n 0, 1) := by decide +kernel
theorem dX9_hards_12 : decode cX9_hards 12 = .ok (.iload_n 1, 1) := by decide +kernel
theorem dX9_hards_13 : decode cX9_hards 13 = .ok (.invokevirtual 240, 3) := by decide +kernel
theorem dX9_hards_16 : decode cX9_hards 16 = .ok (.goto 9, 3) := by decide +kernel
theorem dX9_hards_19 : decode cX9_hards 19 = .ok (.aload_n 0, 1) := by decide +kernel
theorem dX9_hards_20 : decode cX9_hards 20 = .ok (.bipush (-2), 2) := by decide +kernel
theorem dX9_hards_22 : decode cX9_hards 22 = .ok (.invokevirtual 61, 3) := by decide +kernel
theorem dX9_hards_25 : decode cX9_hards 25 = .ok (.ireturn, 1) := by decide +kernel
theorem dX9_alike_0 : decode cX9_alike 0 = .ok (.aload_n 0, 1) := by decide +kernel
theorem dX9_alike_1 : decode cX9_alike 1 = .ok (.getfield 17, 3) := by decide +kernel
theorem dX9_alike_4 : decode cX9_alike 4 = .ok (.invokestatic 83, 3) := by decide +kernel
theorem dX9_alike_7 : decode cX9_alike 7 = .ok (.istore 6, 2) := by decide +kernel
theorem dX9_alike_9 : decode cX9_alike 9 = .ok (.iconst 0, 1) := by decide +kernel
theorem dX9_alike_10 : decode cX9_alike 10 = .ok (.istore 7, 2) := by decide +kernel
theorem dX9_alike_12 : decode cX9_alike 12 = .ok (.iconst 0, 1) := by decide +kernel
theorem dX9_alike_13 : decode cX9_alike 13 = .ok (.istore 8, 2) := by decide +kernel
theorem dX9_alike_15 : decode cX9_alike 15 = .ok (.iload 8, 2) := by decide +kernel
theorem dX9_alike_17 : decode cX9_alike 17 = .ok (.bipush 10, 2) := by decide +kernel
theorem dX9_alike_19 : decode cX9_alike 19 = .ok (.if_icmp .ge 177, 3) := by decide +kernel
theorem dX9_alike_22 : decode cX9_alike 22 = .ok (.iconst 0, 1) := by decide +kernel
theorem dX9_alike_23 : decode cX9_alike 23 = .ok (.istore 9, 2) := by decide +kernel
theorem dX9_alike_25 : decode cX9_alike 25 = .ok (.iconst 0, 1) := by decide +kernel
theorem dX9_alike_26 : decode cX9_alike 26 = .ok (.istore 10, 2) := by decide +kernel
theorem dX9_alike_28 : decode cX9_alike 28 = .ok (.iload 10, 2) := by decide +kernel
theorem dX9_alike_30 : decode cX9_alike 30 = .ok (.bipush 10, 2) := by decide +kernel
theorem dX9_alike_32 : decode cX9_alike 32 = .ok (.if_icmp .ge 142, 3) := by decide +kernel
theorem dX9_alike_35 : decode cX9_alike 35 = .ok (.iload_n 2, 1) := by decide +kernel
theorem dX9_alike_36 : decode cX9_alike 36 = .ok (.iload 8, 2) := by decide +kernel
theorem dX9_alike_38 : decode cX9_alike 38 = .ok (.invokestatic 210, 3) := by decide +kernel
theorem dX9_alike_41 : decode cX9_alike 41 = .ok (.ifCond .eq 133, 3) := by decide +kernel
theorem dX9_alike_44 : decode cX9_alike 44 = .ok (.iload_n 3, 1) := by decide +kernel
theorem dX9_alike_45 : decode cX9_alike 45 = .ok (.ifCond .eq 26, 3) := by decide +kernel
theorem dX9_alike_48 : decode cX9_alike 48 = .ok (.aload_n 0, 1) := by decide +kernel
theorem dX9_alike_49 : decode cX9_alike 49 = .ok (.getfield 17, 3) := by decide +kernel
theorem dX9_alike_52 : decode cX9_alike 52 = .ok (.bipush 15, 2) := by decide +kernel
theorem dX9_alike_54 : decode cX9_alike 54 = .ok (.iload_n 1, 1) := by decide +kernel
theorem dX9_alike_55 : decode cX9_alike 55 = .ok (.iadd, 1) := by decide +kernel
theorem dX9_alike_56 : decode cX9_alike 56 = .ok (.iaload, 1) := by decide +kernel
theorem dX9_alike_57 : decode cX9_alike 57 = .ok (.iload 8, 2) := by decide +kernel
theorem dX9_alike_59 : decode cX9_alike 59 = .ok (.iload 5, 2) := by decide +kernel
theorem dX9_alike_61 : decode cX9_alike 61 = .ok (.iload 4, 2) := by decide +kernel
theorem dX9_alike_63 : decode cX9_alike 63 = .ok (.iload 6, 2) := by decide +kernel
theorem dX9_alike_65 : decode cX9_alike 65 = .ok (.invokestatic 79, 3) := by decide +kernel
theorem dX9_alike_68 : decode cX9_alike 68 = .ok (.goto 23, 3) := by decide +kernel
theorem dX9_alike_71 : decode cX9_alike 71 = .ok (.iload 8, 2) := by decide +kernel
theorem dX9_alike_73 : decode cX9_alike 73 = .ok (.aload_n 0, 1) := by decide +kernel
theorem dX9_alike_74 : decode cX9_alike 74 = .ok (.getfield 17, 3) := by decide +kernel
theorem dX9_alike_77 : decode cX9_alike 77 = .ok (.bipush 21, 2) := by decide +kernel
theorem dX9_alike_79 : decode cX9_alike 79 = .ok (.iload_n 1, 1) := by decide +kernel
theorem dX9_alike_80 : decode cX9_alike 80 = .ok (.iadd, 1) := by decide +kernel
theorem dX9_alike_81 : decode cX9_alike 81 = .ok (.iaload, 1) := by decide +kernel
theorem dX9_alike_82 : decode cX9_alike 82 = .ok (.iload 5, 2) := by decide +kernel
theorem dX9_alike_84 : decode cX9_alike 84 = .ok (.iload 4, 2) := by decide +kernel
theorem dX9_alike_86 : decode cX9_alike 86 = .ok (.iload 6, 2) := by decide +kernel
theorem dX9_alike_88 : decode cX9_alike 88 = .ok (.invokestatic 79, 3) := by decide +kernel
theorem dX9_alike_91 : decode cX9_alike 91 = .ok (.istore 11, 2) := by decide +kernel
theorem dX9_alike_93 : decode cX9_alike 93 = .ok (.iload_n 3, 1) := by decide +kernel
theorem dX9_alike_94 : decode cX9_alike 94 = .ok (.ifCond .eq 26, 3) := by decide +kernel
theorem dX9_alike_97 : decode cX9_alike 97 = .ok (.aload_n 0, 1) := by decide +kernel
theorem dX9_alike_98 : decode cX9_alike 98 = .ok (.getfield 17, 3) := by decide +kernel
theorem dX9_alike_101 : decode cX9_alike 101 = .ok (.bipush 15, 2) := by decide +kernel
theorem dX9_alike_103 : decode cX9_alike 103 = .ok (.iload_n 1, 1) := by decide +kernel
theorem dX9_alike_104 : decode cX9_alike 104 = .ok (.iadd, 1) := by decide +kernel
theorem dX9_alike_105 : decode cX9_alike 105 = .ok (.iaload, 1) := by decide +kernel
theorem dX9_alike_106 : decode cX9_alike 106 = .ok (.iload 10, 2) := by decide +kernel
theorem dX9_alike_108 : decode cX9_alike 108 = .ok (.iload 5, 2) := by decide +kernel
theorem dX9_alike_110 : decode cX9_alike 110 = .ok (.iload 4, 2) := by decide +kernel
theorem dX9_alike_112 : decode cX9_alike 112 = .ok (.iload 6, 2) := by decide +kernel
theorem dX9_alike_114 : decode cX9_alike 114 = .ok (.invokestatic 79, 3) := by decide +kernel
theorem dX9_alike_117 : decode cX9_alike 117 = .ok (.goto 23, 3) := by decide +kernel
theorem dX9_alike_120 : decode cX9_alike 120 = .ok (.iload 10, 2) := by decide +kernel
theorem dX9_alike_122 : decode cX9_alike 122 = .ok (.aload_n 0, 1) := by decide +kernel
theorem dX9_alike_123 : decode cX9_alike 123 = .ok (.getfield 17, 3) := by decide +kernel
theorem dX9_alike_126 : decode cX9_alike 126 = .ok (.bipush 21, 2) := by decide +kernel
theorem dX9_alike_128 : decode cX9_alike 128 = .ok (.iload_n 1, 1) := by decide +kernel
theorem dX9_alike_129 : decode cX9_alike 129 = .ok (.iadd, 1) := by decide +kernel
theorem dX9_alike_130 : decode cX9_alike 130 = .ok (.iaload, 1) := by decide +kernel
theorem dX9_alike_131 : decode cX9_alike 131 = .ok (.iload 5, 2) := by decide +kernel
theorem dX9_alike_133 : decode cX9_alike 133 = .ok (.iload 4, 2) := by decide +kernel
theorem dX9_alike_135 : decode cX9_alike 135 = .ok (.iload 6, 2) := by decide +kernel
theorem dX9_alike_137 : decode cX9_alike 137 = .ok (.invokestatic 79, 3) := by decide +kernel
theorem dX9_alike_140 : decode cX9_alike 140 = .ok (.istore 12, 2) := by decide +kernel
theorem dX9_alike_142 : decode cX9_alike 142 = .ok (.iload 9, 2) := by decide +kernel
theorem dX9_alike_144 : decode cX9_alike 144 = .ok (.iload_n 2, 1) := by decide +kernel
theorem dX9_alike_145 : decode cX9_alike 145 = .ok (.iload 10, 2) := by decide +kernel
theorem dX9_alike_147 : decode cX9_alike 147 = .ok (.invokestatic 210, 3) := by decide +kernel
theorem dX9_alike_150 : decode cX9_alike 150 = .ok (.ifCond .eq 14, 3) := by decide +kernel
theorem dX9_alike_153 : decode cX9_alike 153 = .ok (.iload 11, 2) := by decide +kernel
theorem dX9_alike_155 : decode cX9_alike 155 = .ok (.iload 12, 2) := by decide +kernel
theorem dX9_alike_157 : decode cX9_alike 157 = .ok (.if_icmp .ne 7, 3) := by decide +kernel
theorem dX9_alike_160 : decode cX9_alike 160 = .ok (.iconst 1, 1) := by decide +kernel
theorem dX9_alike_161 : decode cX9_alike 161 = .ok (.goto 4, 3) := by decide +kernel
theorem dX9_alike_164 : decode cX9_alike 164 = .ok (.iconst 0, 1) := by decide +kernel
theorem dX9_alike_165 : decode cX9_alike 165 = .ok (.iadd, 1) := by decide +kernel
theorem dX9_alike_166 : decode cX9_alike 166 = .ok (.istore 9, 2) := by decide +kernel
theorem dX9_alike_168 : decode cX9_alike 168 = .ok (.iinc 10 1, 3) := by decide +kernel
theorem dX9_alike_171 : decode cX9_alike 171 = .ok (.goto (-143), 3) := by decide +kernel
theorem dX9_alike_174 : decode cX9_alike 174 = .ok (.iload 9, 2) := by decide +kernel
theorem dX9_alike_176 : decode cX9_alike 176 = .ok (.iload 7, 2) := by decide +kernel
theorem dX9_alike_178 : decode cX9_alike 178 = .ok (.if_icmp .le 8, 3) := by decide +kernel
theorem dX9_alike_181 : decode cX9_alike 181 = .ok (.iload 9, 2) := by decide +kernel
theorem dX9_alike_183 : decode cX9_alike 183 = .ok (.goto 5, 3) := by decide +kernel
theorem dX9_alike_186 : decode cX9_alike 186 = .ok (.iload 7, 2) := by decide +kernel
theorem dX9_alike_188 : decode cX9_alike 188 = .ok (.istore 7, 2) := by decide +kernel
theorem dX9_alike_190 : decode cX9_alike 190 = .ok (.iinc 8 1, 3) := by decide +kernel
theorem dX9_alike_193 : decode cX9_alike 193 = .ok (.goto (-178), 3) := by decide +kernel
theorem dX9_alike_196 : decode cX9_alike 196 = .ok (.iload 7, 2) := by decide +kernel
theorem dX9_alike_198 : decode cX9_alike 198 = .ok (.ireturn, 1) := by decide +kernel
theorem dX9_looked_0 : decode cX9_looked 0 = .ok (.iconst (-1), 1) := by decide +kernel
theorem dX9_looked_1 : decode cX9_looked 1 = .ok (.istore 4, 2) := by decide +kernel
theorem dX9_looked_3 : decode cX9_looked 3 = .ok (.bipush 11, 2) := by decide +kernel
theorem dX9_looked_5 : decode cX9_looked 5 = .ok (.istore 5, 2) := by decide +kernel
theorem dX9_looked_7 : decode cX9_looked 7 = .ok (.iconst 0, 1) := by decide +kernel
theorem dX9_looked_8 : decode cX9_looked 8 = .ok (.istore 6, 2) := by decide +kernel
theorem dX9_looked_10 : decode cX9_looked 10 = .ok (.iload 6, 2) := by decide +kernel
theorem dX9_looked_12 : decode cX9_looked 12 = .ok (.bipush 20, 2) := by decide +kernel
theorem dX9_looked_14 : decode cX9_looked 14 = .ok (.if_icmp .gt 80, 3) := by decide +kernel
theorem dX9_looked_17 : decode cX9_looked 17 = .ok (.iconst 0, 1) := by decide +kernel
theorem dX9_looked_18 : decode cX9_looked 18 = .ok (.istore 7, 2) := by decide +kernel
theorem dX9_looked_20 : decode cX9_looked 20 = .ok (.iload 7, 2) := by decide +kernel
theorem dX9_looked_22 : decode cX9_looked 22 = .ok (.bipush 10, 2) := by decide +kernel
theorem dX9_looked_24 : decode cX9_looked 24 = .ok (.if_icmp .ge 64, 3) := by decide +kernel
theorem dX9_looked_27 : decode cX9_looked 27 = .ok (.iload_n 2, 1) := by decide +kernel
theorem dX9_looked_28 : decode cX9_looked 28 = .ok (.ifCond .eq 60, 3) := by decide +kernel
theorem dX9_looked_31 : decode cX9_looked 31 = .ok (.aload_n 0, 1) := by decide +kernel
theorem dX9_looked_32 : decode cX9_looked 32 = .ok (.iload_n 1, 1) := by decide +kernel
theorem dX9_looked_33 : decode cX9_looked 33 = .ok (.iload_n 2, 1) := by decide +kernel
theorem dX9_looked_34 : decode cX9_looked 34 = .ok (.iload_n 3, 1) := by decide +kernel
theorem dX9_looked_35 : decode cX9_looked 35 = .ok (.iload 6, 2) := by decide +kernel
theorem dX9_looked_37 : decode cX9_looked 37 = .ok (.iload 7, 2) := by decide +kernel
theorem dX9_looked_39 : decode cX9_looked 39 = .ok (.invokevirtual 243, 3) := by decide +kernel
theorem dX9_looked_42 : decode cX9_looked 42 = .ok (.istore 8, 2) := by decide +kernel
theorem dX9_looked_44 : decode cX9_looked 44 = .ok (.iload 8, 2) := by decide +kernel
theorem dX9_looked_46 : decode cX9_looked 46 = .ok (.iload 5, 2) := by decide +kernel
theorem dX9_looked_48 : decode cX9_looked 48 = .ok (.if_icmp .ge 14, 3) := by decide +kernel
theorem dX9_looked_51 : decode cX9_looked 51 = .ok (.bipush 10, 2) := by decide +kernel
theorem dX9_looked_53 : decode cX9_looked 53 = .ok (.iload 6, 2) := by decide +kernel
theorem dX9_looked_55 : decode cX9_looked 55 = .ok (.imul, 1) := by decide +kernel
theorem dX9_looked_56 : decode cX9_looked 56 = .ok (.iload 7, 2) := by decide +kernel
theorem dX9_looked_58 : decode cX9_looked 58 = .ok (.iadd, 1) := by decide +kernel
theorem dX9_looked_59 : decode cX9_looked 59 = .ok (.goto 5, 3) := by decide +kernel
theorem dX9_looked_62 : decode cX9_looked 62 = .ok (.iload 4, 2) := by decide +kernel
theorem dX9_looked_64 : decode cX9_looked 64 = .ok (.istore 4, 2) := by decide +kernel
theorem dX9_looked_66 : decode cX9_looked 66 = .ok (.iload 8, 2) := by decide +kernel
theorem dX9_looked_68 : decode cX9_looked 68 = .ok (.iload 5, 2) := by decide +kernel
theorem dX9_looked_70 : decode cX9_looked 70 = .ok (.if_icmp .ge 8, 3) := by decide +kernel
theorem dX9_looked_73 : decode cX9_looked 73 = .ok (.iload 8, 2) := by decide +kernel
theorem dX9_looked_75 : decode cX9_looked 75 = .ok (.goto 5, 3) := by decide +kernel
theorem dX9_looked_78 : decode cX9_looked 78 = .ok (.iload 5, 2) := by decide +kernel
theorem dX9_looked_80 : decode cX9_looked 80 = .ok (.istore 5, 2) := by decide +kernel
theorem dX9_looked_82 : decode cX9_looked 82 = .ok (.iinc 7 1, 3) := by decide +kernel
theorem dX9_looked_85 : decode cX9_looked 85 = .ok (.goto (-65), 3) := by decide +kernel
theorem dX9_looked_88 : decode cX9_looked 88 = .ok (.iinc 6 1, 3) := by decide +kernel
theorem dX9_looked_91 : decode cX9_looked 91 = .ok (.goto (-81), 3) := by decide +kernel
theorem dX9_looked_94 : decode cX9_looked 94 = .ok (.iload 4, 2) := by decide +kernel
theorem dX9_looked_96 : decode cX9_looked 96 = .ok (.ireturn, 1) := by decide +kernel
theorem dX9_tell_0 : decode cX9_tell 0 = .ok (.aload_n 0, 1) := by decide +kernel
theorem dX9_tell_1 : decode cX9_tell 1 = .ok (.getfield 17, 3) := by decide +kernel
theorem dX9_tell_4 : decode cX9_tell 4 = .ok (.iload_n 1, 1) := by decide +kernel
theorem dX9_tell_5 : decode cX9_tell 5 = .ok (.invokestatic 68, 3) := by decide +kernel
theorem dX9_tell_8 : decode cX9_tell 8 = .ok (.ifCond .eq 17, 3) := by decide +kernel
theorem dX9_tell_11 : decode cX9_tell 11 = .ok (.aload_n 0, 1) := by decide +kernel
theorem dX9_tell_12 : decode cX9_tell 12 = .ok (.iload_n 1, 1) := by decide +kernel
theorem dX9_tell_13 : decode cX9_tell 13 = .ok (.aload_n 0, 1) := by decide +kernel
theorem dX9_tell_14 : decode cX9_tell 14 = .ok (.iload_n 1, 1) := by decide +kernel
theorem dX9_tell_15 : decode cX9_tell 15 = .ok (.invokevirtual 240, 3) := by decide +kernel
theorem dX9_tell_18 : decode cX9_tell 18 = .ok (.iconst 1, 1) := by decide +kernel
theorem dX9_tell_19 : decode cX9_tell 19 = .ok (.invokevirtual 247, 3) := by decide +kernel
theorem dX9_tell_22 : decode cX9_tell 22 = .ok (.goto 9, 3) := by decide +kernel
theorem dX9_tell_25 : decode cX9_tell 25 = .ok (.aload_n 0, 1) := by decide +kernel
theorem dX9_tell_26 : decode cX9_tell 26 = .ok (.bipush (-2), 2) := by decide +kernel
theorem dX9_tell_28 : decode cX9_tell 28 = .ok (.invokevirtual 61, 3) := by decide +kernel
theorem dX9_tell_31 : decode cX9_tell 31 = .ok (.ireturn, 1) := by decide +kernel
theorem dX9_note_0 : decode cX9_note 0 = .ok (.aload_n 0, 1) := by decide +kernel
theorem dX9_note_1 : decode cX9_note 1 = .ok (.getfield 17, 3) := by decide +kernel
theorem dX9_note_4 : decode cX9_note 4 = .ok (.iload_n 1, 1) := by decide +kernel
theorem dX9_note_5 : decode cX9_note 5 = .ok (.invokestatic 68, 3) := by decide +kernel
theorem dX9_note_8 : decode cX9_note 8 = .ok (.ifCond .eq 56, 3) := by decide +kernel
theorem dX9_note_11 : decode cX9_note 11 = .ok (.iload_n 2, 1) := by decide +kernel
theorem dX9_note_12 : decode cX9_note 12 = .ok (.iconst 0, 1) := by decide +kernel
theorem dX9_note_13 : decode cX9_note 13 = .ok (.bipush 9, 2) := by decide +kernel
theorem dX9_note_15 : decode cX9_note 15 = .ok (.invokestatic 57, 3) := by decide +kernel
theorem dX9_note_18 : decode cX9_note 18 = .ok (.ifCond .eq 46, 3) := by decide +kernel
theorem dX9_note_21 : decode cX9_note 21 = .ok (.iload_n 3, 1) := by decide +kernel
theorem dX9_note_22 : decode cX9_note 22 = .ok (.iconst 0, 1) := by decide +kernel
theorem dX9_note_23 : decode cX9_note 23 = .ok (.bipush 99, 2) := by decide +kernel
theorem dX9_note_25 : decode cX9_note 25 = .ok (.invokestatic 57, 3) := by decide +kernel
theorem dX9_note_28 : decode cX9_note 28 = .ok (.ifCond .eq 36, 3) := by decide +kernel
theorem dX9_note_31 : decode cX9_note 31 = .ok (.iload 4, 2) := by decide +kernel
theorem dX9_note_33 : decode cX9_note 33 = .ok (.iconst 0, 1) := by decide +kernel
theorem dX9_note_34 : decode cX9_note 34 = .ok (.bipush 9, 2) := by decide +kernel
theorem dX9_note_36 : decode cX9_note 36 = .ok (.invokestatic 57, 3) := by decide +kernel
theorem dX9_note_39 : decode cX9_note 39 = .ok (.ifCond .eq 25, 3) := by decide +kernel
theorem dX9_note_42 : decode cX9_note 42 = .ok (.iload 5, 2) := by decide +kernel
theorem dX9_note_44 : decode cX9_note 44 = .ok (.iconst 0, 1) := by decide +kernel
theorem dX9_note_45 : decode cX9_note 45 = .ok (.bipush 44, 2) := by decide +kernel
theorem dX9_note_47 : decode cX9_note 47 = .ok (.invokestatic 57, 3) := by decide +kernel
theorem dX9_note_50 : decode cX9_note 50 = .ok (.ifCond .eq 14, 3) := by decide +kernel
theorem dX9_note_53 : decode cX9_note 53 = .ok (.iload 6, 2) := by decide +kernel
theorem dX9_note_55 : decode cX9_note 55 = .ok (.iconst 0, 1) := by decide +kernel
theorem dX9_note_56 : decode cX9_note 56 = .ok (.bipush 60, 2) := by decide +kernel
theorem dX9_note_58 : decode cX9_note 58 = .ok (.invokestatic 57, 3) := by decide +kernel
theorem dX9_note_61 : decode cX9_note 61 = .ok (.ifCond .ne 10, 3) := by decide +kernel
theorem dX9_note_64 : decode cX9_note 64 = .ok (.aload_n 0, 1) := by decide +kernel
theorem dX9_note_65 : decode cX9_note 65 = .ok (.bipush (-2), 2) := by decide +kernel
theorem dX9_note_67 : decode cX9_note 67 = .ok (.invokevirtual 61, 3) := by decide +kernel
theorem dX9_note_70 : decode cX9_note 70 = .ok (.ireturn, 1) := by decide +kernel
theorem dX9_note_71 : decode cX9_note 71 = .ok (.aload_n 0, 1) := by decide +kernel
theorem dX9_note_72 : decode cX9_note 72 = .ok (.getfield 26, 3) := by decide +kernel
theorem dX9_note_75 : decode cX9_note 75 = .ok (.bipush 26, 2) := by decide +kernel
theorem dX9_note_77 : decode cX9_note 77 = .ok (.iaload, 1) := by decide +kernel
theorem dX9_note_78 : decode cX9_note 78 = .ok (.bipush 6, 2) := by decide +kernel
theorem dX9_note_80 : decode cX9_note 80 = .ok (.if_icmp .ne 8, 3) := by decide +kernel
theorem dX9_note_83 : decode cX9_note 83 = .ok (.aload_n 0, 1) := by decide +kernel
theorem dX9_note_84 : decode cX9_note 84 = .ok (.invokevirtual 114, 3) := by decide +kernel
theorem dX9_note_87 : decode cX9_note 87 = .ok (.ireturn, 1) := by decide +kernel
theorem dX9_note_88 : decode cX9_note 88 = .ok (.bipush 27, 2) := by decide +kernel
theorem dX9_note_90 : decode cX9_note 90 = .ok (.bipush 6, 2) := by decide +kernel
theorem dX9_note_92 : decode cX9_note 92 = .ok (.aload_n 0, 1) := by decide +kernel
theorem dX9_note_93 : decode cX9_note 93 = .ok (.getfield 26, 3) := by decide +kernel
theorem dX9_note_96 : decode cX9_note 96 = .ok (.bipush 26, 2) := by decide +kernel
theorem dX9_note_98 : decode cX9_note 98 = .ok (.iaload, 1) := by decide +kernel
theorem dX9_note_99 : decode cX9_note 99 = .ok (.imul, 1) := by decide +kernel
theorem dX9_note_100 : decode cX9_note 100 = .ok (.iadd, 1) := by decide +kernel
theorem dX9_note_101 : decode cX9_note 101 = .ok (.istore 7, 2) := by decide +kernel
theorem dX9_note_103 : decode cX9_note 103 = .ok (.aload_n 0, 1) := by decide +kernel
theorem dX9_note_104 : decode cX9_note 104 = .ok (.getfield 26, 3) := by decide +kernel
theorem dX9_note_107 : decode cX9_note 107 = .ok (.iload 7, 2) := by decide +kernel
theorem dX9_note_109 : decode cX9_note 109 = .ok (.iload_n 1, 1) := by decide +kernel
theorem dX9_note_110 : decode cX9_note 110 = .ok (.iastore, 1) := by decide +kernel
theorem dX9_note_111 : decode cX9_note 111 = .ok (.aload_n 0, 1) := by decide +kernel
theorem dX9_note_112 : decode cX9_note 112 = .ok (.getfield 26, 3) := by decide +kernel
theorem dX9_note_115 : decode cX9_note 115 = .ok (.iload 7, 2) := by decide +kernel
theorem dX9_note_117 : decode cX9_note 117 = .ok (.iconst 1, 1) := by decide +kernel
theorem dX9_note_118 : decode cX9_note 118 = .ok (.iadd, 1) := by decide +kernel
theorem dX9_note_119 : decode cX9_note 119 = .ok (.iload_n 2, 1) := by decide +kernel
theorem dX9_note_120 : decode cX9_note 120 = .ok (.iastore, 1) := by decide +kernel
theorem dX9_note_121 : decode cX9_note 121 = .ok (.aload_n 0, 1) := by decide +kernel
theorem dX9_note_122 : decode cX9_note 122 = .ok (.getfield 26, 3) := by decide +kernel
theorem dX9_note_125 : decode cX9_note 125 = .ok (.iload 7, 2) := by decide +kernel
theorem dX9_note_127 : decode cX9_note 127 = .ok (.iconst 2, 1) := by decide +kernel
theorem dX9_note_128 : decode cX9_note 128 = .ok (.iadd, 1) := by decide +kernel
theorem dX9_note_129 : decode cX9_note 129 = .ok (.iload_n 3, 1) := by decide +kernel
theorem dX9_note_130 : decode cX9_note 130 = .ok (.iastore, 1) := by decide +kernel
theorem dX9_note_131 : decode cX9_note 131 = .ok (.aload_n 0, 1) := by decide +kernel
theorem dX9_note_132 : decode cX9_note 132 = .ok (.getfield 26, 3) := by decide +kernel
theorem dX9_note_135 : decode cX9_note 135 = .ok (.iload 7, 2) := by decide +kernel
theorem dX9_note_137 : decode cX9_note 137 = .ok (.iconst 3, 1) := by decide +kernel
theorem dX9_note_138 : decode cX9_note 138 = .ok (.iadd, 1) := by decide +kernel
theorem dX9_note_139 : decode cX9_note 139 = .ok (.iload 4, 2) := by decide +kernel
theorem dX9_note_141 : decode cX9_note 141 = .ok (.iastore, 1) := by decide +kernel
theorem dX9_note_142 : decode cX9_note 142 = .ok (.aload_n 0, 1) := by decide +kernel
theorem dX9_note_143 : decode cX9_note 143 = .ok (.getfield 26, 3) := by decide +kernel
theorem dX9_note_146 : decode cX9_note 146 = .ok (.iload 7, 2) := by decide +kernel
theorem dX9_note_148 : decode cX9_note 148 = .ok (.iconst 4, 1) := by decide +kernel
theorem dX9_note_149 : decode cX9_note 149 = .ok (.iadd, 1) := by decide +kernel
theorem dX9_note_150 : decode cX9_note 150 = .ok (.iload 5, 2) := by decide +kernel
theorem dX9_note_152 : decode cX9_note 152 = .ok (.iastore, 1) := by decide +kernel
theorem dX9_note_153 : decode cX9_note 153 = .ok (.aload_n 0, 1) := by decide +kernel
theorem dX9_note_154 : decode cX9_note 154 = .ok (.getfield 26, 3) := by decide +kernel
theorem dX9_note_157 : decode cX9_note 157 = .ok (.iload 7, 2) := by decide +kernel
theorem dX9_note_159 : decode cX9_note 159 = .ok (.iconst 5, 1) := by decide +kernel
theorem dX9_note_160 : decode cX9_note 160 = .ok (.iadd, 1) := by decide +kernel
theorem dX9_note_161 : decode cX9_note 161 = .ok (.iload 6, 2) := by decide +kernel
theorem dX9_note_163 : decode cX9_note 163 = .ok (.iastore, 1) := by decide +kernel
theorem dX9_note_164 : decode cX9_note 164 = .ok (.aload_n 0, 1) := by decide +kernel
theorem dX9_note_165 : decode cX9_note 165 = .ok (.getfield 26, 3) := by decide +kernel
theorem dX9_note_168 : decode cX9_note 168 = .ok (.bipush 26, 2) := by decide +kernel
theorem dX9_note_170 : decode cX9_note 170 = .ok (.dup2, 1) := by decide +kernel
theorem dX9_note_171 : decode cX9_note 171 = .ok (.iaload, 1) := by decide +kernel
theorem dX9_note_172 : decode cX9_note 172 = .ok (.iconst 1, 1) := by decide +kernel
theorem dX9_note_173 : decode cX9_note 173 = .ok (.iadd, 1) := by decide +kernel
theorem dX9_note_174 : decode cX9_note 174 = .ok (.iastore, 1) := by decide +kernel
theorem dX9_note_175 : decode cX9_note 175 = .ok (.aload_n 0, 1) := by decide +kernel
theorem dX9_note_176 : decode cX9_note 176 = .ok (.getfield 26, 3) := by decide +kernel
theorem dX9_note_179 : decode cX9_note 179 = .ok (.bipush 26, 2) := by decide +kernel
theorem dX9_note_181 : decode cX9_note 181 = .ok (.iaload, 1) := by decide +kernel
theorem dX9_note_182 : decode cX9_note 182 = .ok (.ireturn, 1) := by decide +kernel
theorem dX9_kindsOf_0 : decode cX9_kindsOf 0 = .ok (.iconst 0, 1) := by decide +kernel
theorem dX9_kindsOf_1 : decode cX9_kindsOf 1 = .ok (.istore_n 2, 1) := by decide +kernel
theorem dX9_kindsOf_2 : decode cX9_kindsOf 2 = .ok (.iconst 0, 1) := by decide +kernel
theorem dX9_kindsOf_3 : decode cX9_kindsOf 3 = .ok (.istore_n 3, 1) := by decide +kernel
theorem dX9_kindsOf_4 : decode cX9_kindsOf 4 = .ok (.iload_n 3, 1) := by decide +kernel
theorem dX9_kindsOf_5 : decode cX9_kindsOf 5 = .ok (.bipush 6, 2) := by decide +kernel
theorem dX9_kindsOf_7 : decode cX9_kindsOf 7 = .ok (.if_icmp .ge 133, 3) := by decide +kernel
theorem dX9_kindsOf_10 : decode cX9_kindsOf 10 = .ok (.iconst 1, 1) := by decide +kernel
theorem dX9_kindsOf_11 : decode cX9_kindsOf 11 = .ok (.istore 4, 2) := by decide +kernel
theorem dX9_kindsOf_13 : decode cX9_kindsOf 13 = .ok (.iconst 0, 1) := by decide +kernel
theorem dX9_kindsOf_14 : decode cX9_kindsOf 14 = .ok (.istore 5, 2) := by decide +kernel
theorem dX9_kindsOf_16 : decode cX9_kindsOf 16 = .ok (.iload 5, 2) := by decide +kernel
theorem dX9_kindsOf_18 : decode cX9_kindsOf 18 = .ok (.aload_n 0, 1) := by decide +kernel
theorem dX9_kindsOf_19 : decode cX9_kindsOf 19 = .ok (.getfield 26, 3) := by decide +kernel
theorem dX9_kindsOf_22 : decode cX9_kindsOf 22 = .ok (.bipush 26, 2) := by decide +kernel
theorem dX9_kindsOf_24 : decode cX9_kindsOf 24 = .ok (.iaload, 1) := by decide +kernel
theorem dX9_kindsOf_25 : decode cX9_kindsOf 25 = .ok (.if_icmp .ge 94, 3) := by decide +kernel
theorem dX9_kindsOf_28 : decode cX9_kindsOf 28 = .ok (.bipush 27, 2) := by decide +kernel
theorem dX9_kindsOf_30 : decode cX9_kindsOf 30 = .ok (.bipush 6, 2) := by decide +kernel
theorem dX9_kindsOf_32 : decode cX9_kindsOf 32 = .ok (.iload 5, 2) := by decide +kernel
theorem dX9_kindsOf_34 : decode cX9_kindsOf 34 = .ok (.imul, 1) := by decide +kernel
theorem dX9_kindsOf_35 : decode cX9_kindsOf 35 = .ok (.iadd, 1) := by decide +kernel
theorem dX9_kindsOf_36 : decode cX9_kindsOf 36 = .ok (.istore 6, 2) := by decide +kernel
theorem dX9_kindsOf_38 : decode cX9_kindsOf 38 = .ok (.iload 4, 2) := by decide +kernel
theorem dX9_kindsOf_40 : decode cX9_kindsOf 40 = .ok (.ifCond .eq 70, 3) := by decide +kernel
theorem dX9_kindsOf_43 : decode cX9_kindsOf 43 = .ok (.aload_n 0, 1) := by decide +kernel
theorem dX9_kindsOf_44 : decode cX9_kindsOf 44 = .ok (.getfield 26, 3) := by decide +kernel
theorem dX9_kindsOf_47 : decode cX9_kindsOf 47 = .ok (.iload 6, 2) := by decide +kernel
theorem dX9_kindsOf_49 : decode cX9_kindsOf 49 = .ok (.iaload, 1) := by decide +kernel
theorem dX9_kindsOf_50 : decode cX9_kindsOf 50 = .ok (.iload_n 1, 1) := by decide +kernel
theorem dX9_kindsOf_51 : decode cX9_kindsOf 51 = .ok (.if_icmp .ne 55, 3) := by decide +kernel
theorem dX9_kindsOf_54 : decode cX9_kindsOf 54 = .ok (.iload_n 3, 1) := by decide +kernel
theorem dX9_kindsOf_55 : decode cX9_kindsOf 55 = .ok (.aload_n 0, 1) := by decide +kernel
theorem dX9_kindsOf_56 : decode cX9_kindsOf 56 = .ok (.getfield 26, 3) := by decide +kernel
theorem dX9_kindsOf_59 : decode cX9_kindsOf 59 = .ok (.iload 6, 2) := by decide +kernel
theorem dX9_kindsOf_61 : decode cX9_kindsOf 61 = .ok (.iconst 1, 1) := by decide +kernel
theorem dX9_kindsOf_62 : decode cX9_kindsOf 62 = .ok (.iadd, 1) := by decide +kernel
theorem dX9_kindsOf_63 : decode cX9_kindsOf 63 = .ok (.iaload, 1) := by decide +kernel
theorem dX9_kindsOf_64 : decode cX9_kindsOf 64 = .ok (.aload_n 0, 1) := by decide +kernel
theorem dX9_kindsOf_65 : decode cX9_kindsOf 65 = .ok (.getfield 26, 3) := by decide +kernel
theorem dX9_kindsOf_68 : decode cX9_kindsOf 68 = .ok (.iload 6, 2) := by decide +kernel
theorem dX9_kindsOf_70 : decode cX9_kindsOf 70 = .ok (.iconst 3, 1) := by decide +kernel
theorem dX9_kindsOf_71 : decode cX9_kindsOf 71 = .ok (.iadd, 1) := by decide +kernel
theorem dX9_kindsOf_72 : decode cX9_kindsOf 72 = .ok (.iaload, 1) := by decide +kernel
theorem dX9_kindsOf_73 : decode cX9_kindsOf 73 = .ok (.aload_n 0, 1) := by decide +kernel
theorem dX9_kindsOf_74 : decode cX9_kindsOf 74 = .ok (.getfield 26, 3) := by decide +kernel
theorem dX9_kindsOf_77 : decode cX9_kindsOf 77 = .ok (.iload 6, 2) := by decide +kernel
theorem dX9_kindsOf_79 : decode cX9_kindsOf 79 = .ok (.iconst 4, 1) := by decide +kernel
theorem dX9_kindsOf_80 : decode cX9_kindsOf 80 = .ok (.iadd, 1) := by decide +kernel
theorem dX9_kindsOf_81 : decode cX9_kindsOf 81 = .ok (.iaload, 1) := by decide +kernel
theorem dX9_kindsOf_82 : decode cX9_kindsOf 82 = .ok (.aload_n 0, 1) := by decide +kernel
theorem dX9_kindsOf_83 : decode cX9_kindsOf 83 = .ok (.getfield 26, 3) := by decide +kernel
theorem dX9_kindsOf_86 : decode cX9_kindsOf 86 = .ok (.iload 6, 2) := by decide +kernel
theorem dX9_kindsOf_88 : decode cX9_kindsOf 88 = .ok (.iconst 2, 1) := by decide +kernel
theorem dX9_kindsOf_89 : decode cX9_kindsOf 89 = .ok (.iadd, 1) := by decide +kernel
theorem dX9_kindsOf_90 : decode cX9_kindsOf 90 = .ok (.iaload, 1) := by decide +kernel
theorem dX9_kindsOf_91 : decode cX9_kindsOf 91 = .ok (.invokestatic 79, 3) := by decide +kernel
theorem dX9_kindsOf_94 : decode cX9_kindsOf 94 = .ok (.aload_n 0, 1) := by decide +kernel
theorem dX9_kindsOf_95 : decode cX9_kindsOf 95 = .ok (.getfield 26, 3) := by decide +kernel
theorem dX9_kindsOf_98 : decode cX9_kindsOf 98 = .ok (.iload 6, 2) := by decide +kernel
theorem dX9_kindsOf_100 : decode cX9_kindsOf 100 = .ok (.iconst 5, 1) := by decide +kernel
theorem dX9_kindsOf_101 : decode cX9_kindsOf 101 = .ok (.iadd, 1) := by decide +kernel
theorem dX9_kindsOf_102 : decode cX9_kindsOf 102 = .ok (.iaload, 1) := by decide +kernel
theorem dX9_kindsOf_103 : decode cX9_kindsOf 103 = .ok (.if_icmp .ne 7, 3) := by decide +kernel
theorem dX9_kindsOf_106 : decode cX9_kindsOf 106 = .ok (.iconst 1, 1) := by decide +kernel
theorem dX9_kindsOf_107 : decode cX9_kindsOf 107 = .ok (.goto 4, 3) := by decide +kernel
theorem dX9_kindsOf_110 : decode cX9_kindsOf 110 = .ok (.iconst 0, 1) := by decide +kernel
theorem dX9_kindsOf_111 : decode cX9_kindsOf 111 = .ok (.istore 4, 2) := by decide +kernel
theorem dX9_kindsOf_113 : decode cX9_kindsOf 113 = .ok (.iinc 5 1, 3) := by decide +kernel
theorem dX9_kindsOf_116 : decode cX9_kindsOf 116 = .ok (.goto (-100), 3) := by decide +kernel
theorem dX9_kindsOf_119 : decode cX9_kindsOf 119 = .ok (.iload_n 2, 1) := by decide +kernel
theorem dX9_kindsOf_120 : decode cX9_kindsOf 120 = .ok (.iload 4, 2) := by decide +kernel
theorem dX9_kindsOf_122 : decode cX9_kindsOf 122 = .ok (.ifCond .eq 9, 3) := by decide +kernel
theorem dX9_kindsOf_125 : decode cX9_kindsOf 125 = .ok (.iconst 1, 1) := by decide +kernel
theorem dX9_kindsOf_126 : decode cX9_kindsOf 126 = .ok (.iload_n 3, 1) := by decide +kernel
theorem dX9_kindsOf_127 : decode cX9_kindsOf 127 = .ok (.ishl, 1) := by decide +kernel
theorem dX9_kindsOf_128 : decode cX9_kindsOf 128 = .ok (.goto 4, 3) := by decide +kernel
theorem dX9_kindsOf_131 : decode cX9_kindsOf 131 = .ok (.iconst 0, 1) := by decide +kernel
theorem dX9_kindsOf_132 : decode cX9_kindsOf 132 = .ok (.ior, 1) := by decide +kernel
theorem dX9_kindsOf_133 : decode cX9_kindsOf 133 = .ok (.istore_n 2, 1) := by decide +kernel
theorem dX9_kindsOf_134 : decode cX9_kindsOf 134 = .ok (.iinc 3 1, 3) := by decide +kernel
theorem dX9_kindsOf_137 : decode cX9_kindsOf 137 = .ok (.goto (-133), 3) := by decide +kernel
theorem dX9_kindsOf_140 : decode cX9_kindsOf 140 = .ok (.iload_n 2, 1) := by decide +kernel
theorem dX9_kindsOf_141 : decode cX9_kindsOf 141 = .ok (.ireturn, 1) := by decide +kernel
theorem dX9_is_0 : decode cX9_is 0 = .ok (.aload_n 0, 1) := by decide +kernel
theorem dX9_is_1 : decode cX9_is 1 = .ok (.getfield 17, 3) := by decide +kernel
theorem dX9_is_4 : decode cX9_is 4 = .ok (.iload_n 1, 1) := by decide +kernel
theorem dX9_is_5 : decode cX9_is 5 = .ok (.invokestatic 68, 3) := by decide +kernel
theorem dX9_is_8 : decode cX9_is 8 = .ok (.ifCond .eq 11, 3) := by decide +kernel
theorem dX9_is_11 : decode cX9_is 11 = .ok (.aload_n 0, 1) := by decide +kernel
theorem dX9_is_12 : decode cX9_is 12 = .ok (.iload_n 1, 1) := by decide +kernel
theorem dX9_is_13 : decode cX9_is 13 = .ok (.invokevirtual 251, 3) := by decide +kernel
theorem dX9_is_16 : decode cX9_is 16 = .ok (.goto 9, 3) := by decide +kernel
theorem dX9_is_19 : decode cX9_is 19 = .ok (.aload_n 0, 1) := by decide +kernel
theorem dX9_is_20 : decode cX9_is 20 = .ok (.bipush (-2), 2) := by decide +kernel
theorem dX9_is_22 : decode cX9_is 22 = .ok (.invokevirtual 61, 3) := by decide +kernel
theorem dX9_is_25 : decode cX9_is 25 = .ok (.ireturn, 1) := by decide +kernel
theorem dX9_look_0 : decode cX9_look 0 = .ok (.aload_n 0, 1) := by decide +kernel
theorem dX9_look_1 : decode cX9_look 1 = .ok (.getfield 17, 3) := by decide +kernel
theorem dX9_look_4 : decode cX9_look 4 = .ok (.iload_n 1, 1) := by decide +kernel
theorem dX9_look_5 : decode cX9_look 5 = .ok (.invokestatic 68, 3) := by decide +kernel
theorem dX9_look_8 : decode cX9_look 8 = .ok (.ifCond .eq 17, 3) := by decide +kernel
theorem dX9_look_11 : decode cX9_look 11 = .ok (.aload_n 0, 1) := by decide +kernel
theorem dX9_look_12 : decode cX9_look 12 = .ok (.iload_n 1, 1) := by decide +kernel
theorem dX9_look_13 : decode cX9_look 13 = .ok (.aload_n 0, 1) := by decide +kernel
theorem dX9_look_14 : decode cX9_look 14 = .ok (.iload_n 1, 1) := by decide +kernel
theorem dX9_look_15 : decode cX9_look 15 = .ok (.invokevirtual 251, 3) := by decide +kernel
theorem dX9_look_18 : decode cX9_look 18 = .ok (.iconst 0, 1) := by decide +kernel
theorem dX9_look_19 : decode cX9_look 19 = .ok (.invokevirtual 247, 3) := by decide +kernel
theorem dX9_look_22 : decode cX9_look 22 = .ok (.goto 9, 3) := by decide +kernel
theorem dX9_look_25 : decode cX9_look 25 = .ok (.aload_n 0, 1) := by decide +kernel
theorem dX9_look_26 : decode cX9_look 26 = .ok (.bipush (-2), 2) := by decide +kernel
theorem dX9_look_28 : decode cX9_look 28 = .ok (.invokevirtual 61, 3) := by decide +kernel
theorem dX9_look_31 : decode cX9_look 31 = .ok (.ireturn, 1) := by decide +kernel
theorem dX9_mark_0 : decode cX9_mark 0 = .ok (.iload_n 1, 1) := by decide +kernel
theorem dX9_mark_1 : decode cX9_mark 1 = .ok (.iconst 0, 1) := by decide +kernel
theorem dX9_mark_2 : decode cX9_mark 2 = .ok (.aload_n 0, 1) := by decide +kernel
theorem dX9_mark_3 : decode cX9_mark 3 = .ok (.getfield 17, 3) := by decide +kernel
theorem dX9_mark_6 : decode cX9_mark 6 = .ok (.iconst 1, 1) := by decide +kernel
theorem dX9_mark_7 : decode cX9_mark 7 = .ok (.iaload, 1) := by decide +kernel
theorem dX9_mark_8 : decode cX9_mark 8 = .ok (.iconst 1, 1) := by decide +kernel
theorem dX9_mark_9 : decode cX9_mark 9 = .ok (.isub, 1) := by decide +kernel
theorem dX9_mark_10 : decode cX9_mark 10 = .ok (.invokestatic 57, 3) := by decide +kernel
theorem dX9_mark_13 : decode cX9_mark 13 = .ok (.ifCond .eq 45, 3) := by decide +kernel
theorem dX9_mark_16 : decode cX9_mark 16 = .ok (.iload_n 2, 1) := by decide +kernel
theorem dX9_mark_17 : decode cX9_mark 17 = .ok (.iconst 1, 1) := by decide +kernel
theorem dX9_mark_18 : decode cX9_mark 18 = .ok (.bipush 9, 2) := by decide +kernel
theorem dX9_mark_20 : decode cX9_mark 20 = .ok (.invokestatic 57, 3) := by decide +kernel
theorem dX9_mark_23 : decode cX9_mark 23 = .ok (.ifCond .eq 35, 3) := by decide +kernel
theorem dX9_mark_26 : decode cX9_mark 26 = .ok (.iload_n 3, 1) := by decide +kernel
theorem dX9_mark_27 : decode cX9_mark 27 = .ok (.iconst 1, 1) := by decide +kernel
theorem dX9_mark_28 : decode cX9_mark 28 = .ok (.bipush 9, 2) := by decide +kernel
theorem dX9_mark_30 : decode cX9_mark 30 = .ok (.invokestatic 57, 3) := by decide +kernel
theorem dX9_mark_33 : decode cX9_mark 33 = .ok (.ifCond .eq 25, 3) := by decide +kernel
theorem dX9_mark_36 : decode cX9_mark 36 = .ok (.iload 4, 2) := by decide +kernel
theorem dX9_mark_38 : decode cX9_mark 38 = .ok (.iconst 0, 1) := by decide +kernel
theorem dX9_mark_39 : decode cX9_mark 39 = .ok (.bipush 99, 2) := by decide +kernel
theorem dX9_mark_41 : decode cX9_mark 41 = .ok (.invokestatic 57, 3) := by decide +kernel
theorem dX9_mark_44 : decode cX9_mark 44 = .ok (.ifCond .eq 14, 3) := by decide +kernel
theorem dX9_mark_47 : decode cX9_mark 47 = .ok (.iload 5, 2) := by decide +kernel
theorem dX9_mark_49 : decode cX9_mark 49 = .ok (.iconst 0, 1) := by decide +kernel
theorem dX9_mark_50 : decode cX9_mark 50 = .ok (.bipush 60, 2) := by decide +kernel
theorem dX9_mark_52 : decode cX9_mark 52 = .ok (.invokestatic 57, 3) := by decide +kernel
theorem dX9_mark_55 : decode cX9_mark 55 = .ok (.ifCond .ne 10, 3) := by decide +kernel
theorem dX9_mark_58 : decode cX9_mark 58 = .ok (.aload_n 0, 1) := by decide +kernel
theorem dX9_mark_59 : decode cX9_mark 59 = .ok (.bipush (-2), 2) := by decide +kernel
theorem dX9_mark_61 : decode cX9_mark 61 = .ok (.invokevirtual 61, 3) := by decide +kernel
theorem dX9_mark_64 : decode cX9_mark 64 = .ok (.ireturn, 1) := by decide +kernel
theorem dX9_mark_65 : decode cX9_mark 65 = .ok (.aload_n 0, 1) := by decide +kernel
theorem dX9_mark_66 : decode cX9_mark 66 = .ok (.getfield 26, 3) := by decide +kernel
theorem dX9_mark_69 : decode cX9_mark 69 = .ok (.bipush 63, 2) := by decide +kernel
theorem dX9_mark_71 : decode cX9_mark 71 = .ok (.iaload, 1) := by decide +kernel
theorem dX9_mark_72 : decode cX9_mark 72 = .ok (.bipush 6, 2) := by decide +kernel
theorem dX9_mark_74 : decode cX9_mark 74 = .ok (.if_icmp .ne 8, 3) := by decide +kernel
theorem dX9_mark_77 : decode cX9_mark 77 = .ok (.aload_n 0, 1) := by decide +kernel
theorem dX9_mark_78 : decode cX9_mark 78 = .ok (.invokevirtual 114, 3) := by decide +kernel
theorem dX9_mark_81 : decode cX9_mark 81 = .ok (.ireturn, 1) := by decide +kernel
theorem dX9_mark_82 : decode cX9_mark 82 = .ok (.bipush 64, 2) := by decide +kernel
theorem dX9_mark_84 : decode cX9_mark 84 = .ok (.iconst 5, 1) := by decide +kernel
theorem dX9_mark_85 : decode cX9_mark 85 = .ok (.aload_n 0, 1) := by decide +kernel
theorem dX9_mark_86 : decode cX9_mark 86 = .ok (.getfield 26, 3) := by decide +kernel
theorem dX9_mark_89 : decode cX9_mark 89 = .ok (.bipush 63, 2) := by decide +kernel
theorem dX9_mark_91 : decode cX9_mark 91 = .ok (.iaload, 1) := by decide +kernel
theorem dX9_mark_92 : decode cX9_mark 92 = .ok (.imul, 1) := by decide +kernel
theorem dX9_mark_93 : decode cX9_mark 93 = .ok (.iadd, 1) := by decide +kernel
theorem dX9_mark_94 : decode cX9_mark 94 = .ok (.istore 6, 2) := by decide +kernel
theorem dX9_mark_96 : decode cX9_mark 96 = .ok (.aload_n 0, 1) := by decide +kernel
theorem dX9_mark_97 : decode cX9_mark 97 = .ok (.getfield 26, 3) := by decide +kernel
theorem dX9_mark_100 : decode cX9_mark 100 = .ok (.iload 6, 2) := by decide +kernel
theorem dX9_mark_102 : decode cX9_mark 102 = .ok (.iload_n 1, 1) := by decide +kernel
theorem dX9_mark_103 : decode cX9_mark 103 = .ok (.iastore, 1) := by decide +kernel
theorem dX9_mark_104 : decode cX9_mark 104 = .ok (.aload_n 0, 1) := by decide +kernel
theorem dX9_mark_105 : decode cX9_mark 105 = .ok (.getfield 26, 3) := by decide +kernel
theorem dX9_mark_108 : decode cX9_mark 108 = .ok (.iload 6, 2) := by decide +kernel
theorem dX9_mark_110 : decode cX9_mark 110 = .ok (.iconst 1, 1) := by decide +kernel
theorem dX9_mark_111 : decode cX9_mark 111 = .ok (.iadd, 1) := by decide +kernel
theorem dX9_mark_112 : decode cX9_mark 112 = .ok (.iload_n 2, 1) := by decide +kernel
theorem dX9_mark_113 : decode cX9_mark 113 = .ok (.iastore, 1) := by decide +kernel
theorem dX9_mark_114 : decode cX9_mark 114 = .ok (.aload_n 0, 1) := by decide +kernel
theorem dX9_mark_115 : decode cX9_mark 115 = .ok (.getfield 26, 3) := by decide +kernel
theorem dX9_mark_118 : decode cX9_mark 118 = .ok (.iload 6, 2) := by decide +kernel
theorem dX9_mark_120 : decode cX9_mark 120 = .ok (.iconst 2, 1) := by decide +kernel
theorem dX9_mark_121 : decode cX9_mark 121 = .ok (.iadd, 1) := by decide +kernel
theorem dX9_mark_122 : decode cX9_mark 122 = .ok (.iload_n 3, 1) := by decide +kernel
theorem dX9_mark_123 : decode cX9_mark 123 = .ok (.iastore, 1) := by decide +kernel
theorem dX9_mark_124 : decode cX9_mark 124 = .ok (.aload_n 0, 1) := by decide +kernel
theorem dX9_mark_125 : decode cX9_mark 125 = .ok (.getfield 26, 3) := by decide +kernel
theorem dX9_mark_128 : decode cX9_mark 128 = .ok (.iload 6, 2) := by decide +kernel
theorem dX9_mark_130 : decode cX9_mark 130 = .ok (.iconst 3, 1) := by decide +kernel
theorem dX9_mark_131 : decode cX9_mark 131 = .ok (.iadd, 1) := by decide +kernel
theorem dX9_mark_132 : decode cX9_mark 132 = .ok (.iload 4, 2) := by decide +kernel
theorem dX9_mark_134 : decode cX9_mark 134 = .ok (.iastore, 1) := by decide +kernel
theorem dX9_mark_135 : decode cX9_mark 135 = .ok (.aload_n 0, 1) := by decide +kernel
theorem dX9_mark_136 : decode cX9_mark 136 = .ok (.getfield 26, 3) := by decide +kernel
theorem dX9_mark_139 : decode cX9_mark 139 = .ok (.iload 6, 2) := by decide +kernel
theorem dX9_mark_141 : decode cX9_mark 141 = .ok (.iconst 4, 1) := by decide +kernel
theorem dX9_mark_142 : decode cX9_mark 142 = .ok (.iadd, 1) := by decide +kernel
theorem dX9_mark_143 : decode cX9_mark 143 = .ok (.iload 5, 2) := by decide +kernel
theorem dX9_mark_145 : decode cX9_mark 145 = .ok (.iastore, 1) := by decide +kernel
theorem dX9_mark_146 : decode cX9_mark 146 = .ok (.aload_n 0, 1) := by decide +kernel
theorem dX9_mark_147 : decode cX9_mark 147 = .ok (.getfield 26, 3) := by decide +kernel
theorem dX9_mark_150 : decode cX9_mark 150 = .ok (.bipush 63, 2) := by decide +kernel
theorem dX9_mark_152 : decode cX9_mark 152 = .ok (.dup2, 1) := by decide +kernel
theorem dX9_mark_153 : decode cX9_mark 153 = .ok (.iaload, 1) := by decide +kernel
theorem dX9_mark_154 : decode cX9_mark 154 = .ok (.iconst 1, 1) := by decide +kernel
theorem dX9_mark_155 : decode cX9_mark 155 = .ok (.iadd, 1) := by decide +kernel

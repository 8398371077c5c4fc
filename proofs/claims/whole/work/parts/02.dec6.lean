theorem dX9_mark_156 : decode cX9_mark 156 = .ok (.iastore, 1) := by decide +kernel
theorem dX9_mark_157 : decode cX9_mark 157 = .ok (.aload_n 0, 1) := by decide +kernel
theorem dX9_mark_158 : decode cX9_mark 158 = .ok (.getfield 26, 3) := by decide +kernel
theorem dX9_mark_161 : decode cX9_mark 161 = .ok (.bipush 63, 2) := by decide +kernel
theorem dX9_mark_163 : decode cX9_mark 163 = .ok (.iaload, 1) := by decide +kernel
theorem dX9_mark_164 : decode cX9_mark 164 = .ok (.ireturn, 1) := by decide +kernel
theorem dX9_forget_0 : decode cX9_forget 0 = .ok (.iload_n 1, 1) := by decide +kernel
theorem dX9_forget_1 : decode cX9_forget 1 = .ok (.iconst 0, 1) := by decide +kernel
theorem dX9_forget_2 : decode cX9_forget 2 = .ok (.iconst 2, 1) := by decide +kernel
theorem dX9_forget_3 : decode cX9_forget 3 = .ok (.invokestatic 57, 3) := by decide +kernel
theorem dX9_forget_6 : decode cX9_forget 6 = .ok (.ifCond .ne 10, 3) := by decide +kernel
theorem dX9_forget_9 : decode cX9_forget 9 = .ok (.aload_n 0, 1) := by decide +kernel
theorem dX9_forget_10 : decode cX9_forget 10 = .ok (.bipush (-2), 2) := by decide +kernel
theorem dX9_forget_12 : decode cX9_forget 12 = .ok (.invokevirtual 61, 3) := by decide +kernel
theorem dX9_forget_15 : decode cX9_forget 15 = .ok (.ireturn, 1) := by decide +kernel
theorem dX9_forget_16 : decode cX9_forget 16 = .ok (.iload_n 1, 1) := by decide +kernel
theorem dX9_forget_17 : decode cX9_forget 17 = .ok (.ifCond .ne 7, 3) := by decide +kernel
theorem dX9_forget_20 : decode cX9_forget 20 = .ok (.iconst 0, 1) := by decide +kernel
theorem dX9_forget_21 : decode cX9_forget 21 = .ok (.goto 15, 3) := by decide +kernel
theorem dX9_forget_24 : decode cX9_forget 24 = .ok (.iload_n 1, 1) := by decide +kernel
theorem dX9_forget_25 : decode cX9_forget 25 = .ok (.iconst 1, 1) := by decide +kernel
theorem dX9_forget_26 : decode cX9_forget 26 = .ok (.if_icmp .ne 8, 3) := by decide +kernel
theorem dX9_forget_29 : decode cX9_forget 29 = .ok (.bipush 26, 2) := by decide +kernel
theorem dX9_forget_31 : decode cX9_forget 31 = .ok (.goto 5, 3) := by decide +kernel
theorem dX9_forget_34 : decode cX9_forget 34 = .ok (.bipush 63, 2) := by decide +kernel
theorem dX9_forget_36 : decode cX9_forget 36 = .ok (.istore_n 2, 1) := by decide +kernel
theorem dX9_forget_37 : decode cX9_forget 37 = .ok (.aload_n 0, 1) := by decide +kernel
theorem dX9_forget_38 : decode cX9_forget 38 = .ok (.getfield 26, 3) := by decide +kernel
theorem dX9_forget_41 : decode cX9_forget 41 = .ok (.iload_n 2, 1) := by decide +kernel
theorem dX9_forget_42 : decode cX9_forget 42 = .ok (.iaload, 1) := by decide +kernel
theorem dX9_forget_43 : decode cX9_forget 43 = .ok (.istore_n 3, 1) := by decide +kernel
theorem dX9_forget_44 : decode cX9_forget 44 = .ok (.aload_n 0, 1) := by decide +kernel
theorem dX9_forget_45 : decode cX9_forget 45 = .ok (.getfield 26, 3) := by decide +kernel
theorem dX9_forget_48 : decode cX9_forget 48 = .ok (.iload_n 2, 1) := by decide +kernel
theorem dX9_forget_49 : decode cX9_forget 49 = .ok (.iconst 0, 1) := by decide +kernel
theorem dX9_forget_50 : decode cX9_forget 50 = .ok (.iastore, 1) := by decide +kernel
theorem dX9_forget_51 : decode cX9_forget 51 = .ok (.iload_n 3, 1) := by decide +kernel
theorem dX9_forget_52 : decode cX9_forget 52 = .ok (.ireturn, 1) := by decide +kernel
theorem dX9_playersOf_0 : decode cX9_playersOf 0 = .ok (.iconst 0, 1) := by decide +kernel
theorem dX9_playersOf_1 : decode cX9_playersOf 1 = .ok (.istore_n 2, 1) := by decide +kernel
theorem dX9_playersOf_2 : decode cX9_playersOf 2 = .ok (.iconst 0, 1) := by decide +kernel
theorem dX9_playersOf_3 : decode cX9_playersOf 3 = .ok (.istore_n 3, 1) := by decide +kernel
theorem dX9_playersOf_4 : decode cX9_playersOf 4 = .ok (.iload_n 3, 1) := by decide +kernel
theorem dX9_playersOf_5 : decode cX9_playersOf 5 = .ok (.bipush 6, 2) := by decide +kernel
theorem dX9_playersOf_7 : decode cX9_playersOf 7 = .ok (.if_icmp .ge 123, 3) := by decide +kernel
theorem dX9_playersOf_10 : decode cX9_playersOf 10 = .ok (.iconst 1, 1) := by decide +kernel
theorem dX9_playersOf_11 : decode cX9_playersOf 11 = .ok (.istore 4, 2) := by decide +kernel
theorem dX9_playersOf_13 : decode cX9_playersOf 13 = .ok (.iconst 0, 1) := by decide +kernel
theorem dX9_playersOf_14 : decode cX9_playersOf 14 = .ok (.istore 5, 2) := by decide +kernel
theorem dX9_playersOf_16 : decode cX9_playersOf 16 = .ok (.iload 5, 2) := by decide +kernel
theorem dX9_playersOf_18 : decode cX9_playersOf 18 = .ok (.aload_n 0, 1) := by decide +kernel
theorem dX9_playersOf_19 : decode cX9_playersOf 19 = .ok (.getfield 26, 3) := by decide +kernel
theorem dX9_playersOf_22 : decode cX9_playersOf 22 = .ok (.bipush 63, 2) := by decide +kernel
theorem dX9_playersOf_24 : decode cX9_playersOf 24 = .ok (.iaload, 1) := by decide +kernel
theorem dX9_playersOf_25 : decode cX9_playersOf 25 = .ok (.if_icmp .ge 84, 3) := by decide +kernel
theorem dX9_playersOf_28 : decode cX9_playersOf 28 = .ok (.bipush 64, 2) := by decide +kernel
theorem dX9_playersOf_30 : decode cX9_playersOf 30 = .ok (.iconst 5, 1) := by decide +kernel
theorem dX9_playersOf_31 : decode cX9_playersOf 31 = .ok (.iload 5, 2) := by decide +kernel
theorem dX9_playersOf_33 : decode cX9_playersOf 33 = .ok (.imul, 1) := by decide +kernel
theorem dX9_playersOf_34 : decode cX9_playersOf 34 = .ok (.iadd, 1) := by decide +kernel
theorem dX9_playersOf_35 : decode cX9_playersOf 35 = .ok (.istore 6, 2) := by decide +kernel
theorem dX9_playersOf_37 : decode cX9_playersOf 37 = .ok (.iload 4, 2) := by decide +kernel
theorem dX9_playersOf_39 : decode cX9_playersOf 39 = .ok (.ifCond .eq 61, 3) := by decide +kernel
theorem dX9_playersOf_42 : decode cX9_playersOf 42 = .ok (.aload_n 0, 1) := by decide +kernel
theorem dX9_playersOf_43 : decode cX9_playersOf 43 = .ok (.getfield 26, 3) := by decide +kernel
theorem dX9_playersOf_46 : decode cX9_playersOf 46 = .ok (.iload 6, 2) := by decide +kernel
theorem dX9_playersOf_48 : decode cX9_playersOf 48 = .ok (.iaload, 1) := by decide +kernel
theorem dX9_playersOf_49 : decode cX9_playersOf 49 = .ok (.iload_n 1, 1) := by decide +kernel
theorem dX9_playersOf_50 : decode cX9_playersOf 50 = .ok (.if_icmp .ne 46, 3) := by decide +kernel
theorem dX9_playersOf_53 : decode cX9_playersOf 53 = .ok (.iload_n 3, 1) := by decide +kernel
theorem dX9_playersOf_54 : decode cX9_playersOf 54 = .ok (.aload_n 0, 1) := by decide +kernel
theorem dX9_playersOf_55 : decode cX9_playersOf 55 = .ok (.getfield 26, 3) := by decide +kernel
theorem dX9_playersOf_58 : decode cX9_playersOf 58 = .ok (.iload 6, 2) := by decide +kernel
theorem dX9_playersOf_60 : decode cX9_playersOf 60 = .ok (.iconst 1, 1) := by decide +kernel
theorem dX9_playersOf_61 : decode cX9_playersOf 61 = .ok (.iadd, 1) := by decide +kernel
theorem dX9_playersOf_62 : decode cX9_playersOf 62 = .ok (.iaload, 1) := by decide +kernel
theorem dX9_playersOf_63 : decode cX9_playersOf 63 = .ok (.aload_n 0, 1) := by decide +kernel
theorem dX9_playersOf_64 : decode cX9_playersOf 64 = .ok (.getfield 26, 3) := by decide +kernel
theorem dX9_playersOf_67 : decode cX9_playersOf 67 = .ok (.iload 6, 2) := by decide +kernel
theorem dX9_playersOf_69 : decode cX9_playersOf 69 = .ok (.iconst 2, 1) := by decide +kernel
theorem dX9_playersOf_70 : decode cX9_playersOf 70 = .ok (.iadd, 1) := by decide +kernel
theorem dX9_playersOf_71 : decode cX9_playersOf 71 = .ok (.iaload, 1) := by decide +kernel
theorem dX9_playersOf_72 : decode cX9_playersOf 72 = .ok (.aload_n 0, 1) := by decide +kernel
theorem dX9_playersOf_73 : decode cX9_playersOf 73 = .ok (.getfield 26, 3) := by decide +kernel
theorem dX9_playersOf_76 : decode cX9_playersOf 76 = .ok (.iload 6, 2) := by decide +kernel
theorem dX9_playersOf_78 : decode cX9_playersOf 78 = .ok (.iconst 3, 1) := by decide +kernel
theorem dX9_playersOf_79 : decode cX9_playersOf 79 = .ok (.iadd, 1) := by decide +kernel
theorem dX9_playersOf_80 : decode cX9_playersOf 80 = .ok (.iaload, 1) := by decide +kernel
theorem dX9_playersOf_81 : decode cX9_playersOf 81 = .ok (.invokestatic 75, 3) := by decide +kernel
theorem dX9_playersOf_84 : decode cX9_playersOf 84 = .ok (.aload_n 0, 1) := by decide +kernel
theorem dX9_playersOf_85 : decode cX9_playersOf 85 = .ok (.getfield 26, 3) := by decide +kernel
theorem dX9_playersOf_88 : decode cX9_playersOf 88 = .ok (.iload 6, 2) := by decide +kernel
theorem dX9_playersOf_90 : decode cX9_playersOf 90 = .ok (.iconst 4, 1) := by decide +kernel
theorem dX9_playersOf_91 : decode cX9_playersOf 91 = .ok (.iadd, 1) := by decide +kernel
theorem dX9_playersOf_92 : decode cX9_playersOf 92 = .ok (.iaload, 1) := by decide +kernel
theorem dX9_playersOf_93 : decode cX9_playersOf 93 = .ok (.if_icmp .ne 7, 3) := by decide +kernel
theorem dX9_playersOf_96 : decode cX9_playersOf 96 = .ok (.iconst 1, 1) := by decide +kernel
theorem dX9_playersOf_97 : decode cX9_playersOf 97 = .ok (.goto 4, 3) := by decide +kernel
theorem dX9_playersOf_100 : decode cX9_playersOf 100 = .ok (.iconst 0, 1) := by decide +kernel
theorem dX9_playersOf_101 : decode cX9_playersOf 101 = .ok (.istore 4, 2) := by decide +kernel
theorem dX9_playersOf_103 : decode cX9_playersOf 103 = .ok (.iinc 5 1, 3) := by decide +kernel
theorem dX9_playersOf_106 : decode cX9_playersOf 106 = .ok (.goto (-90), 3) := by decide +kernel
theorem dX9_playersOf_109 : decode cX9_playersOf 109 = .ok (.iload_n 2, 1) := by decide +kernel
theorem dX9_playersOf_110 : decode cX9_playersOf 110 = .ok (.iload 4, 2) := by decide +kernel
theorem dX9_playersOf_112 : decode cX9_playersOf 112 = .ok (.ifCond .eq 9, 3) := by decide +kernel
theorem dX9_playersOf_115 : decode cX9_playersOf 115 = .ok (.iconst 1, 1) := by decide +kernel
theorem dX9_playersOf_116 : decode cX9_playersOf 116 = .ok (.iload_n 3, 1) := by decide +kernel
theorem dX9_playersOf_117 : decode cX9_playersOf 117 = .ok (.ishl, 1) := by decide +kernel
theorem dX9_playersOf_118 : decode cX9_playersOf 118 = .ok (.goto 4, 3) := by decide +kernel
theorem dX9_playersOf_121 : decode cX9_playersOf 121 = .ok (.iconst 0, 1) := by decide +kernel
theorem dX9_playersOf_122 : decode cX9_playersOf 122 = .ok (.ior, 1) := by decide +kernel
theorem dX9_playersOf_123 : decode cX9_playersOf 123 = .ok (.istore_n 2, 1) := by decide +kernel
theorem dX9_playersOf_124 : decode cX9_playersOf 124 = .ok (.iinc 3 1, 3) := by decide +kernel
theorem dX9_playersOf_127 : decode cX9_playersOf 127 = .ok (.goto (-123), 3) := by decide +kernel
theorem dX9_playersOf_130 : decode cX9_playersOf 130 = .ok (.iload_n 2, 1) := by decide +kernel
theorem dX9_playersOf_131 : decode cX9_playersOf 131 = .ok (.ireturn, 1) := by decide +kernel
theorem dX9_kinds_0 : decode cX9_kinds 0 = .ok (.iload_n 1, 1) := by decide +kernel
theorem dX9_kinds_1 : decode cX9_kinds 1 = .ok (.iconst 0, 1) := by decide +kernel
theorem dX9_kinds_2 : decode cX9_kinds 2 = .ok (.aload_n 0, 1) := by decide +kernel
theorem dX9_kinds_3 : decode cX9_kinds 3 = .ok (.getfield 17, 3) := by decide +kernel
theorem dX9_kinds_6 : decode cX9_kinds 6 = .ok (.iconst 1, 1) := by decide +kernel
theorem dX9_kinds_7 : decode cX9_kinds 7 = .ok (.iaload, 1) := by decide +kernel
theorem dX9_kinds_8 : decode cX9_kinds 8 = .ok (.iconst 1, 1) := by decide +kernel
theorem dX9_kinds_9 : decode cX9_kinds 9 = .ok (.isub, 1) := by decide +kernel
theorem dX9_kinds_10 : decode cX9_kinds 10 = .ok (.invokestatic 57, 3) := by decide +kernel
theorem dX9_kinds_13 : decode cX9_kinds 13 = .ok (.ifCond .eq 11, 3) := by decide +kernel
theorem dX9_kinds_16 : decode cX9_kinds 16 = .ok (.aload_n 0, 1) := by decide +kernel
theorem dX9_kinds_17 : decode cX9_kinds 17 = .ok (.iload_n 1, 1) := by decide +kernel
theorem dX9_kinds_18 : decode cX9_kinds 18 = .ok (.invokevirtual 254, 3) := by decide +kernel
theorem dX9_kinds_21 : decode cX9_kinds 21 = .ok (.goto 9, 3) := by decide +kernel
theorem dX9_kinds_24 : decode cX9_kinds 24 = .ok (.aload_n 0, 1) := by decide +kernel
theorem dX9_kinds_25 : decode cX9_kinds 25 = .ok (.bipush (-2), 2) := by decide +kernel
theorem dX9_kinds_27 : decode cX9_kinds 27 = .ok (.invokevirtual 61, 3) := by decide +kernel
theorem dX9_kinds_30 : decode cX9_kinds 30 = .ok (.ireturn, 1) := by decide +kernel
theorem dX9_ask_0 : decode cX9_ask 0 = .ok (.iload_n 1, 1) := by decide +kernel
theorem dX9_ask_1 : decode cX9_ask 1 = .ok (.iconst 0, 1) := by decide +kernel
theorem dX9_ask_2 : decode cX9_ask 2 = .ok (.aload_n 0, 1) := by decide +kernel
theorem dX9_ask_3 : decode cX9_ask 3 = .ok (.getfield 17, 3) := by decide +kernel
theorem dX9_ask_6 : decode cX9_ask 6 = .ok (.iconst 1, 1) := by decide +kernel
theorem dX9_ask_7 : decode cX9_ask 7 = .ok (.iaload, 1) := by decide +kernel
theorem dX9_ask_8 : decode cX9_ask 8 = .ok (.iconst 1, 1) := by decide +kernel
theorem dX9_ask_9 : decode cX9_ask 9 = .ok (.isub, 1) := by decide +kernel
theorem dX9_ask_10 : decode cX9_ask 10 = .ok (.invokestatic 57, 3) := by decide +kernel
theorem dX9_ask_13 : decode cX9_ask 13 = .ok (.ifCond .ne 10, 3) := by decide +kernel
theorem dX9_ask_16 : decode cX9_ask 16 = .ok (.aload_n 0, 1) := by decide +kernel
theorem dX9_ask_17 : decode cX9_ask 17 = .ok (.bipush (-2), 2) := by decide +kernel
theorem dX9_ask_19 : decode cX9_ask 19 = .ok (.invokevirtual 61, 3) := by decide +kernel
theorem dX9_ask_22 : decode cX9_ask 22 = .ok (.ireturn, 1) := by decide +kernel
theorem dX9_ask_23 : decode cX9_ask 23 = .ok (.aload_n 0, 1) := by decide +kernel
theorem dX9_ask_24 : decode cX9_ask 24 = .ok (.iload_n 1, 1) := by decide +kernel
theorem dX9_ask_25 : decode cX9_ask 25 = .ok (.invokevirtual 254, 3) := by decide +kernel
theorem dX9_ask_28 : decode cX9_ask 28 = .ok (.istore_n 2, 1) := by decide +kernel
theorem dX9_ask_29 : decode cX9_ask 29 = .ok (.iconst (-1), 1) := by decide +kernel
theorem dX9_ask_30 : decode cX9_ask 30 = .ok (.istore_n 3, 1) := by decide +kernel
theorem dX9_ask_31 : decode cX9_ask 31 = .ok (.bipush 7, 2) := by decide +kernel
theorem dX9_ask_33 : decode cX9_ask 33 = .ok (.istore 4, 2) := by decide +kernel
theorem dX9_ask_35 : decode cX9_ask 35 = .ok (.iconst 0, 1) := by decide +kernel
theorem dX9_ask_36 : decode cX9_ask 36 = .ok (.istore 5, 2) := by decide +kernel
theorem dX9_ask_38 : decode cX9_ask 38 = .ok (.iload 5, 2) := by decide +kernel
theorem dX9_ask_40 : decode cX9_ask 40 = .ok (.bipush 20, 2) := by decide +kernel
theorem dX9_ask_42 : decode cX9_ask 42 = .ok (.if_icmp .gt 186, 3) := by decide +kernel
theorem dX9_ask_45 : decode cX9_ask 45 = .ok (.iconst 1, 1) := by decide +kernel
theorem dX9_ask_46 : decode cX9_ask 46 = .ok (.istore 6, 2) := by decide +kernel
theorem dX9_ask_48 : decode cX9_ask 48 = .ok (.iload 6, 2) := by decide +kernel
theorem dX9_ask_50 : decode cX9_ask 50 = .ok (.bipush 10, 2) := by decide +kernel
theorem dX9_ask_52 : decode cX9_ask 52 = .ok (.if_icmp .ge 170, 3) := by decide +kernel
theorem dX9_ask_55 : decode cX9_ask 55 = .ok (.iload_n 2, 1) := by decide +kernel
theorem dX9_ask_56 : decode cX9_ask 56 = .ok (.ifCond .eq 166, 3) := by decide +kernel
theorem dX9_ask_59 : decode cX9_ask 59 = .ok (.iconst 0, 1) := by decide +kernel
theorem dX9_ask_60 : decode cX9_ask 60 = .ok (.istore 7, 2) := by decide +kernel
theorem dX9_ask_62 : decode cX9_ask 62 = .ok (.iconst 0, 1) := by decide +kernel
theorem dX9_ask_63 : decode cX9_ask 63 = .ok (.istore 8, 2) := by decide +kernel
theorem dX9_ask_65 : decode cX9_ask 65 = .ok (.iload 8, 2) := by decide +kernel
theorem dX9_ask_67 : decode cX9_ask 67 = .ok (.bipush 6, 2) := by decide +kernel
theorem dX9_ask_69 : decode cX9_ask 69 = .ok (.if_icmp .ge 111, 3) := by decide +kernel
theorem dX9_ask_72 : decode cX9_ask 72 = .ok (.iconst 0, 1) := by decide +kernel
theorem dX9_ask_73 : decode cX9_ask 73 = .ok (.istore 9, 2) := by decide +kernel
theorem dX9_ask_75 : decode cX9_ask 75 = .ok (.iconst 0, 1) := by decide +kernel
theorem dX9_ask_76 : decode cX9_ask 76 = .ok (.istore 10, 2) := by decide +kernel
theorem dX9_ask_78 : decode cX9_ask 78 = .ok (.iload 10, 2) := by decide +kernel
theorem dX9_ask_80 : decode cX9_ask 80 = .ok (.bipush 6, 2) := by decide +kernel
theorem dX9_ask_82 : decode cX9_ask 82 = .ok (.if_icmp .ge 76, 3) := by decide +kernel
theorem dX9_ask_85 : decode cX9_ask 85 = .ok (.iload_n 2, 1) := by decide +kernel
theorem dX9_ask_86 : decode cX9_ask 86 = .ok (.iload 8, 2) := by decide +kernel
theorem dX9_ask_88 : decode cX9_ask 88 = .ok (.invokestatic 210, 3) := by decide +kernel
theorem dX9_ask_91 : decode cX9_ask 91 = .ok (.ifCond .eq 67, 3) := by decide +kernel
theorem dX9_ask_94 : decode cX9_ask 94 = .ok (.iload 9, 2) := by decide +kernel
theorem dX9_ask_96 : decode cX9_ask 96 = .ok (.iload_n 2, 1) := by decide +kernel
theorem dX9_ask_97 : decode cX9_ask 97 = .ok (.iload 10, 2) := by decide +kernel
theorem dX9_ask_99 : decode cX9_ask 99 = .ok (.invokestatic 210, 3) := by decide +kernel
theorem dX9_ask_102 : decode cX9_ask 102 = .ok (.ifCond .eq 46, 3) := by decide +kernel
theorem dX9_ask_105 : decode cX9_ask 105 = .ok (.iload 8, 2) := by decide +kernel
theorem dX9_ask_107 : decode cX9_ask 107 = .ok (.aload_n 0, 1) := by decide +kernel
theorem dX9_ask_108 : decode cX9_ask 108 = .ok (.getfield 17, 3) := by decide +kernel
theorem dX9_ask_111 : decode cX9_ask 111 = .ok (.bipush 6, 2) := by decide +kernel
theorem dX9_ask_113 : decode cX9_ask 113 = .ok (.iload_n 1, 1) := by decide +kernel
theorem dX9_ask_114 : decode cX9_ask 114 = .ok (.iadd, 1) := by decide +kernel
theorem dX9_ask_115 : decode cX9_ask 115 = .ok (.iaload, 1) := by decide +kernel
theorem dX9_ask_116 : decode cX9_ask 116 = .ok (.iload 6, 2) := by decide +kernel
theorem dX9_ask_118 : decode cX9_ask 118 = .ok (.iload 5, 2) := by decide +kernel
theorem dX9_ask_120 : decode cX9_ask 120 = .ok (.invokestatic 75, 3) := by decide +kernel
theorem dX9_ask_123 : decode cX9_ask 123 = .ok (.iload 10, 2) := by decide +kernel
theorem dX9_ask_125 : decode cX9_ask 125 = .ok (.aload_n 0, 1) := by decide +kernel
theorem dX9_ask_126 : decode cX9_ask 126 = .ok (.getfield 17, 3) := by decide +kernel
theorem dX9_ask_129 : decode cX9_ask 129 = .ok (.bipush 6, 2) := by decide +kernel
theorem dX9_ask_131 : decode cX9_ask 131 = .ok (.iload_n 1, 1) := by decide +kernel
theorem dX9_ask_132 : decode cX9_ask 132 = .ok (.iadd, 1) := by decide +kernel
theorem dX9_ask_133 : decode cX9_ask 133 = .ok (.iaload, 1) := by decide +kernel
theorem dX9_ask_134 : decode cX9_ask 134 = .ok (.iload 6, 2) := by decide +kernel
theorem dX9_ask_136 : decode cX9_ask 136 = .ok (.iload 5, 2) := by decide +kernel
theorem dX9_ask_138 : decode cX9_ask 138 = .ok (.invokestatic 75, 3) := by decide +kernel
theorem dX9_ask_141 : decode cX9_ask 141 = .ok (.if_icmp .ne 7, 3) := by decide +kernel
theorem dX9_ask_144 : decode cX9_ask 144 = .ok (.iconst 1, 1) := by decide +kernel
theorem dX9_ask_145 : decode cX9_ask 145 = .ok (.goto 4, 3) := by decide +kernel
theorem dX9_ask_148 : decode cX9_ask 148 = .ok (.iconst 0, 1) := by decide +kernel
theorem dX9_ask_149 : decode cX9_ask 149 = .ok (.iadd, 1) := by decide +kernel
theorem dX9_ask_150 : decode cX9_ask 150 = .ok (.istore 9, 2) := by decide +kernel
theorem dX9_ask_152 : decode cX9_ask 152 = .ok (.iinc 10 1, 3) := by decide +kernel
theorem dX9_ask_155 : decode cX9_ask 155 = .ok (.goto (-77), 3) := by decide +kernel
theorem dX9_ask_158 : decode cX9_ask 158 = .ok (.iload 9, 2) := by decide +kernel
theorem dX9_ask_160 : decode cX9_ask 160 = .ok (.iload 7, 2) := by decide +kernel
theorem dX9_ask_162 : decode cX9_ask 162 = .ok (.if_icmp .le 8, 3) := by decide +kernel
theorem dX9_ask_165 : decode cX9_ask 165 = .ok (.iload 9, 2) := by decide +kernel
theorem dX9_ask_167 : decode cX9_ask 167 = .ok (.goto 5, 3) := by decide +kernel
theorem dX9_ask_170 : decode cX9_ask 170 = .ok (.iload 7, 2) := by decide +kernel
theorem dX9_ask_172 : decode cX9_ask 172 = .ok (.istore 7, 2) := by decide +kernel
theorem dX9_ask_174 : decode cX9_ask 174 = .ok (.iinc 8 1, 3) := by decide +kernel
theorem dX9_ask_177 : decode cX9_ask 177 = .ok (.goto (-112), 3) := by decide +kernel
theorem dX9_ask_180 : decode cX9_ask 180 = .ok (.iload 7, 2) := by decide +kernel
theorem dX9_ask_182 : decode cX9_ask 182 = .ok (.iload 4, 2) := by decide +kernel
theorem dX9_ask_184 : decode cX9_ask 184 = .ok (.if_icmp .ge 14, 3) := by decide +kernel
theorem dX9_ask_187 : decode cX9_ask 187 = .ok (.bipush 10, 2) := by decide +kernel
theorem dX9_ask_189 : decode cX9_ask 189 = .ok (.iload 5, 2) := by decide +kernel
theorem dX9_ask_191 : decode cX9_ask 191 = .ok (.imul, 1) := by decide +kernel
theorem dX9_ask_192 : decode cX9_ask 192 = .ok (.iload 6, 2) := by decide +kernel
theorem dX9_ask_194 : decode cX9_ask 194 = .ok (.iadd, 1) := by decide +kernel
theorem dX9_ask_195 : decode cX9_ask 195 = .ok (.goto 4, 3) := by decide +kernel
theorem dX9_ask_198 : decode cX9_ask 198 = .ok (.iload_n 3, 1) := by decide +kernel
theorem dX9_ask_199 : decode cX9_ask 199 = .ok (.istore_n 3, 1) := by decide +kernel
theorem dX9_ask_200 : decode cX9_ask 200 = .ok (.iload 7, 2) := by decide +kernel
theorem dX9_ask_202 : decode cX9_ask 202 = .ok (.iload 4, 2) := by decide +kernel
theorem dX9_ask_204 : decode cX9_ask 204 = .ok (.if_icmp .ge 8, 3) := by decide +kernel
theorem dX9_ask_207 : decode cX9_ask 207 = .ok (.iload 7, 2) := by decide +kernel
theorem dX9_ask_209 : decode cX9_ask 209 = .ok (.goto 5, 3) := by decide +kernel
theorem dX9_ask_212 : decode cX9_ask 212 = .ok (.iload 4, 2) := by decide +kernel
theorem dX9_ask_214 : decode cX9_ask 214 = .ok (.istore 4, 2) := by decide +kernel
theorem dX9_ask_216 : decode cX9_ask 216 = .ok (.iinc 6 1, 3) := by decide +kernel
theorem dX9_ask_219 : decode cX9_ask 219 = .ok (.goto (-171), 3) := by decide +kernel
theorem dX9_ask_222 : decode cX9_ask 222 = .ok (.iinc 5 1, 3) := by decide +kernel
theorem dX9_ask_225 : decode cX9_ask 225 = .ok (.goto (-187), 3) := by decide +kernel
theorem dX9_ask_228 : decode cX9_ask 228 = .ok (.iload_n 3, 1) := by decide +kernel
theorem dX9_ask_229 : decode cX9_ask 229 = .ok (.ireturn, 1) := by decide +kernel
theorem dX9_layGains_0 : decode cX9_layGains 0 = .ok (.iconst 0, 1) := by decide +kernel
theorem dX9_layGains_1 : decode cX9_layGains 1 = .ok (.istore_n 3, 1) := by decide +kernel
theorem dX9_layGains_2 : decode cX9_layGains 2 = .ok (.iload_n 3, 1) := by decide +kernel
theorem dX9_layGains_3 : decode cX9_layGains 3 = .ok (.bipush 36, 2) := by decide +kernel
theorem dX9_layGains_5 : decode cX9_layGains 5 = .ok (.if_icmp .ge 171, 3) := by decide +kernel
theorem dX9_layGains_8 : decode cX9_layGains 8 = .ok (.iload_n 3, 1) := by decide +kernel
theorem dX9_layGains_9 : decode cX9_layGains 9 = .ok (.bipush 6, 2) := by decide +kernel
theorem dX9_layGains_11 : decode cX9_layGains 11 = .ok (.idiv, 1) := by decide +kernel
theorem dX9_layGains_12 : decode cX9_layGains 12 = .ok (.istore 4, 2) := by decide +kernel
theorem dX9_layGains_14 : decode cX9_layGains 14 = .ok (.iload_n 3, 1) := by decide +kernel
theorem dX9_layGains_15 : decode cX9_layGains 15 = .ok (.bipush 6, 2) := by decide +kernel
theorem dX9_layGains_17 : decode cX9_layGains 17 = .ok (.irem, 1) := by decide +kernel
theorem dX9_layGains_18 : decode cX9_layGains 18 = .ok (.istore 5, 2) := by decide +kernel
theorem dX9_layGains_20 : decode cX9_layGains 20 = .ok (.iload_n 1, 1) := by decide +kernel
theorem dX9_layGains_21 : decode cX9_layGains 21 = .ok (.iload 4, 2) := by decide +kernel
theorem dX9_layGains_23 : decode cX9_layGains 23 = .ok (.invokestatic 210, 3) := by decide +kernel
theorem dX9_layGains_26 : decode cX9_layGains 26 = .ok (.ifCond .eq 144, 3) := by decide +kernel
theorem dX9_layGains_29 : decode cX9_layGains 29 = .ok (.iload_n 2, 1) := by decide +kernel
theorem dX9_layGains_30 : decode cX9_layGains 30 = .ok (.iload 5, 2) := by decide +kernel
theorem dX9_layGains_32 : decode cX9_layGains 32 = .ok (.invokestatic 210, 3) := by decide +kernel
theorem dX9_layGains_35 : decode cX9_layGains 35 = .ok (.ifCond .eq 135, 3) := by decide +kernel
theorem dX9_layGains_38 : decode cX9_layGains 38 = .ok (.aload_n 0, 1) := by decide +kernel
theorem dX9_layGains_39 : decode cX9_layGains 39 = .ok (.getfield 17, 3) := by decide +kernel
theorem dX9_layGains_42 : decode cX9_layGains 42 = .ok (.aload_n 0, 1) := by decide +kernel
theorem dX9_layGains_43 : decode cX9_layGains 43 = .ok (.getfield 20, 3) := by decide +kernel
theorem dX9_layGains_46 : decode cX9_layGains 46 = .ok (.invokestatic 190, 3) := by decide +kernel
theorem dX9_layGains_49 : decode cX9_layGains 49 = .ok (.aload_n 0, 1) := by decide +kernel
theorem dX9_layGains_50 : decode cX9_layGains 50 = .ok (.getfield 20, 3) := by decide +kernel
theorem dX9_layGains_53 : decode cX9_layGains 53 = .ok (.iload 4, 2) := by decide +kernel
theorem dX9_layGains_55 : decode cX9_layGains 55 = .ok (.iload 5, 2) := by decide +kernel
theorem dX9_layGains_57 : decode cX9_layGains 57 = .ok (.iconst 1, 1) := by decide +kernel
theorem dX9_layGains_58 : decode cX9_layGains 58 = .ok (.invokestatic 219, 3) := by decide +kernel
theorem dX9_layGains_61 : decode cX9_layGains 61 = .ok (.pop, 1) := by decide +kernel
theorem dX9_layGains_62 : decode cX9_layGains 62 = .ok (.aload_n 0, 1) := by decide +kernel
theorem dX9_layGains_63 : decode cX9_layGains 63 = .ok (.getfield 35, 3) := by decide +kernel
theorem dX9_layGains_66 : decode cX9_layGains 66 = .ok (.iconst 2, 1) := by decide +kernel
theorem dX9_layGains_67 : decode cX9_layGains 67 = .ok (.iload_n 3, 1) := by decide +kernel
theorem dX9_layGains_68 : decode cX9_layGains 68 = .ok (.imul, 1) := by decide +kernel
theorem dX9_layGains_69 : decode cX9_layGains 69 = .ok (.iconst 3, 1) := by decide +kernel
theorem dX9_layGains_70 : decode cX9_layGains 70 = .ok (.aload_n 0, 1) := by decide +kernel
theorem dX9_layGains_71 : decode cX9_layGains 71 = .ok (.getfield 20, 3) := by decide +kernel
theorem dX9_layGains_74 : decode cX9_layGains 74 = .ok (.bipush 39, 2) := by decide +kernel
theorem dX9_layGains_76 : decode cX9_layGains 76 = .ok (.iload 4, 2) := by decide +kernel
theorem dX9_layGains_78 : decode cX9_layGains 78 = .ok (.iadd, 1) := by decide +kernel
theorem dX9_layGains_79 : decode cX9_layGains 79 = .ok (.iaload, 1) := by decide +kernel
theorem dX9_layGains_80 : decode cX9_layGains 80 = .ok (.aload_n 0, 1) := by decide +kernel
theorem dX9_layGains_81 : decode cX9_layGains 81 = .ok (.getfield 17, 3) := by decide +kernel
theorem dX9_layGains_84 : decode cX9_layGains 84 = .ok (.bipush 39, 2) := by decide +kernel
theorem dX9_layGains_86 : decode cX9_layGains 86 = .ok (.iload 4, 2) := by decide +kernel
theorem dX9_layGains_88 : decode cX9_layGains 88 = .ok (.iadd, 1) := by decide +kernel
theorem dX9_layGains_89 : decode cX9_layGains 89 = .ok (.iaload, 1) := by decide +kernel
theorem dX9_layGains_90 : decode cX9_layGains 90 = .ok (.isub, 1) := by decide +kernel
theorem dX9_layGains_91 : decode cX9_layGains 91 = .ok (.imul, 1) := by decide +kernel
theorem dX9_layGains_92 : decode cX9_layGains 92 = .ok (.aload_n 0, 1) := by decide +kernel
theorem dX9_layGains_93 : decode cX9_layGains 93 = .ok (.getfield 20, 3) := by decide +kernel
theorem dX9_layGains_96 : decode cX9_layGains 96 = .ok (.bipush 33, 2) := by decide +kernel
theorem dX9_layGains_98 : decode cX9_layGains 98 = .ok (.iload 4, 2) := by decide +kernel
theorem dX9_layGains_100 : decode cX9_layGains 100 = .ok (.iadd, 1) := by decide +kernel
theorem dX9_layGains_101 : decode cX9_layGains 101 = .ok (.iaload, 1) := by decide +kernel
theorem dX9_layGains_102 : decode cX9_layGains 102 = .ok (.isub, 1) := by decide +kernel
theorem dX9_layGains_103 : decode cX9_layGains 103 = .ok (.aload_n 0, 1) := by decide +kernel
theorem dX9_layGains_104 : decode cX9_layGains 104 = .ok (.getfield 17, 3) := by decide +kernel
theorem dX9_layGains_107 : decode cX9_layGains 107 = .ok (.bipush 33, 2) := by decide +kernel
theorem dX9_layGains_109 : decode cX9_layGains 109 = .ok (.iload 4, 2) := by decide +kernel
theorem dX9_layGains_111 : decode cX9_layGains 111 = .ok (.iadd, 1) := by decide +kernel
theorem dX9_layGains_112 : decode cX9_layGains 112 = .ok (.iaload, 1) := by decide +kernel
theorem dX9_layGains_113 : decode cX9_layGains 113 = .ok (.iadd, 1) := by decide +kernel
theorem dX9_layGains_114 : decode cX9_layGains 114 = .ok (.iastore, 1) := by decide +kernel
theorem dX9_layGains_115 : decode cX9_layGains 115 = .ok (.aload_n 0, 1) := by decide +kernel
theorem dX9_layGains_116 : decode cX9_layGains 116 = .ok (.getfield 35, 3) := by decide +kernel
theorem dX9_layGains_119 : decode cX9_layGains 119 = .ok (.iconst 2, 1) := by decide +kernel
theorem dX9_layGains_120 : decode cX9_layGains 120 = .ok (.iload_n 3, 1) := by decide +kernel
theorem dX9_layGains_121 : decode cX9_layGains 121 = .ok (.imul, 1) := by decide +kernel
theorem dX9_layGains_122 : decode cX9_layGains 122 = .ok (.iconst 1, 1) := by decide +kernel
theorem dX9_layGains_123 : decode cX9_layGains 123 = .ok (.iadd, 1) := by decide +kernel
theorem dX9_layGains_124 : decode cX9_layGains 124 = .ok (.iconst 3, 1) := by decide +kernel
theorem dX9_layGains_125 : decode cX9_layGains 125 = .ok (.aload_n 0, 1) := by decide +kernel
theorem dX9_layGains_126 : decode cX9_layGains 126 = .ok (.getfield 20, 3) := by decide +kernel
theorem dX9_layGains_129 : decode cX9_layGains 129 = .ok (.bipush 39, 2) := by decide +kernel
theorem dX9_layGains_131 : decode cX9_layGains 131 = .ok (.iload 5, 2) := by decide +kernel
theorem dX9_layGains_133 : decode cX9_layGains 133 = .ok (.iadd, 1) := by decide +kernel
theorem dX9_layGains_134 : decode cX9_layGains 134 = .ok (.iaload, 1) := by decide +kernel
theorem dX9_layGains_135 : decode cX9_layGains 135 = .ok (.aload_n 0, 1) := by decide +kernel
theorem dX9_layGains_136 : decode cX9_layGains 136 = .ok (.getfield 17, 3) := by decide +kernel
theorem dX9_layGains_139 : decode cX9_layGains 139 = .ok (.bipush 39, 2) := by decide +kernel
theorem dX9_layGains_141 : decode cX9_layGains 141 = .ok (.iload 5, 2) := by decide +kernel
theorem dX9_layGains_143 : decode cX9_layGains 143 = .ok (.iadd, 1) := by decide +kernel
theorem dX9_layGains_144 : decode cX9_layGains 144 = .ok (.iaload, 1) := by decide +kernel
theorem dX9_layGains_145 : decode cX9_layGains 145 = .ok (.isub, 1) := by decide +kernel
theorem dX9_layGains_146 : decode cX9_layGains 146 = .ok (.imul, 1) := by decide +kernel
theorem dX9_layGains_147 : decode cX9_layGains 147 = .ok (.aload_n 0, 1) := by decide +kernel
theorem dX9_layGains_148 : decode cX9_layGains 148 = .ok (.getfield 20, 3) := by decide +kernel
theorem dX9_layGains_151 : decode cX9_layGains 151 = .ok (.bipush 33, 2) := by decide +kernel
theorem dX9_layGains_153 : decode cX9_layGains 153 = .ok (.iload 5, 2) := by decide +kernel
theorem dX9_layGains_155 : decode cX9_layGains 155 = .ok (.iadd, 1) := by decide +kernel
theorem dX9_layGains_156 : decode cX9_layGains 156 = .ok (.iaload, 1) := by decide +kernel
theorem dX9_layGains_157 : decode cX9_layGains 157 = .ok (.isub, 1) := by decide +kernel
theorem dX9_layGains_158 : decode cX9_layGains 158 = .ok (.aload_n 0, 1) := by decide +kernel
theorem dX9_layGains_159 : decode cX9_layGains 159 = .ok (.getfield 17, 3) := by decide +kernel
theorem dX9_layGains_162 : decode cX9_layGains 162 = .ok (.bipush 33, 2) := by decide +kernel
theorem dX9_layGains_164 : decode cX9_layGains 164 = .ok (.iload 5, 2) := by decide +kernel
theorem dX9_layGains_166 : decode cX9_layGains 166 = .ok (.iadd, 1) := by decide +kernel
theorem dX9_layGains_167 : decode cX9_layGains 167 = .ok (.iaload, 1) := by decide +kernel
theorem dX9_layGains_168 : decode cX9_layGains 168 = .ok (.iadd, 1) := by decide +kernel
theorem dX9_layGains_169 : decode cX9_layGains 169 = .ok (.iastore, 1) := by decide +kernel
theorem dX9_layGains_170 : decode cX9_layGains 170 = .ok (.iinc 3 1, 3) := by decide +kernel
theorem dX9_layGains_173 : decode cX9_layGains 173 = .ok (.goto (-171), 3) := by decide +kernel
theorem dX9_layGains_176 : decode cX9_layGains 176 = .ok (.return_, 1) := by decide +kernel
theorem dX9_rests_0 : decode cX9_rests 0 = .ok (.iload_n 3, 1) := by decide +kernel
theorem dX9_rests_1 : decode cX9_rests 1 = .ok (.bipush 6, 2) := by decide +kernel
theorem dX9_rests_3 : decode cX9_rests 3 = .ok (.idiv, 1) := by decide +kernel
theorem dX9_rests_4 : decode cX9_rests 4 = .ok (.istore 4, 2) := by decide +kernel
theorem dX9_rests_6 : decode cX9_rests 6 = .ok (.iload_n 3, 1) := by decide +kernel
theorem dX9_rests_7 : decode cX9_rests 7 = .ok (.bipush 6, 2) := by decide +kernel
theorem dX9_rests_9 : decode cX9_rests 9 = .ok (.irem, 1) := by decide +kernel
theorem dX9_rests_10 : decode cX9_rests 10 = .ok (.istore 5, 2) := by decide +kernel
theorem dX9_rests_12 : decode cX9_rests 12 = .ok (.iload_n 1, 1) := by decide +kernel
theorem dX9_rests_13 : decode cX9_rests 13 = .ok (.iload 4, 2) := by decide +kernel
theorem dX9_rests_15 : decode cX9_rests 15 = .ok (.invokestatic 210, 3) := by decide +kernel
theorem dX9_rests_18 : decode cX9_rests 18 = .ok (.ifCond .eq 16, 3) := by decide +kernel
theorem dX9_rests_21 : decode cX9_rests 21 = .ok (.iload_n 2, 1) := by decide +kernel
theorem dX9_rests_22 : decode cX9_rests 22 = .ok (.iload 5, 2) := by decide +kernel
theorem dX9_rests_24 : decode cX9_rests 24 = .ok (.invokestatic 210, 3) := by decide +kernel
theorem dX9_rests_27 : decode cX9_rests 27 = .ok (.ifCond .eq 7, 3) := by decide +kernel
theorem dX9_rests_30 : decode cX9_rests 30 = .ok (.iconst 1, 1) := by decide +kernel
theorem dX9_rests_31 : decode cX9_rests 31 = .ok (.goto 4, 3) := by decide +kernel
theorem dX9_rests_34 : decode cX9_rests 34 = .ok (.iconst 0, 1) := by decide +kernel
theorem dX9_rests_35 : decode cX9_rests 35 = .ok (.istore 6, 2) := by decide +kernel
theorem dX9_rests_37 : decode cX9_rests 37 = .ok (.iconst 0, 1) := by decide +kernel
theorem dX9_rests_38 : decode cX9_rests 38 = .ok (.istore 7, 2) := by decide +kernel
theorem dX9_rests_40 : decode cX9_rests 40 = .ok (.iload 7, 2) := by decide +kernel
theorem dX9_rests_42 : decode cX9_rests 42 = .ok (.bipush 6, 2) := by decide +kernel
theorem dX9_rests_44 : decode cX9_rests 44 = .ok (.if_icmp .ge 119, 3) := by decide +kernel
theorem dX9_rests_47 : decode cX9_rests 47 = .ok (.iload 6, 2) := by decide +kernel
theorem dX9_rests_49 : decode cX9_rests 49 = .ok (.ifCond .eq 114, 3) := by decide +kernel
theorem dX9_rests_52 : decode cX9_rests 52 = .ok (.iload_n 1, 1) := by decide +kernel
theorem dX9_rests_53 : decode cX9_rests 53 = .ok (.iload 7, 2) := by decide +kernel
theorem dX9_rests_55 : decode cX9_rests 55 = .ok (.invokestatic 210, 3) := by decide +kernel
theorem dX9_rests_58 : decode cX9_rests 58 = .ok (.ifCond .eq 33, 3) := by decide +kernel
theorem dX9_rests_61 : decode cX9_rests 61 = .ok (.aload_n 0, 1) := by decide +kernel
theorem dX9_rests_62 : decode cX9_rests 62 = .ok (.getfield 35, 3) := by decide +kernel
theorem dX9_rests_65 : decode cX9_rests 65 = .ok (.iconst 2, 1) := by decide +kernel
theorem dX9_rests_66 : decode cX9_rests 66 = .ok (.bipush 6, 2) := by decide +kernel
theorem dX9_rests_68 : decode cX9_rests 68 = .ok (.iload 7, 2) := by decide +kernel
theorem dX9_rests_70 : decode cX9_rests 70 = .ok (.imul, 1) := by decide +kernel
theorem dX9_rests_71 : decode cX9_rests 71 = .ok (.iload 5, 2) := by decide +kernel
theorem dX9_rests_73 : decode cX9_rests 73 = .ok (.iadd, 1) := by decide +kernel
theorem dX9_rests_74 : decode cX9_rests 74 = .ok (.imul, 1) := by decide +kernel
theorem dX9_rests_75 : decode cX9_rests 75 = .ok (.iaload, 1) := by decide +kernel
theorem dX9_rests_76 : decode cX9_rests 76 = .ok (.aload_n 0, 1) := by decide +kernel
theorem dX9_rests_77 : decode cX9_rests 77 = .ok (.getfield 35, 3) := by decide +kernel
theorem dX9_rests_80 : decode cX9_rests 80 = .ok (.iconst 2, 1) := by decide +kernel
theorem dX9_rests_81 : decode cX9_rests 81 = .ok (.iload_n 3, 1) := by decide +kernel
theorem dX9_rests_82 : decode cX9_rests 82 = .ok (.imul, 1) := by decide +kernel
theorem dX9_rests_83 : decode cX9_rests 83 = .ok (.iaload, 1) := by decide +kernel
theorem dX9_rests_84 : decode cX9_rests 84 = .ok (.if_icmp .le 7, 3) := by decide +kernel
theorem dX9_rests_87 : decode cX9_rests 87 = .ok (.iconst 1, 1) := by decide +kernel
theorem dX9_rests_88 : decode cX9_rests 88 = .ok (.goto 4, 3) := by decide +kernel
theorem dX9_rests_91 : decode cX9_rests 91 = .ok (.iconst 0, 1) := by decide +kernel
theorem dX9_rests_92 : decode cX9_rests 92 = .ok (.istore 8, 2) := by decide +kernel
theorem dX9_rests_94 : decode cX9_rests 94 = .ok (.iload_n 2, 1) := by decide +kernel
theorem dX9_rests_95 : decode cX9_rests 95 = .ok (.iload 7, 2) := by decide +kernel
theorem dX9_rests_97 : decode cX9_rests 97 = .ok (.invokestatic 210, 3) := by decide +kernel
theorem dX9_rests_100 : decode cX9_rests 100 = .ok (.ifCond .eq 37, 3) := by decide +kernel
theorem dX9_rests_103 : decode cX9_rests 103 = .ok (.aload_n 0, 1) := by decide +kernel
theorem dX9_rests_104 : decode cX9_rests 104 = .ok (.getfield 35, 3) := by decide +kernel
theorem dX9_rests_107 : decode cX9_rests 107 = .ok (.iconst 2, 1) := by decide +kernel
theorem dX9_rests_108 : decode cX9_rests 108 = .ok (.bipush 6, 2) := by decide +kernel
theorem dX9_rests_110 : decode cX9_rests 110 = .ok (.iload 4, 2) := by decide +kernel
theorem dX9_rests_112 : decode cX9_rests 112 = .ok (.imul, 1) := by decide +kernel
theorem dX9_rests_113 : decode cX9_rests 113 = .ok (.iload 7, 2) := by decide +kernel
theorem dX9_rests_115 : decode cX9_rests 115 = .ok (.iadd, 1) := by decide +kernel
theorem dX9_rests_116 : decode cX9_rests 116 = .ok (.imul, 1) := by decide +kernel
theorem dX9_rests_117 : decode cX9_rests 117 = .ok (.iconst 1, 1) := by decide +kernel
theorem dX9_rests_118 : decode cX9_rests 118 = .ok (.iadd, 1) := by decide +kernel
theorem dX9_rests_119 : decode cX9_rests 119 = .ok (.iaload, 1) := by decide +kernel
theorem dX9_rests_120 : decode cX9_rests 120 = .ok (.aload_n 0, 1) := by decide +kernel
theorem dX9_rests_121 : decode cX9_rests 121 = .ok (.getfield 35, 3) := by decide +kernel
theorem dX9_rests_124 : decode cX9_rests 124 = .ok (.iconst 2, 1) := by decide +kernel
theorem dX9_rests_125 : decode cX9_rests 125 = .ok (.iload_n 3, 1) := by decide +kernel
theorem dX9_rests_126 : decode cX9_rests 126 = .ok (.imul, 1) := by decide +kernel
theorem dX9_rests_127 : decode cX9_rests 127 = .ok (.iconst 1, 1) := by decide +kernel
theorem dX9_rests_128 : decode cX9_rests 128 = .ok (.iadd, 1) := by decide +kernel
theorem dX9_rests_129 : decode cX9_rests 129 = .ok (.iaload, 1) := by decide +kernel
theorem dX9_rests_130 : decode cX9_rests 130 = .ok (.if_icmp .le 7, 3) := by decide +kernel
theorem dX9_rests_133 : decode cX9_rests 133 = .ok (.iconst 1, 1) := by decide +kernel
theorem dX9_rests_134 : decode cX9_rests 134 = .ok (.goto 4, 3) := by decide +kernel
theorem dX9_rests_137 : decode cX9_rests 137 = .ok (.iconst 0, 1) := by decide +kernel
theorem dX9_rests_138 : decode cX9_rests 138 = .ok (.istore 9, 2) := by decide +kernel
theorem dX9_rests_140 : decode cX9_rests 140 = .ok (.iload 8, 2) := by decide +kernel
theorem dX9_rests_142 : decode cX9_rests 142 = .ok (.ifCond .ne 12, 3) := by decide +kernel
theorem dX9_rests_145 : decode cX9_rests 145 = .ok (.iload 9, 2) := by decide +kernel
theorem dX9_rests_147 : decode cX9_rests 147 = .ok (.ifCond .ne 7, 3) := by decide +kernel
theorem dX9_rests_150 : decode cX9_rests 150 = .ok (.iconst 1, 1) := by decide +kernel
theorem dX9_rests_151 : decode cX9_rests 151 = .ok (.goto 4, 3) := by decide +kernel
theorem dX9_rests_154 : decode cX9_rests 154 = .ok (.iconst 0, 1) := by decide +kernel
theorem dX9_rests_155 : decode cX9_rests 155 = .ok (.istore 6, 2) := by decide +kernel
theorem dX9_rests_157 : decode cX9_rests 157 = .ok (.iinc 7 1, 3) := by decide +kernel
theorem dX9_rests_160 : decode cX9_rests 160 = .ok (.goto (-120), 3) := by decide +kernel
theorem dX9_rests_163 : decode cX9_rests 163 = .ok (.iload 6, 2) := by decide +kernel
theorem dX9_rests_165 : decode cX9_rests 165 = .ok (.ireturn, 1) := by decide +kernel
theorem dX9_pair_0 : decode cX9_pair 0 = .ok (.iload_n 1, 1) := by decide +kernel
theorem dX9_pair_1 : decode cX9_pair 1 = .ok (.iconst 0, 1) := by decide +kernel
theorem dX9_pair_2 : decode cX9_pair 2 = .ok (.aload_n 0, 1) := by decide +kernel
theorem dX9_pair_3 : decode cX9_pair 3 = .ok (.getfield 17, 3) := by decide +kernel
theorem dX9_pair_6 : decode cX9_pair 6 = .ok (.iconst 1, 1) := by decide +kernel
theorem dX9_pair_7 : decode cX9_pair 7 = .ok (.iaload, 1) := by decide +kernel
theorem dX9_pair_8 : decode cX9_pair 8 = .ok (.iconst 1, 1) := by decide +kernel
theorem dX9_pair_9 : decode cX9_pair 9 = .ok (.isub, 1) := by decide +kernel
theorem dX9_pair_10 : decode cX9_pair 10 = .ok (.invokestatic 57, 3) := by decide +kernel
theorem dX9_pair_13 : decode cX9_pair 13 = .ok (.ifCond .eq 29, 3) := by decide +kernel
theorem dX9_pair_16 : decode cX9_pair 16 = .ok (.iload_n 2, 1) := by decide +kernel
theorem dX9_pair_17 : decode cX9_pair 17 = .ok (.iconst 0, 1) := by decide +kernel
theorem dX9_pair_18 : decode cX9_pair 18 = .ok (.aload_n 0, 1) := by decide +kernel
theorem dX9_pair_19 : decode cX9_pair 19 = .ok (.getfield 17, 3) := by decide +kernel
theorem dX9_pair_22 : decode cX9_pair 22 = .ok (.iconst 1, 1) := by decide +kernel
theorem dX9_pair_23 : decode cX9_pair 23 = .ok (.iaload, 1) := by decide +kernel
theorem dX9_pair_24 : decode cX9_pair 24 = .ok (.iconst 1, 1) := by decide +kernel
theorem dX9_pair_25 : decode cX9_pair 25 = .ok (.isub, 1) := by decide +kernel
theorem dX9_pair_26 : decode cX9_pair 26 = .ok (.invokestatic 57, 3) := by decide +kernel
theorem dX9_pair_29 : decode cX9_pair 29 = .ok (.ifCond .eq 13, 3) := by decide +kernel
theorem dX9_pair_32 : decode cX9_pair 32 = .ok (.iload_n 1, 1) := by decide +kernel
theorem dX9_pair_33 : decode cX9_pair 33 = .ok (.iload_n 2, 1) := by decide +kernel
theorem dX9_pair_34 : decode cX9_pair 34 = .ok (.if_icmp .eq 8, 3) := by decide +kernel
theorem dX9_pair_37 : decode cX9_pair 37 = .ok (.iload_n 3, 1) := by decide +kernel
theorem dX9_pair_38 : decode cX9_pair 38 = .ok (.iconst (-1), 1) := by decide +kernel
theorem dX9_pair_39 : decode cX9_pair 39 = .ok (.if_icmp .ge 10, 3) := by decide +kernel
theorem dX9_pair_42 : decode cX9_pair 42 = .ok (.aload_n 0, 1) := by decide +kernel
theorem dX9_pair_43 : decode cX9_pair 43 = .ok (.bipush (-10), 2) := by decide +kernel
theorem dX9_pair_45 : decode cX9_pair 45 = .ok (.invokevirtual 61, 3) := by decide +kernel
theorem dX9_pair_48 : decode cX9_pair 48 = .ok (.ireturn, 1) := by decide +kernel
theorem dX9_pair_49 : decode cX9_pair 49 = .ok (.aload_n 0, 1) := by decide +kernel
theorem dX9_pair_50 : decode cX9_pair 50 = .ok (.iload_n 1, 1) := by decide +kernel
theorem dX9_pair_51 : decode cX9_pair 51 = .ok (.invokevirtual 213, 3) := by decide +kernel
theorem dX9_pair_54 : decode cX9_pair 54 = .ok (.istore 4, 2) := by decide +kernel
theorem dX9_pair_56 : decode cX9_pair 56 = .ok (.aload_n 0, 1) := by decide +kernel
theorem dX9_pair_57 : decode cX9_pair 57 = .ok (.iload_n 2, 1) := by decide +kernel
theorem dX9_pair_58 : decode cX9_pair 58 = .ok (.invokevirtual 213, 3) := by decide +kernel
theorem dX9_pair_61 : decode cX9_pair 61 = .ok (.istore 5, 2) := by decide +kernel
theorem dX9_pair_63 : decode cX9_pair 63 = .ok (.aload_n 0, 1) := by decide +kernel
theorem dX9_pair_64 : decode cX9_pair 64 = .ok (.iload 4, 2) := by decide +kernel
theorem dX9_pair_66 : decode cX9_pair 66 = .ok (.iload 5, 2) := by decide +kernel
theorem dX9_pair_68 : decode cX9_pair 68 = .ok (.invokevirtual 257, 3) := by decide +kernel
theorem dX9_pair_71 : decode cX9_pair 71 = .ok (.iconst 0, 1) := by decide +kernel
theorem dX9_pair_72 : decode cX9_pair 72 = .ok (.istore 6, 2) := by decide +kernel
theorem dX9_pair_74 : decode cX9_pair 74 = .ok (.iconst 0, 1) := by decide +kernel
theorem dX9_pair_75 : decode cX9_pair 75 = .ok (.istore 7, 2) := by decide +kernel
theorem dX9_pair_77 : decode cX9_pair 77 = .ok (.iload 7, 2) := by decide +kernel
theorem dX9_pair_79 : decode cX9_pair 79 = .ok (.bipush 36, 2) := by decide +kernel
theorem dX9_pair_81 : decode cX9_pair 81 = .ok (.if_icmp .ge 46, 3) := by decide +kernel
theorem dX9_pair_84 : decode cX9_pair 84 = .ok (.aload_n 0, 1) := by decide +kernel
theorem dX9_pair_85 : decode cX9_pair 85 = .ok (.iload 4, 2) := by decide +kernel
theorem dX9_pair_87 : decode cX9_pair 87 = .ok (.iload 5, 2) := by decide +kernel
theorem dX9_pair_89 : decode cX9_pair 89 = .ok (.iload 7, 2) := by decide +kernel
theorem dX9_pair_91 : decode cX9_pair 91 = .ok (.invokevirtual 261, 3) := by decide +kernel
theorem dX9_pair_94 : decode cX9_pair 94 = .ok (.ifCond .eq 27, 3) := by decide +kernel
theorem dX9_pair_97 : decode cX9_pair 97 = .ok (.iload 6, 2) := by decide +kernel
theorem dX9_pair_99 : decode cX9_pair 99 = .ok (.iload_n 3, 1) := by decide +kernel
theorem dX9_pair_100 : decode cX9_pair 100 = .ok (.if_icmp .ne 18, 3) := by decide +kernel
theorem dX9_pair_103 : decode cX9_pair 103 = .ok (.bipush 10, 2) := by decide +kernel
theorem dX9_pair_105 : decode cX9_pair 105 = .ok (.iload 7, 2) := by decide +kernel
theorem dX9_pair_107 : decode cX9_pair 107 = .ok (.bipush 6, 2) := by decide +kernel
theorem dX9_pair_109 : decode cX9_pair 109 = .ok (.idiv, 1) := by decide +kernel
theorem dX9_pair_110 : decode cX9_pair 110 = .ok (.imul, 1) := by decide +kernel
theorem dX9_pair_111 : decode cX9_pair 111 = .ok (.iload 7, 2) := by decide +kernel
theorem dX9_pair_113 : decode cX9_pair 113 = .ok (.bipush 6, 2) := by decide +kernel
theorem dX9_pair_115 : decode cX9_pair 115 = .ok (.irem, 1) := by decide +kernel
theorem dX9_pair_116 : decode cX9_pair 116 = .ok (.iadd, 1) := by decide +kernel
theorem dX9_pair_117 : decode cX9_pair 117 = .ok (.ireturn, 1) := by decide +kernel
theorem dX9_pair_118 : decode cX9_pair 118 = .ok (.iinc 6 1, 3) := by decide +kernel
theorem dX9_pair_121 : decode cX9_pair 121 = .ok (.iinc 7 1, 3) := by decide +kernel
theorem dX9_pair_124 : decode cX9_pair 124 = .ok (.goto (-47), 3) := by decide +kernel
theorem dX9_pair_127 : decode cX9_pair 127 = .ok (.iload_n 3, 1) := by decide +kernel
theorem dX9_pair_128 : decode cX9_pair 128 = .ok (.iconst (-1), 1) := by decide +kernel
theorem dX9_pair_129 : decode cX9_pair 129 = .ok (.if_icmp .ne 8, 3) := by decide +kernel
theorem dX9_pair_132 : decode cX9_pair 132 = .ok (.iload 6, 2) := by decide +kernel
theorem dX9_pair_134 : decode cX9_pair 134 = .ok (.goto 5, 3) := by decide +kernel
theorem dX9_pair_137 : decode cX9_pair 137 = .ok (.bipush (-5), 2) := by decide +kernel
theorem dX9_pair_139 : decode cX9_pair 139 = .ok (.ireturn, 1) := by decide +kernel
theorem dX9_odds_0 : decode cX9_odds 0 = .ok (.aload_n 0, 1) := by decide +kernel
theorem dX9_odds_1 : decode cX9_odds 1 = .ok (.iload_n 1, 1) := by decide +kernel
theorem dX9_odds_2 : decode cX9_odds 2 = .ok (.iload_n 2, 1) := by decide +kernel
theorem dX9_odds_3 : decode cX9_odds 3 = .ok (.invokevirtual 197, 3) := by decide +kernel
theorem dX9_odds_6 : decode cX9_odds 6 = .ok (.ifCond .eq 24, 3) := by decide +kernel
theorem dX9_odds_9 : decode cX9_odds 9 = .ok (.iload_n 3, 1) := by decide +kernel
theorem dX9_odds_10 : decode cX9_odds 10 = .ok (.iconst 0, 1) := by decide +kernel
theorem dX9_odds_11 : decode cX9_odds 11 = .ok (.bipush 6, 2) := by decide +kernel
theorem dX9_odds_13 : decode cX9_odds 13 = .ok (.invokestatic 57, 3) := by decide +kernel
theorem dX9_odds_16 : decode cX9_odds 16 = .ok (.ifCond .eq 14, 3) := by decide +kernel
theorem dX9_odds_19 : decode cX9_odds 19 = .ok (.iload 4, 2) := by decide +kernel
theorem dX9_odds_21 : decode cX9_odds 21 = .ok (.iconst 0, 1) := by decide +kernel
theorem dX9_odds_22 : decode cX9_odds 22 = .ok (.bipush 10, 2) := by decide +kernel
theorem dX9_odds_24 : decode cX9_odds 24 = .ok (.invokestatic 57, 3) := by decide +kernel
theorem dX9_odds_27 : decode cX9_odds 27 = .ok (.ifCond .ne 10, 3) := by decide +kernel
theorem dX9_odds_30 : decode cX9_odds 30 = .ok (.aload_n 0, 1) := by decide +kernel
theorem dX9_odds_31 : decode cX9_odds 31 = .ok (.bipush (-2), 2) := by decide +kernel
theorem dX9_odds_33 : decode cX9_odds 33 = .ok (.invokevirtual 61, 3) := by decide +kernel
theorem dX9_odds_36 : decode cX9_odds 36 = .ok (.ireturn, 1) := by decide +kernel
theorem dX9_odds_37 : decode cX9_odds 37 = .ok (.lconst 1, 1) := by decide +kernel
theorem dX9_odds_38 : decode cX9_odds 38 = .ok (.lstore 5, 2) := by decide +kernel
theorem dX9_odds_40 : decode cX9_odds 40 = .ok (.iconst 0, 1) := by decide +kernel
theorem dX9_odds_41 : decode cX9_odds 41 = .ok (.istore 7, 2) := by decide +kernel
theorem dX9_odds_43 : decode cX9_odds 43 = .ok (.iload 7, 2) := by decide +kernel
theorem dX9_odds_45 : decode cX9_odds 45 = .ok (.iload_n 3, 1) := by decide +kernel
theorem dX9_odds_46 : decode cX9_odds 46 = .ok (.if_icmp .ge 17, 3) := by decide +kernel
theorem dX9_odds_49 : decode cX9_odds 49 = .ok (.lload 5, 2) := by decide +kernel
theorem dX9_odds_51 : decode cX9_odds 51 = .ok (.ldc2_w 264, 3) := by decide +kernel
theorem dX9_odds_54 : decode cX9_odds 54 = .ok (.lmul, 1) := by decide +kernel
theorem dX9_odds_55 : decode cX9_odds 55 = .ok (.lstore 5, 2) := by decide +kernel
theorem dX9_odds_57 : decode cX9_odds 57 = .ok (.iinc 7 1, 3) := by decide +kernel
theorem dX9_odds_60 : decode cX9_odds 60 = .ok (.goto (-17), 3) := by decide +kernel
theorem dX9_odds_63 : decode cX9_odds 63 = .ok (.lconst 0, 1) := by decide +kernel
theorem dX9_odds_64 : decode cX9_odds 64 = .ok (.lstore 7, 2) := by decide +kernel
theorem dX9_odds_66 : decode cX9_odds 66 = .ok (.iconst 0, 1) := by decide +kernel
theorem dX9_odds_67 : decode cX9_odds 67 = .ok (.istore 9, 2) := by decide +kernel
theorem dX9_odds_69 : decode cX9_odds 69 = .ok (.iload 9, 2) := by decide +kernel
theorem dX9_odds_71 : decode cX9_odds 71 = .ok (.iconst 1, 1) := by decide +kernel
theorem dX9_odds_72 : decode cX9_odds 72 = .ok (.iload_n 3, 1) := by decide +kernel
theorem dX9_odds_73 : decode cX9_odds 73 = .ok (.ishl, 1) := by decide +kernel
theorem dX9_odds_74 : decode cX9_odds 74 = .ok (.if_icmp .ge 139, 3) := by decide +kernel
theorem dX9_odds_77 : decode cX9_odds 77 = .ok (.lconst 1, 1) := by decide +kernel
theorem dX9_odds_78 : decode cX9_odds 78 = .ok (.lstore 10, 2) := by decide +kernel
theorem dX9_odds_80 : decode cX9_odds 80 = .ok (.aload_n 0, 1) := by decide +kernel
theorem dX9_odds_81 : decode cX9_odds 81 = .ok (.getfield 17, 3) := by decide +kernel
theorem dX9_odds_84 : decode cX9_odds 84 = .ok (.aload_n 0, 1) := by decide +kernel
theorem dX9_odds_85 : decode cX9_odds 85 = .ok (.getfield 20, 3) := by decide +kernel
theorem dX9_odds_88 : decode cX9_odds 88 = .ok (.invokestatic 190, 3) := by decide +kernel
theorem dX9_odds_91 : decode cX9_odds 91 = .ok (.iconst 0, 1) := by decide +kernel
theorem dX9_odds_92 : decode cX9_odds 92 = .ok (.istore 12, 2) := by decide +kernel
theorem dX9_odds_94 : decode cX9_odds 94 = .ok (.iload 12, 2) := by decide +kernel
theorem dX9_odds_96 : decode cX9_odds 96 = .ok (.iload_n 3, 1) := by decide +kernel
theorem dX9_odds_97 : decode cX9_odds 97 = .ok (.if_icmp .ge 77, 3) := by decide +kernel
theorem dX9_odds_100 : decode cX9_odds 100 = .ok (.iload 9, 2) := by decide +kernel
theorem dX9_odds_102 : decode cX9_odds 102 = .ok (.iload 12, 2) := by decide +kernel
theorem dX9_odds_104 : decode cX9_odds 104 = .ok (.invokestatic 210, 3) := by decide +kernel
theorem dX9_odds_107 : decode cX9_odds 107 = .ok (.istore 13, 2) := by decide +kernel
theorem dX9_odds_109 : decode cX9_odds 109 = .ok (.lload 10, 2) := by decide +kernel
theorem dX9_odds_111 : decode cX9_odds 111 = .ok (.iload 13, 2) := by decide +kernel
theorem dX9_odds_113 : decode cX9_odds 113 = .ok (.ifCond .eq 9, 3) := by decide +kernel
theorem dX9_odds_116 : decode cX9_odds 116 = .ok (.iload 4, 2) := by decide +kernel
theorem dX9_odds_118 : decode cX9_odds 118 = .ok (.i2l, 1) := by decide +kernel
theorem dX9_odds_119 : decode cX9_odds 119 = .ok (.goto 9, 3) := by decide +kernel
theorem dX9_odds_122 : decode cX9_odds 122 = .ok (.bipush 10, 2) := by decide +kernel
theorem dX9_odds_124 : decode cX9_odds 124 = .ok (.iload 4, 2) := by decide +kernel
theorem dX9_odds_126 : decode cX9_odds 126 = .ok (.isub, 1) := by decide +kernel
theorem dX9_odds_127 : decode cX9_odds 127 = .ok (.i2l, 1) := by decide +kernel
theorem dX9_odds_128 : decode cX9_odds 128 = .ok (.lmul, 1) := by decide +kernel
theorem dX9_odds_129 : decode cX9_odds 129 = .ok (.lstore 10, 2) := by decide +kernel
theorem dX9_odds_131 : decode cX9_odds 131 = .ok (.aload_n 0, 1) := by decide +kernel
theorem dX9_odds_132 : decode cX9_odds 132 = .ok (.getfield 20, 3) := by decide +kernel
theorem dX9_odds_135 : decode cX9_odds 135 = .ok (.iload_n 1, 1) := by decide +kernel
theorem dX9_odds_136 : decode cX9_odds 136 = .ok (.iload_n 2, 1) := by decide +kernel
theorem dX9_odds_137 : decode cX9_odds 137 = .ok (.invokestatic 99, 3) := by decide +kernel
theorem dX9_odds_140 : decode cX9_odds 140 = .ok (.ifCond .eq 28, 3) := by decide +kernel
theorem dX9_odds_143 : decode cX9_odds 143 = .ok (.iload 13, 2) := by decide +kernel
theorem dX9_odds_145 : decode cX9_odds 145 = .ok (.ifCond .eq 14, 3) := by decide +kernel
theorem dX9_odds_148 : decode cX9_odds 148 = .ok (.aload_n 0, 1) := by decide +kernel
theorem dX9_odds_149 : decode cX9_odds 149 = .ok (.getfield 20, 3) := by decide +kernel
theorem dX9_odds_152 : decode cX9_odds 152 = .ok (.iconst 1, 1) := by decide +kernel
theorem dX9_odds_153 : decode cX9_odds 153 = .ok (.invokestatic 161, 3) := by decide +kernel
theorem dX9_odds_156 : decode cX9_odds 156 = .ok (.goto 12, 3) := by decide +kernel
theorem dX9_odds_159 : decode cX9_odds 159 = .ok (.aload_n 0, 1) := by decide +kernel
theorem dX9_odds_160 : decode cX9_odds 160 = .ok (.getfield 20, 3) := by decide +kernel
theorem dX9_odds_163 : decode cX9_odds 163 = .ok (.iload_n 1, 1) := by decide +kernel
theorem dX9_odds_164 : decode cX9_odds 164 = .ok (.iload_n 2, 1) := by decide +kernel
theorem dX9_odds_165 : decode cX9_odds 165 = .ok (.invokestatic 158, 3) := by decide +kernel
theorem dX9_odds_168 : decode cX9_odds 168 = .ok (.iinc 12 1, 3) := by decide +kernel
theorem dX9_odds_171 : decode cX9_odds 171 = .ok (.goto (-77), 3) := by decide +kernel
theorem dX9_odds_174 : decode cX9_odds 174 = .ok (.lload 7, 2) := by decide +kernel
theorem dX9_odds_176 : decode cX9_odds 176 = .ok (.aload_n 0, 1) := by decide +kernel
theorem dX9_odds_177 : decode cX9_odds 177 = .ok (.getfield 20, 3) := by decide +kernel
theorem dX9_odds_180 : decode cX9_odds 180 = .ok (.iload_n 2, 1) := by decide +kernel
theorem dX9_odds_181 : decode cX9_odds 181 = .ok (.invokestatic 72, 3) := by decide +kernel
theorem dX9_odds_184 : decode cX9_odds 184 = .ok (.ifCond .eq 19, 3) := by decide +kernel
theorem dX9_odds_187 : decode cX9_odds 187 = .ok (.aload_n 0, 1) := by decide +kernel
theorem dX9_odds_188 : decode cX9_odds 188 = .ok (.getfield 20, 3) := by decide +kernel
theorem dX9_odds_191 : decode cX9_odds 191 = .ok (.iload_n 1, 1) := by decide +kernel
theorem dX9_odds_192 : decode cX9_odds 192 = .ok (.invokestatic 72, 3) := by decide +kernel
theorem dX9_odds_195 : decode cX9_odds 195 = .ok (.ifCond .ne 8, 3) := by decide +kernel
theorem dX9_odds_198 : decode cX9_odds 198 = .ok (.lload 10, 2) := by decide +kernel
theorem dX9_odds_200 : decode cX9_odds 200 = .ok (.goto 4, 3) := by decide +kernel
theorem dX9_odds_203 : decode cX9_odds 203 = .ok (.lconst 0, 1) := by decide +kernel
theorem dX9_odds_204 : decode cX9_odds 204 = .ok (.ladd, 1) := by decide +kernel
theorem dX9_odds_205 : decode cX9_odds 205 = .ok (.lstore 7, 2) := by decide +kernel
theorem dX9_odds_207 : decode cX9_odds 207 = .ok (.iinc 9 1, 3) := by decide +kernel
theorem dX9_odds_210 : decode cX9_odds 210 = .ok (.goto (-141), 3) := by decide +kernel
theorem dX9_odds_213 : decode cX9_odds 213 = .ok (.lload 7, 2) := by decide +kernel
theorem dX9_odds_215 : decode cX9_odds 215 = .ok (.lstore 9, 2) := by decide +kernel
theorem dX9_odds_217 : decode cX9_odds 217 = .ok (.lload 5, 2) := by decide +kernel
theorem dX9_odds_219 : decode cX9_odds 219 = .ok (.lstore 11, 2) := by decide +kernel
theorem dX9_odds_221 : decode cX9_odds 221 = .ok (.lload 11, 2) := by decide +kernel
theorem dX9_odds_223 : decode cX9_odds 223 = .ok (.lconst 0, 1) := by decide +kernel
theorem dX9_odds_224 : decode cX9_odds 224 = .ok (.lcmp, 1) := by decide +kernel
theorem dX9_odds_225 : decode cX9_odds 225 = .ok (.ifCond .eq 21, 3) := by decide +kernel
theorem dX9_odds_228 : decode cX9_odds 228 = .ok (.lload 9, 2) := by decide +kernel
theorem dX9_odds_230 : decode cX9_odds 230 = .ok (.lload 11, 2) := by decide +kernel
theorem dX9_odds_232 : decode cX9_odds 232 = .ok (.lrem, 1) := by decide +kernel
theorem dX9_odds_233 : decode cX9_odds 233 = .ok (.lstore 13, 2) := by decide +kernel
theorem dX9_odds_235 : decode cX9_odds 235 = .ok (.lload 11, 2) := by decide +kernel
theorem dX9_odds_237 : decode cX9_odds 237 = .ok (.lstore 9, 2) := by decide +kernel
theorem dX9_odds_239 : decode cX9_odds 239 = .ok (.lload 13, 2) := by decide +kernel
theorem dX9_odds_241 : decode cX9_odds 241 = .ok (.lstore 11, 2) := by decide +kernel
theorem dX9_odds_243 : decode cX9_odds 243 = .ok (.goto (-22), 3) := by decide +kernel
theorem dX9_odds_246 : decode cX9_odds 246 = .ok (.aload_n 0, 1) := by decide +kernel
theorem dX9_odds_247 : decode cX9_odds 247 = .ok (.lload 7, 2) := by decide +kernel
theorem dX9_odds_249 : decode cX9_odds 249 = .ok (.lload 9, 2) := by decide +kernel
theorem dX9_odds_251 : decode cX9_odds 251 = .ok (.ldiv, 1) := by decide +kernel
theorem dX9_odds_252 : decode cX9_odds 252 = .ok (.putfield 65, 3) := by decide +kernel
theorem dX9_odds_255 : decode cX9_odds 255 = .ok (.aload_n 0, 1) := by decide +kernel
theorem dX9_odds_256 : decode cX9_odds 256 = .ok (.lload 5, 2) := by decide +kernel
theorem dX9_odds_258 : decode cX9_odds 258 = .ok (.lload 9, 2) := by decide +kernel
theorem dX9_odds_260 : decode cX9_odds 260 = .ok (.ldiv, 1) := by decide +kernel
theorem dX9_odds_261 : decode cX9_odds 261 = .ok (.putfield 13, 3) := by decide +kernel
theorem dX9_odds_264 : decode cX9_odds 264 = .ok (.iconst 1, 1) := by decide +kernel
theorem dX9_odds_265 : decode cX9_odds 265 = .ok (.ireturn, 1) := by decide +kernel
theorem dX9_brokenOf_0 : decode cX9_brokenOf 0 = .ok (.iconst 0, 1) := by decide +kernel
theorem dX9_brokenOf_1 : decode cX9_brokenOf 1 = .ok (.istore_n 1, 1) := by decide +kernel
theorem dX9_brokenOf_2 : decode cX9_brokenOf 2 = .ok (.iconst 0, 1) := by decide +kernel
theorem dX9_brokenOf_3 : decode cX9_brokenOf 3 = .ok (.istore_n 2, 1) := by decide +kernel
theorem dX9_brokenOf_4 : decode cX9_brokenOf 4 = .ok (.iload_n 2, 1) := by decide +kernel
theorem dX9_brokenOf_5 : decode cX9_brokenOf 5 = .ok (.aload_n 0, 1) := by decide +kernel
theorem dX9_brokenOf_6 : decode cX9_brokenOf 6 = .ok (.iconst 2, 1) := by decide +kernel
theorem dX9_brokenOf_7 : decode cX9_brokenOf 7 = .ok (.iaload, 1) := by decide +kernel
theorem dX9_brokenOf_8 : decode cX9_brokenOf 8 = .ok (.if_icmp .ge 27, 3) := by decide +kernel
theorem dX9_brokenOf_11 : decode cX9_brokenOf 11 = .ok (.iload_n 1, 1) := by decide +kernel
theorem dX9_brokenOf_12 : decode cX9_brokenOf 12 = .ok (.aload_n 0, 1) := by decide +kernel
theorem dX9_brokenOf_13 : decode cX9_brokenOf 13 = .ok (.iload_n 2, 1) := by decide +kernel
theorem dX9_brokenOf_14 : decode cX9_brokenOf 14 = .ok (.invokestatic 72, 3) := by decide +kernel
theorem dX9_brokenOf_17 : decode cX9_brokenOf 17 = .ok (.ifCond .eq 9, 3) := by decide +kernel
theorem dX9_brokenOf_20 : decode cX9_brokenOf 20 = .ok (.iconst 1, 1) := by decide +kernel
theorem dX9_brokenOf_21 : decode cX9_brokenOf 21 = .ok (.iload_n 2, 1) := by decide +kernel
theorem dX9_brokenOf_22 : decode cX9_brokenOf 22 = .ok (.ishl, 1) := by decide +kernel
theorem dX9_brokenOf_23 : decode cX9_brokenOf 23 = .ok (.goto 4, 3) := by decide +kernel
theorem dX9_brokenOf_26 : decode cX9_brokenOf 26 = .ok (.iconst 0, 1) := by decide +kernel
theorem dX9_brokenOf_27 : decode cX9_brokenOf 27 = .ok (.ior, 1) := by decide +kernel
theorem dX9_brokenOf_28 : decode cX9_brokenOf 28 = .ok (.istore_n 1, 1) := by decide +kernel
theorem dX9_brokenOf_29 : decode cX9_brokenOf 29 = .ok (.iinc 2 1, 3) := by decide +kernel
theorem dX9_brokenOf_32 : decode cX9_brokenOf 32 = .ok (.goto (-28), 3) := by decide +kernel
theorem dX9_brokenOf_35 : decode cX9_brokenOf 35 = .ok (.iload_n 1, 1) := by decide +kernel
theorem dX9_brokenOf_36 : decode cX9_brokenOf 36 = .ok (.ireturn, 1) := by decide +kernel
theorem dX9_days_0 : decode cX9_days 0 = .ok (.iload_n 1, 1) := by decide +kernel
theorem dX9_days_1 : decode cX9_days 1 = .ok (.iconst 0, 1) := by decide +kernel
theorem dX9_days_2 : decode cX9_days 2 = .ok (.ldc_w 266, 3) := by decide +kernel
theorem dX9_days_5 : decode cX9_days 5 = .ok (.invokestatic 57, 3) := by decide +kernel
theorem dX9_days_8 : decode cX9_days 8 = .ok (.ifCond .eq 13, 3) := by decide +kernel
theorem dX9_days_11 : decode cX9_days 11 = .ok (.iload_n 2, 1) := by decide +kernel
theorem dX9_days_12 : decode cX9_days 12 = .ok (.iconst 0, 1) := by decide +kernel
theorem dX9_days_13 : decode cX9_days 13 = .ok (.bipush 60, 2) := by decide +kernel
theorem dX9_days_15 : decode cX9_days 15 = .ok (.invokestatic 57, 3) := by decide +kernel
theorem dX9_days_18 : decode cX9_days 18 = .ok (.ifCond .ne 10, 3) := by decide +kernel
theorem dX9_days_21 : decode cX9_days 21 = .ok (.aload_n 0, 1) := by decide +kernel
theorem dX9_days_22 : decode cX9_days 22 = .ok (.bipush (-2), 2) := by decide +kernel
theorem dX9_days_24 : decode cX9_days 24 = .ok (.invokevirtual 61, 3) := by decide +kernel
theorem dX9_days_27 : decode cX9_days 27 = .ok (.ireturn, 1) := by decide +kernel
theorem dX9_days_28 : decode cX9_days 28 = .ok (.aload_n 0, 1) := by decide +kernel
theorem dX9_days_29 : decode cX9_days 29 = .ok (.getfield 17, 3) := by decide +kernel
theorem dX9_days_32 : decode cX9_days 32 = .ok (.aload_n 0, 1) := by decide +kernel
theorem dX9_days_33 : decode cX9_days 33 = .ok (.getfield 20, 3) := by decide +kernel
theorem dX9_days_36 : decode cX9_days 36 = .ok (.invokestatic 190, 3) := by decide +kernel
theorem dX9_days_39 : decode cX9_days 39 = .ok (.iload_n 1, 1) := by decide +kernel
theorem dX9_days_40 : decode cX9_days 40 = .ok (.i2l, 1) := by decide +kernel
theorem dX9_days_41 : decode cX9_days 41 = .ok (.lstore_n 3, 1) := by decide +kernel
theorem dX9_days_42 : decode cX9_days 42 = .ok (.iconst 0, 1) := by decide +kernel
theorem dX9_days_43 : decode cX9_days 43 = .ok (.istore 5, 2) := by decide +kernel
theorem dX9_days_45 : decode cX9_days 45 = .ok (.iload 5, 2) := by decide +kernel
theorem dX9_days_47 : decode cX9_days 47 = .ok (.iload_n 2, 1) := by decide +kernel
theorem dX9_days_48 : decode cX9_days 48 = .ok (.if_icmp .ge 83, 3) := by decide +kernel
theorem dX9_days_51 : decode cX9_days 51 = .ok (.lload_n 3, 1) := by decide +kernel
theorem dX9_days_52 : decode cX9_days 52 = .ok (.ldc2_w 267, 3) := by decide +kernel
theorem dX9_days_55 : decode cX9_days 55 = .ok (.lmul, 1) := by decide +kernel
theorem dX9_days_56 : decode cX9_days 56 = .ok (.ldc2_w 269, 3) := by decide +kernel
theorem dX9_days_59 : decode cX9_days 59 = .ok (.ladd, 1) := by decide +kernel
theorem dX9_days_60 : decode cX9_days 60 = .ok (.ldc2_w 271, 3) := by decide +kernel
theorem dX9_days_63 : decode cX9_days 63 = .ok (.lrem, 1) := by decide +kernel
theorem dX9_days_64 : decode cX9_days 64 = .ok (.lstore_n 3, 1) := by decide +kernel
theorem dX9_days_65 : decode cX9_days 65 = .ok (.lload_n 3, 1) := by decide +kernel
theorem dX9_days_66 : decode cX9_days 66 = .ok (.ldc2_w 273, 3) := by decide +kernel
theorem dX9_days_69 : decode cX9_days 69 = .ok (.ldiv, 1) := by decide +kernel
theorem dX9_days_70 : decode cX9_days 70 = .ok (.ldc2_w 275, 3) := by decide +kernel
theorem dX9_days_73 : decode cX9_days 73 = .ok (.lrem, 1) := by decide +kernel
theorem dX9_days_74 : decode cX9_days 74 = .ok (.l2i, 1) := by decide +kernel
theorem dX9_days_75 : decode cX9_days 75 = .ok (.istore 6, 2) := by decide +kernel
theorem dX9_days_77 : decode cX9_days 77 = .ok (.lload_n 3, 1) := by decide +kernel
theorem dX9_days_78 : decode cX9_days 78 = .ok (.ldc2_w 277, 3) := by decide +kernel
theorem dX9_days_81 : decode cX9_days 81 = .ok (.ldiv, 1) := by decide +kernel
theorem dX9_days_82 : decode cX9_days 82 = .ok (.ldc2_w 275, 3) := by decide +kernel
theorem dX9_days_85 : decode cX9_days 85 = .ok (.lrem, 1) := by decide +kernel
theorem dX9_days_86 : decode cX9_days 86 = .ok (.l2i, 1) := by decide +kernel
theorem dX9_days_87 : decode cX9_days 87 = .ok (.istore 7, 2) := by decide +kernel
theorem dX9_days_89 : decode cX9_days 89 = .ok (.aload_n 0, 1) := by decide +kernel
theorem dX9_days_90 : decode cX9_days 90 = .ok (.getfield 20, 3) := by decide +kernel
theorem dX9_days_93 : decode cX9_days 93 = .ok (.iload 6, 2) := by decide +kernel
theorem dX9_days_95 : decode cX9_days 95 = .ok (.iload 7, 2) := by decide +kernel
theorem dX9_days_97 : decode cX9_days 97 = .ok (.invokestatic 99, 3) := by decide +kernel
theorem dX9_days_100 : decode cX9_days 100 = .ok (.ifCond .eq 17, 3) := by decide +kernel
theorem dX9_days_103 : decode cX9_days 103 = .ok (.aload_n 0, 1) := by decide +kernel
theorem dX9_days_104 : decode cX9_days 104 = .ok (.getfield 20, 3) := by decide +kernel
theorem dX9_days_107 : decode cX9_days 107 = .ok (.iload 6, 2) := by decide +kernel
theorem dX9_days_109 : decode cX9_days 109 = .ok (.iload 7, 2) := by decide +kernel
theorem dX9_days_111 : decode cX9_days 111 = .ok (.invokestatic 158, 3) := by decide +kernel
theorem dX9_days_114 : decode cX9_days 114 = .ok (.goto 11, 3) := by decide +kernel
theorem dX9_days_117 : decode cX9_days 117 = .ok (.aload_n 0, 1) := by decide +kernel
theorem dX9_days_118 : decode cX9_days 118 = .ok (.getfield 20, 3) := by decide +kernel
theorem dX9_days_121 : decode cX9_days 121 = .ok (.iconst 1, 1) := by decide +kernel
theorem dX9_days_122 : decode cX9_days 122 = .ok (.invokestatic 161, 3) := by decide +kernel
theorem dX9_days_125 : decode cX9_days 125 = .ok (.iinc 5 1, 3) := by decide +kernel
theorem dX9_days_128 : decode cX9_days 128 = .ok (.goto (-83), 3) := by decide +kernel
theorem dX9_days_131 : decode cX9_days 131 = .ok (.aload_n 0, 1) := by decide +kernel
theorem dX9_days_132 : decode cX9_days 132 = .ok (.getfield 20, 3) := by decide +kernel
theorem dX9_days_135 : decode cX9_days 135 = .ok (.invokestatic 279, 3) := by decide +kernel
theorem dX9_days_138 : decode cX9_days 138 = .ok (.invokestatic 230, 3) := by decide +kernel
theorem dX9_days_141 : decode cX9_days 141 = .ok (.ireturn, 1) := by decide +kernel
theorem dX9_image_0 : decode cX9_image 0 = .ok (.iload_n 1, 1) := by decide +kernel
theorem dX9_image_1 : decode cX9_image 1 = .ok (.iconst 0, 1) := by decide +kernel
theorem dX9_image_2 : decode cX9_image 2 = .ok (.iconst 1, 1) := by decide +kernel
theorem dX9_image_3 : decode cX9_image 3 = .ok (.invokestatic 57, 3) := by decide +kernel
theorem dX9_image_6 : decode cX9_image 6 = .ok (.ifCond .ne 10, 3) := by decide +kernel
theorem dX9_image_9 : decode cX9_image 9 = .ok (.aload_n 0, 1) := by decide +kernel
theorem dX9_image_10 : decode cX9_image 10 = .ok (.bipush (-2), 2) := by decide +kernel
theorem dX9_image_12 : decode cX9_image 12 = .ok (.invokevirtual 61, 3) := by decide +kernel
theorem dX9_image_15 : decode cX9_image 15 = .ok (.ireturn, 1) := by decide +kernel
theorem dX9_image_16 : decode cX9_image 16 = .ok (.aload_n 0, 1) := by decide +kernel
theorem dX9_image_17 : decode cX9_image 17 = .ok (.getfield 38, 3) := by decide +kernel
theorem dX9_image_20 : decode cX9_image 20 = .ok (.iload_n 1, 1) := by decide +kernel
theorem dX9_image_21 : decode cX9_image 21 = .ok (.iconst 1, 1) := by decide +kernel
theorem dX9_image_22 : decode cX9_image 22 = .ok (.bastore, 1) := by decide +kernel
theorem dX9_image_23 : decode cX9_image 23 = .ok (.iconst 0, 1) := by decide +kernel
theorem dX9_image_24 : decode cX9_image 24 = .ok (.istore_n 2, 1) := by decide +kernel
theorem dX9_image_25 : decode cX9_image 25 = .ok (.iload_n 2, 1) := by decide +kernel
theorem dX9_image_26 : decode cX9_image 26 = .ok (.bipush 45, 2) := by decide +kernel
theorem dX9_image_28 : decode cX9_image 28 = .ok (.if_icmp .ge 26, 3) := by decide +kernel
theorem dX9_image_31 : decode cX9_image 31 = .ok (.aload_n 0, 1) := by decide +kernel
theorem dX9_image_32 : decode cX9_image 32 = .ok (.getfield 42, 3) := by decide +kernel
theorem dX9_image_35 : decode cX9_image 35 = .ok (.bipush 45, 2) := by decide +kernel
theorem dX9_image_37 : decode cX9_image 37 = .ok (.iload_n 1, 1) := by decide +kernel
theorem dX9_image_38 : decode cX9_image 38 = .ok (.imul, 1) := by decide +kernel
theorem dX9_image_39 : decode cX9_image 39 = .ok (.iload_n 2, 1) := by decide +kernel
theorem dX9_image_40 : decode cX9_image 40 = .ok (.iadd, 1) := by decide +kernel
theorem dX9_image_41 : decode cX9_image 41 = .ok (.aload_n 0, 1) := by decide +kernel
theorem dX9_image_42 : decode cX9_image 42 = .ok (.getfield 17, 3) := by decide +kernel
theorem dX9_image_45 : decode cX9_image 45 = .ok (.iload_n 2, 1) := by decide +kernel
theorem dX9_image_46 : decode cX9_image 46 = .ok (.iaload, 1) := by decide +kernel
theorem dX9_image_47 : decode cX9_image 47 = .ok (.iastore, 1) := by decide +kernel
theorem dX9_image_48 : decode cX9_image 48 = .ok (.iinc 2 1, 3) := by decide +kernel
theorem dX9_image_51 : decode cX9_image 51 = .ok (.goto (-26), 3) := by decide +kernel
theorem dX9_image_54 : decode cX9_image 54 = .ok (.iconst 0, 1) := by decide +kernel
theorem dX9_image_55 : decode cX9_image 55 = .ok (.istore_n 2, 1) := by decide +kernel
theorem dX9_image_56 : decode cX9_image 56 = .ok (.iload_n 2, 1) := by decide +kernel
theorem dX9_image_57 : decode cX9_image 57 = .ok (.bipush 94, 2) := by decide +kernel
theorem dX9_image_59 : decode cX9_image 59 = .ok (.if_icmp .ge 26, 3) := by decide +kernel
theorem dX9_image_62 : decode cX9_image 62 = .ok (.aload_n 0, 1) := by decide +kernel
theorem dX9_image_63 : decode cX9_image 63 = .ok (.getfield 45, 3) := by decide +kernel
theorem dX9_image_66 : decode cX9_image 66 = .ok (.bipush 94, 2) := by decide +kernel
theorem dX9_image_68 : decode cX9_image 68 = .ok (.iload_n 1, 1) := by decide +kernel
theorem dX9_image_69 : decode cX9_image 69 = .ok (.imul, 1) := by decide +kernel
theorem dX9_image_70 : decode cX9_image 70 = .ok (.iload_n 2, 1) := by decide +kernel
theorem dX9_image_71 : decode cX9_image 71 = .ok (.iadd, 1) := by decide +kernel
theorem dX9_image_72 : decode cX9_image 72 = .ok (.aload_n 0, 1) := by decide +kernel
theorem dX9_image_73 : decode cX9_image 73 = .ok (.getfield 26, 3) := by decide +kernel
theorem dX9_image_76 : decode cX9_image 76 = .ok (.iload_n 2, 1) := by decide +kernel
theorem dX9_image_77 : decode cX9_image 77 = .ok (.iaload, 1) := by decide +kernel
theorem dX9_image_78 : decode cX9_image 78 = .ok (.iastore, 1) := by decide +kernel
theorem dX9_image_79 : decode cX9_image 79 = .ok (.iinc 2 1, 3) := by decide +kernel
theorem dX9_image_82 : decode cX9_image 82 = .ok (.goto (-26), 3) := by decide +kernel
theorem dX9_image_85 : decode cX9_image 85 = .ok (.iconst 0, 1) := by decide +kernel
theorem dX9_image_86 : decode cX9_image 86 = .ok (.istore_n 2, 1) := by decide +kernel
theorem dX9_image_87 : decode cX9_image 87 = .ok (.iload_n 2, 1) := by decide +kernel
theorem dX9_image_88 : decode cX9_image 88 = .ok (.sipush 360, 3) := by decide +kernel
theorem dX9_image_91 : decode cX9_image 91 = .ok (.if_icmp .ge 27, 3) := by decide +kernel
theorem dX9_image_94 : decode cX9_image 94 = .ok (.aload_n 0, 1) := by decide +kernel
theorem dX9_image_95 : decode cX9_image 95 = .ok (.getfield 48, 3) := by decide +kernel
theorem dX9_image_98 : decode cX9_image 98 = .ok (.sipush 360, 3) := by decide +kernel
theorem dX9_image_101 : decode cX9_image 101 = .ok (.iload_n 1, 1) := by decide +kernel
theorem dX9_image_102 : decode cX9_image 102 = .ok (.imul, 1) := by decide +kernel
theorem dX9_image_103 : decode cX9_image 103 = .ok (.iload_n 2, 1) := by decide +kernel
theorem dX9_image_104 : decode cX9_image 104 = .ok (.iadd, 1) := by decide +kernel
theorem dX9_image_105 : decode cX9_image 105 = .ok (.aload_n 0, 1) := by decide +kernel
theorem dX9_image_106 : decode cX9_image 106 = .ok (.getfield 32, 3) := by decide +kernel
theorem dX9_image_109 : decode cX9_image 109 = .ok (.iload_n 2, 1) := by decide +kernel
theorem dX9_image_110 : decode cX9_image 110 = .ok (.iaload, 1) := by decide +kernel
theorem dX9_image_111 : decode cX9_image 111 = .ok (.iastore, 1) := by decide +kernel
theorem dX9_image_112 : decode cX9_image 112 = .ok (.iinc 2 1, 3) := by decide +kernel
theorem dX9_image_115 : decode cX9_image 115 = .ok (.goto (-28), 3) := by decide +kernel
theorem dX9_image_118 : decode cX9_image 118 = .ok (.aload_n 0, 1) := by decide +kernel
theorem dX9_image_119 : decode cX9_image 119 = .ok (.getfield 51, 3) := by decide +kernel
theorem dX9_image_122 : decode cX9_image 122 = .ok (.iload_n 1, 1) := by decide +kernel
theorem dX9_image_123 : decode cX9_image 123 = .ok (.aload_n 0, 1) := by decide +kernel
theorem dX9_image_124 : decode cX9_image 124 = .ok (.getfield 103, 3) := by decide +kernel
theorem dX9_image_127 : decode cX9_image 127 = .ok (.iastore, 1) := by decide +kernel
theorem dX9_image_128 : decode cX9_image 128 = .ok (.aload_n 0, 1) := by decide +kernel
theorem dX9_image_129 : decode cX9_image 129 = .ok (.getfield 54, 3) := by decide +kernel
theorem dX9_image_132 : decode cX9_image 132 = .ok (.iload_n 1, 1) := by decide +kernel
theorem dX9_image_133 : decode cX9_image 133 = .ok (.aload_n 0, 1) := by decide +kernel
theorem dX9_image_134 : decode cX9_image 134 = .ok (.getfield 194, 3) := by decide +kernel
theorem dX9_image_137 : decode cX9_image 137 = .ok (.iastore, 1) := by decide +kernel
theorem dX9_image_138 : decode cX9_image 138 = .ok (.iconst 1, 1) := by decide +kernel
theorem dX9_image_139 : decode cX9_image 139 = .ok (.ireturn, 1) := by decide +kernel
theorem dX9_from_0 : decode cX9_from 0 = .ok (.iload_n 1, 1) := by decide +kernel
theorem dX9_from_1 : decode cX9_from 1 = .ok (.iconst 0, 1) := by decide +kernel
theorem dX9_from_2 : decode cX9_from 2 = .ok (.iconst 1, 1) := by decide +kernel
theorem dX9_from_3 : decode cX9_from 3 = .ok (.invokestatic 57, 3) := by decide +kernel
theorem dX9_from_6 : decode cX9_from 6 = .ok (.ifCond .ne 10, 3) := by decide +kernel
theorem dX9_from_9 : decode cX9_from 9 = .ok (.aload_n 0, 1) := by decide +kernel
theorem dX9_from_10 : decode cX9_from 10 = .ok (.bipush (-2), 2) := by decide +kernel
theorem dX9_from_12 : decode cX9_from 12 = .ok (.invokevirtual 61, 3) := by decide +kernel
theorem dX9_from_15 : decode cX9_from 15 = .ok (.ireturn, 1) := by decide +kernel
theorem dX9_from_16 : decode cX9_from 16 = .ok (.aload_n 0, 1) := by decide +kernel
theorem dX9_from_17 : decode cX9_from 17 = .ok (.getfield 38, 3) := by decide +kernel
theorem dX9_from_20 : decode cX9_from 20 = .ok (.iload_n 1, 1) := by decide +kernel
theorem dX9_from_21 : decode cX9_from 21 = .ok (.baload, 1) := by decide +kernel
theorem dX9_from_22 : decode cX9_from 22 = .ok (.ifCond .ne 8, 3) := by decide +kernel
theorem dX9_from_25 : decode cX9_from 25 = .ok (.aload_n 0, 1) := by decide +kernel
theorem dX9_from_26 : decode cX9_from 26 = .ok (.invokevirtual 200, 3) := by decide +kernel
theorem dX9_from_29 : decode cX9_from 29 = .ok (.ireturn, 1) := by decide +kernel
theorem dX9_from_30 : decode cX9_from 30 = .ok (.iconst 0, 1) := by decide +kernel
theorem dX9_from_31 : decode cX9_from 31 = .ok (.istore_n 2, 1) := by decide +kernel
theorem dX9_from_32 : decode cX9_from 32 = .ok (.iload_n 2, 1) := by decide +kernel
theorem dX9_from_33 : decode cX9_from 33 = .ok (.bipush 45, 2) := by decide +kernel
theorem dX9_from_35 : decode cX9_from 35 = .ok (.if_icmp .ge 26, 3) := by decide +kernel
theorem dX9_from_38 : decode cX9_from 38 = .ok (.aload_n 0, 1) := by decide +kernel
theorem dX9_from_39 : decode cX9_from 39 = .ok (.getfield 17, 3) := by decide +kernel
theorem dX9_from_42 : decode cX9_from 42 = .ok (.iload_n 2, 1) := by decide +kernel
theorem dX9_from_43 : decode cX9_from 43 = .ok (.aload_n 0, 1) := by decide +kernel
theorem dX9_from_44 : decode cX9_from 44 = .ok (.getfield 42, 3) := by decide +kernel
theorem dX9_from_47 : decode cX9_from 47 = .ok (.bipush 45, 2) := by decide +kernel
theorem dX9_from_49 : decode cX9_from 49 = .ok (.iload_n 1, 1) := by decide +kernel
theorem dX9_from_50 : decode cX9_from 50 = .ok (.imul, 1) := by decide +kernel
theorem dX9_from_51 : decode cX9_from 51 = .ok (.iload_n 2, 1) := by decide +kernel
theorem dX9_from_52 : decode cX9_from 52 = .ok (.iadd, 1) := by decide +kernel
theorem dX9_from_53 : decode cX9_from 53 = .ok (.iaload, 1) := by decide +kernel
theorem dX9_from_54 : decode cX9_from 54 = .ok (.iastore, 1) := by decide +kernel
theorem dX9_from_55 : decode cX9_from 55 = .ok (.iinc 2 1, 3) := by decide +kernel
theorem dX9_from_58 : decode cX9_from 58 = .ok (.goto (-26), 3) := by decide +kernel
theorem dX9_from_61 : decode cX9_from 61 = .ok (.iconst 0, 1) := by decide +kernel
theorem dX9_from_62 : decode cX9_from 62 = .ok (.istore_n 2, 1) := by decide +kernel
theorem dX9_from_63 : decode cX9_from 63 = .ok (.iload_n 2, 1) := by decide +kernel
theorem dX9_from_64 : decode cX9_from 64 = .ok (.bipush 94, 2) := by decide +kernel
theorem dX9_from_66 : decode cX9_from 66 = .ok (.if_icmp .ge 26, 3) := by decide +kernel
theorem dX9_from_69 : decode cX9_from 69 = .ok (.aload_n 0, 1) := by decide +kernel
theorem dX9_from_70 : decode cX9_from 70 = .ok (.getfield 26, 3) := by decide +kernel
theorem dX9_from_73 : decode cX9_from 73 = .ok (.iload_n 2, 1) := by decide +kernel
theorem dX9_from_74 : decode cX9_from 74 = .ok (.aload_n 0, 1) := by decide +kernel
theorem dX9_from_75 : decode cX9_from 75 = .ok (.getfield 45, 3) := by decide +kernel
theorem dX9_from_78 : decode cX9_from 78 = .ok (.bipush 94, 2) := by decide +kernel
theorem dX9_from_80 : decode cX9_from 80 = .ok (.iload_n 1, 1) := by decide +kernel
theorem dX9_from_81 : decode cX9_from 81 = .ok (.imul, 1) := by decide +kernel
theorem dX9_from_82 : decode cX9_from 82 = .ok (.iload_n 2, 1) := by decide +kernel
theorem dX9_from_83 : decode cX9_from 83 = .ok (.iadd, 1) := by decide +kernel
theorem dX9_from_84 : decode cX9_from 84 = .ok (.iaload, 1) := by decide +kernel
theorem dX9_from_85 : decode cX9_from 85 = .ok (.iastore, 1) := by decide +kernel
theorem dX9_from_86 : decode cX9_from 86 = .ok (.iinc 2 1, 3) := by decide +kernel
theorem dX9_from_89 : decode cX9_from 89 = .ok (.goto (-26), 3) := by decide +kernel
theorem dX9_from_92 : decode cX9_from 92 = .ok (.iconst 0, 1) := by decide +kernel
theorem dX9_from_93 : decode cX9_from 93 = .ok (.istore_n 2, 1) := by decide +kernel
theorem dX9_from_94 : decode cX9_from 94 = .ok (.iload_n 2, 1) := by decide +kernel
theorem dX9_from_95 : decode cX9_from 95 = .ok (.sipush 360, 3) := by decide +kernel
theorem dX9_from_98 : decode cX9_from 98 = .ok (.if_icmp .ge 27, 3) := by decide +kernel
theorem dX9_from_101 : decode cX9_from 101 = .ok (.aload_n 0, 1) := by decide +kernel
theorem dX9_from_102 : decode cX9_from 102 = .ok (.getfield 32, 3) := by decide +kernel
theorem dX9_from_105 : decode cX9_from 105 = .ok (.iload_n 2, 1) := by decide +kernel
theorem dX9_from_106 : decode cX9_from 106 = .ok (.aload_n 0, 1) := by decide +kernel
theorem dX9_from_107 : decode cX9_from 107 = .ok (.getfield 48, 3) := by decide +kernel
theorem dX9_from_110 : decode cX9_from 110 = .ok (.sipush 360, 3) := by decide +kernel
theorem dX9_from_113 : decode cX9_from 113 = .ok (.iload_n 1, 1) := by decide +kernel
theorem dX9_from_114 : decode cX9_from 114 = .ok (.imul, 1) := by decide +kernel
theorem dX9_from_115 : decode cX9_from 115 = .ok (.iload_n 2, 1) := by decide +kernel
theorem dX9_from_116 : decode cX9_from 116 = .ok (.iadd, 1) := by decide +kernel
theorem dX9_from_117 : decode cX9_from 117 = .ok (.iaload, 1) := by decide +kernel
theorem dX9_from_118 : decode cX9_from 118 = .ok (.iastore, 1) := by decide +kernel
theorem dX9_from_119 : decode cX9_from 119 = .ok (.iinc 2 1, 3) := by decide +kernel
theorem dX9_from_122 : decode cX9_from 122 = .ok (.goto (-28), 3) := by decide +kernel
theorem dX9_from_125 : decode cX9_from 125 = .ok (.aload_n 0, 1) := by decide +kernel
theorem dX9_from_126 : decode cX9_from 126 = .ok (.aload_n 0, 1) := by decide +kernel
theorem dX9_from_127 : decode cX9_from 127 = .ok (.getfield 51, 3) := by decide +kernel
theorem dX9_from_130 : decode cX9_from 130 = .ok (.iload_n 1, 1) := by decide +kernel
theorem dX9_from_131 : decode cX9_from 131 = .ok (.iaload, 1) := by decide +kernel
theorem dX9_from_132 : decode cX9_from 132 = .ok (.putfield 103, 3) := by decide +kernel
theorem dX9_from_135 : decode cX9_from 135 = .ok (.aload_n 0, 1) := by decide +kernel
theorem dX9_from_136 : decode cX9_from 136 = .ok (.aload_n 0, 1) := by decide +kernel
theorem dX9_from_137 : decode cX9_from 137 = .ok (.getfield 54, 3) := by decide +kernel
theorem dX9_from_140 : decode cX9_from 140 = .ok (.iload_n 1, 1) := by decide +kernel
theorem dX9_from_141 : decode cX9_from 141 = .ok (.iaload, 1) := by decide +kernel
theorem dX9_from_142 : decode cX9_from 142 = .ok (.putfield 194, 3) := by decide +kernel
theorem dX9_from_145 : decode cX9_from 145 = .ok (.iconst 1, 1) := by decide +kernel
theorem dX9_from_146 : decode cX9_from 146 = .ok (.ireturn, 1) := by decide +kernel
theorem dX9_sumOf_0 : decode cX9_sumOf 0 = .ok (.iconst 0, 1) := by decide +kernel
theorem dX9_sumOf_1 : decode cX9_sumOf 1 = .ok (.istore_n 2, 1) := by decide +kernel
theorem dX9_sumOf_2 : decode cX9_sumOf 2 = .ok (.iconst 0, 1) := by decide +kernel
theorem dX9_sumOf_3 : decode cX9_sumOf 3 = .ok (.istore_n 3, 1) := by decide +kernel
theorem dX9_sumOf_4 : decode cX9_sumOf 4 = .ok (.iload_n 3, 1) := by decide +kernel
theorem dX9_sumOf_5 : decode cX9_sumOf 5 = .ok (.aload_n 0, 1) := by decide +kernel
theorem dX9_sumOf_6 : decode cX9_sumOf 6 = .ok (.getfield 17, 3) := by decide +kernel
theorem dX9_sumOf_9 : decode cX9_sumOf 9 = .ok (.iconst 2, 1) := by decide +kernel
theorem dX9_sumOf_10 : decode cX9_sumOf 10 = .ok (.iaload, 1) := by decide +kernel
theorem dX9_sumOf_11 : decode cX9_sumOf 11 = .ok (.if_icmp .ge 20, 3) := by decide +kernel
theorem dX9_sumOf_14 : decode cX9_sumOf 14 = .ok (.iload_n 2, 1) := by decide +kernel
theorem dX9_sumOf_15 : decode cX9_sumOf 15 = .ok (.aload_n 0, 1) := by decide +kernel
theorem dX9_sumOf_16 : decode cX9_sumOf 16 = .ok (.getfield 17, 3) := by decide +kernel
theorem dX9_sumOf_19 : decode cX9_sumOf 19 = .ok (.iload_n 1, 1) := by decide +kernel
theorem dX9_sumOf_20 : decode cX9_sumOf 20 = .ok (.iload_n 3, 1) := by decide +kernel
theorem dX9_sumOf_21 : decode cX9_sumOf 21 = .ok (.iadd, 1) := by decide +kernel
theorem dX9_sumOf_22 : decode cX9_sumOf 22 = .ok (.iaload, 1) := by decide +kernel
theorem dX9_sumOf_23 : decode cX9_sumOf 23 = .ok (.iadd, 1) := by decide +kernel
theorem dX9_sumOf_24 : decode cX9_sumOf 24 = .ok (.istore_n 2, 1) := by decide +kernel
theorem dX9_sumOf_25 : decode cX9_sumOf 25 = .ok (.iinc 3 1, 3) := by decide +kernel
theorem dX9_sumOf_28 : decode cX9_sumOf 28 = .ok (.goto (-24), 3) := by decide +kernel
theorem dX9_sumOf_31 : decode cX9_sumOf 31 = .ok (.iload_n 2, 1) := by decide +kernel
theorem dX9_sumOf_32 : decode cX9_sumOf 32 = .ok (.ireturn, 1) := by decide +kernel
theorem dX9_counted_0 : decode cX9_counted 0 = .ok (.iload_n 1, 1) := by decide +kernel
theorem dX9_counted_1 : decode cX9_counted 1 = .ok (.tableswitch 126 0 9 #[55, 62, 69, 76, 84, 91, 98, 105, 113, 121], 55) := by decide +kernel
theorem dX9_counted_56 : decode cX9_counted 56 = .ok (.aload_n 0, 1) := by decide +kernel
theorem dX9_counted_57 : decode cX9_counted 57 = .ok (.getfield 17, 3) := by decide +kernel
theorem dX9_counted_60 : decode cX9_counted 60 = .ok (.iconst 1, 1) := by decide +kernel
theorem dX9_counted_61 : decode cX9_counted 61 = .ok (.iaload, 1) := by decide +kernel
theorem dX9_counted_62 : decode cX9_counted 62 = .ok (.ireturn, 1) := by decide +kernel
theorem dX9_counted_63 : decode cX9_counted 63 = .ok (.aload_n 0, 1) := by decide +kernel
theorem dX9_counted_64 : decode cX9_counted 64 = .ok (.getfield 17, 3) := by decide +kernel
theorem dX9_counted_67 : decode cX9_counted 67 = .ok (.iconst 2, 1) := by decide +kernel
theorem dX9_counted_68 : decode cX9_counted 68 = .ok (.iaload, 1) := by decide +kernel
theorem dX9_counted_69 : decode cX9_counted 69 = .ok (.ireturn, 1) := by decide +kernel
theorem dX9_counted_70 : decode cX9_counted 70 = .ok (.aload_n 0, 1) := by decide +kernel
theorem dX9_counted_71 : decode cX9_counted 71 = .ok (.getfield 17, 3) := by decide +kernel
theorem dX9_counted_74 : decode cX9_counted 74 = .ok (.iconst 0, 1) := by decide +kernel
theorem dX9_counted_75 : decode cX9_counted 75 = .ok (.iaload, 1) := by decide +kernel
theorem dX9_counted_76 : decode cX9_counted 76 = .ok (.ireturn, 1) := by decide +kernel
theorem dX9_counted_77 : decode cX9_counted 77 = .ok (.aload_n 0, 1) := by decide +kernel
theorem dX9_counted_78 : decode cX9_counted 78 = .ok (.getfield 17, 3) := by decide +kernel
theorem dX9_counted_81 : decode cX9_counted 81 = .ok (.invokestatic 279, 3) := by decide +kernel
theorem dX9_counted_84 : decode cX9_counted 84 = .ok (.ireturn, 1) := by decide +kernel
theorem dX9_counted_85 : decode cX9_counted 85 = .ok (.aload_n 0, 1) := by decide +kernel
theorem dX9_counted_86 : decode cX9_counted 86 = .ok (.bipush 33, 2) := by decide +kernel
theorem dX9_counted_88 : decode cX9_counted 88 = .ok (.invokevirtual 282, 3) := by decide +kernel
theorem dX9_counted_91 : decode cX9_counted 91 = .ok (.ireturn, 1) := by decide +kernel
theorem dX9_counted_92 : decode cX9_counted 92 = .ok (.aload_n 0, 1) := by decide +kernel
theorem dX9_counted_93 : decode cX9_counted 93 = .ok (.bipush 39, 2) := by decide +kernel
theorem dX9_counted_95 : decode cX9_counted 95 = .ok (.invokevirtual 282, 3) := by decide +kernel
theorem dX9_counted_98 : decode cX9_counted 98 = .ok (.ireturn, 1) := by decide +kernel
theorem dX9_counted_99 : decode cX9_counted 99 = .ok (.aload_n 0, 1) := by decide +kernel
theorem dX9_counted_100 : decode cX9_counted 100 = .ok (.getfield 26, 3) := by decide +kernel
theorem dX9_counted_103 : decode cX9_counted 103 = .ok (.iconst 0, 1) := by decide +kernel
theorem dX9_counted_104 : decode cX9_counted 104 = .ok (.iaload, 1) := by decide +kernel
theorem dX9_counted_105 : decode cX9_counted 105 = .ok (.ireturn, 1) := by decide +kernel
theorem dX9_counted_106 : decode cX9_counted 106 = .ok (.aload_n 0, 1) := by decide +kernel
theorem dX9_counted_107 : decode cX9_counted 107 = .ok (.getfield 26, 3) := by decide +kernel
theorem dX9_counted_110 : decode cX9_counted 110 = .ok (.bipush 26, 2) := by decide +kernel
theorem dX9_counted_112 : decode cX9_counted 112 = .ok (.iaload, 1) := by decide +kernel
theorem dX9_counted_113 : decode cX9_counted 113 = .ok (.ireturn, 1) := by decide +kernel
theorem dX9_counted_114 : decode cX9_counted 114 = .ok (.aload_n 0, 1) := by decide +kernel
theorem dX9_counted_115 : decode cX9_counted 115 = .ok (.getfield 26, 3) := by decide +kernel
theorem dX9_counted_118 : decode cX9_counted 118 = .ok (.bipush 63, 2) := by decide +kernel
theorem dX9_counted_120 : decode cX9_counted 120 = .ok (.iaload, 1) := by decide +kernel
theorem dX9_counted_121 : decode cX9_counted 121 = .ok (.ireturn, 1) := by decide +kernel
theorem dX9_counted_122 : decode cX9_counted 122 = .ok (.aload_n 0, 1) := by decide +kernel
theorem dX9_counted_123 : decode cX9_counted 123 = .ok (.getfield 103, 3) := by decide +kernel
theorem dX9_counted_126 : decode cX9_counted 126 = .ok (.ireturn, 1) := by decide +kernel
theorem dX9_counted_127 : decode cX9_counted 127 = .ok (.aload_n 0, 1) := by decide +kernel
theorem dX9_counted_128 : decode cX9_counted 128 = .ok (.getfield 125, 3) := by decide +kernel
theorem dX9_counted_131 : decode cX9_counted 131 = .ok (.ireturn, 1) := by decide +kernel
theorem dX9_count_0 : decode cX9_count 0 = .ok (.iload_n 1, 1) := by decide +kernel
theorem dX9_count_1 : decode cX9_count 1 = .ok (.iconst 0, 1) := by decide +kernel
theorem dX9_count_2 : decode cX9_count 2 = .ok (.bipush 10, 2) := by decide +kernel
theorem dX9_count_4 : decode cX9_count 4 = .ok (.invokestatic 57, 3) := by decide +kernel
theorem dX9_count_7 : decode cX9_count 7 = .ok (.ifCond .eq 11, 3) := by decide +kernel
theorem dX9_count_10 : decode cX9_count 10 = .ok (.aload_n 0, 1) := by decide +kernel
theorem dX9_count_11 : decode cX9_count 11 = .ok (.iload_n 1, 1) := by decide +kernel
theorem dX9_count_12 : decode cX9_count 12 = .ok (.invokevirtual 285, 3) := by decide +kernel
theorem dX9_count_15 : decode cX9_count 15 = .ok (.goto 9, 3) := by decide +kernel
theorem dX9_count_18 : decode cX9_count 18 = .ok (.aload_n 0, 1) := by decide +kernel
theorem dX9_count_19 : decode cX9_count 19 = .ok (.bipush (-2), 2) := by decide +kernel
theorem dX9_count_21 : decode cX9_count 21 = .ok (.invokevirtual 61, 3) := by decide +kernel
theorem dX9_count_24 : decode cX9_count 24 = .ok (.ireturn, 1) := by decide +kernel
theorem dX9_adds_0 : decode cX9_adds 0 = .ok (.aload_n 0, 1) := by decide +kernel
theorem dX9_adds_1 : decode cX9_adds 1 = .ok (.ldc2_w 288, 3) := by decide +kernel
theorem dX9_adds_4 : decode cX9_adds 4 = .ok (.aload_n 0, 1) := by decide +kernel
theorem dX9_adds_5 : decode cX9_adds 5 = .ok (.getfield 290, 3) := by decide +kernel
theorem dX9_adds_8 : decode cX9_adds 8 = .ok (.lmul, 1) := by decide +kernel
theorem dX9_adds_9 : decode cX9_adds 9 = .ok (.lload_n 1, 1) := by decide +kernel
theorem dX9_adds_10 : decode cX9_adds 10 = .ok (.ladd, 1) := by decide +kernel
theorem dX9_adds_11 : decode cX9_adds 11 = .ok (.putfield 290, 3) := by decide +kernel
theorem dX9_adds_14 : decode cX9_adds 14 = .ok (.return_, 1) := by decide +kernel
theorem dX9_digest_0 : decode cX9_digest 0 = .ok (.aload_n 0, 1) := by decide +kernel
theorem dX9_digest_1 : decode cX9_digest 1 = .ok (.ldc2_w 293, 3) := by decide +kernel
theorem dX9_digest_4 : decode cX9_digest 4 = .ok (.putfield 290, 3) := by decide +kernel
theorem dX9_digest_7 : decode cX9_digest 7 = .ok (.iconst 0, 1) := by decide +kernel
theorem dX9_digest_8 : decode cX9_digest 8 = .ok (.istore_n 1, 1) := by decide +kernel
theorem dX9_digest_9 : decode cX9_digest 9 = .ok (.iload_n 1, 1) := by decide +kernel
theorem dX9_digest_10 : decode cX9_digest 10 = .ok (.bipush 10, 2) := by decide +kernel
theorem dX9_digest_12 : decode cX9_digest 12 = .ok (.if_icmp .gt 19, 3) := by decide +kernel
theorem dX9_digest_15 : decode cX9_digest 15 = .ok (.aload_n 0, 1) := by decide +kernel
theorem dX9_digest_16 : decode cX9_digest 16 = .ok (.aload_n 0, 1) := by decide +kernel
theorem dX9_digest_17 : decode cX9_digest 17 = .ok (.iload_n 1, 1) := by decide +kernel
theorem dX9_digest_18 : decode cX9_digest 18 = .ok (.invokevirtual 285, 3) := by decide +kernel
theorem dX9_digest_21 : decode cX9_digest 21 = .ok (.i2l, 1) := by decide +kernel
theorem dX9_digest_22 : decode cX9_digest 22 = .ok (.invokevirtual 295, 3) := by decide +kernel
theorem dX9_digest_25 : decode cX9_digest 25 = .ok (.iinc 1 1, 3) := by decide +kernel
theorem dX9_digest_28 : decode cX9_digest 28 = .ok (.goto (-19), 3) := by decide +kernel
theorem dX9_digest_31 : decode cX9_digest 31 = .ok (.iconst 0, 1) := by decide +kernel
theorem dX9_digest_32 : decode cX9_digest 32 = .ok (.istore_n 1, 1) := by decide +kernel
theorem dX9_digest_33 : decode cX9_digest 33 = .ok (.iload_n 1, 1) := by decide +kernel
theorem dX9_digest_34 : decode cX9_digest 34 = .ok (.aload_n 0, 1) := by decide +kernel
theorem dX9_digest_35 : decode cX9_digest 35 = .ok (.getfield 17, 3) := by decide +kernel
theorem dX9_digest_38 : decode cX9_digest 38 = .ok (.iconst 1, 1) := by decide +kernel
theorem dX9_digest_39 : decode cX9_digest 39 = .ok (.iaload, 1) := by decide +kernel
theorem dX9_digest_40 : decode cX9_digest 40 = .ok (.if_icmp .ge 36, 3) := by decide +kernel
theorem dX9_digest_43 : decode cX9_digest 43 = .ok (.aload_n 0, 1) := by decide +kernel
theorem dX9_digest_44 : decode cX9_digest 44 = .ok (.aload_n 0, 1) := by decide +kernel
theorem dX9_digest_45 : decode cX9_digest 45 = .ok (.getfield 17, 3) := by decide +kernel
theorem dX9_digest_48 : decode cX9_digest 48 = .ok (.iconst 3, 1) := by decide +kernel
theorem dX9_digest_49 : decode cX9_digest 49 = .ok (.iload_n 1, 1) := by decide +kernel
theorem dX9_digest_50 : decode cX9_digest 50 = .ok (.iadd, 1) := by decide +kernel
theorem dX9_digest_51 : decode cX9_digest 51 = .ok (.iaload, 1) := by decide +kernel
theorem dX9_digest_52 : decode cX9_digest 52 = .ok (.i2l, 1) := by decide +kernel
theorem dX9_digest_53 : decode cX9_digest 53 = .ok (.invokevirtual 295, 3) := by decide +kernel
theorem dX9_digest_56 : decode cX9_digest 56 = .ok (.aload_n 0, 1) := by decide +kernel
theorem dX9_digest_57 : decode cX9_digest 57 = .ok (.aload_n 0, 1) := by decide +kernel
theorem dX9_digest_58 : decode cX9_digest 58 = .ok (.getfield 17, 3) := by decide +kernel
theorem dX9_digest_61 : decode cX9_digest 61 = .ok (.bipush 6, 2) := by decide +kernel
theorem dX9_digest_63 : decode cX9_digest 63 = .ok (.iload_n 1, 1) := by decide +kernel
theorem dX9_digest_64 : decode cX9_digest 64 = .ok (.iadd, 1) := by decide +kernel
theorem dX9_digest_65 : decode cX9_digest 65 = .ok (.iaload, 1) := by decide +kernel
theorem dX9_digest_66 : decode cX9_digest 66 = .ok (.i2l, 1) := by decide +kernel
theorem dX9_digest_67 : decode cX9_digest 67 = .ok (.invokevirtual 295, 3) := by decide +kernel
theorem dX9_digest_70 : decode cX9_digest 70 = .ok (.iinc 1 1, 3) := by decide +kernel
theorem dX9_digest_73 : decode cX9_digest 73 = .ok (.goto (-40), 3) := by decide +kernel
theorem dX9_digest_76 : decode cX9_digest 76 = .ok (.iconst 0, 1) := by decide +kernel
theorem dX9_digest_77 : decode cX9_digest 77 = .ok (.istore_n 1, 1) := by decide +kernel
theorem dX9_digest_78 : decode cX9_digest 78 = .ok (.iload_n 1, 1) := by decide +kernel
theorem dX9_digest_79 : decode cX9_digest 79 = .ok (.aload_n 0, 1) := by decide +kernel
theorem dX9_digest_80 : decode cX9_digest 80 = .ok (.getfield 17, 3) := by decide +kernel
theorem dX9_digest_83 : decode cX9_digest 83 = .ok (.iconst 2, 1) := by decide +kernel
theorem dX9_digest_84 : decode cX9_digest 84 = .ok (.iaload, 1) := by decide +kernel
theorem dX9_digest_85 : decode cX9_digest 85 = .ok (.if_icmp .ge 42, 3) := by decide +kernel
theorem dX9_digest_88 : decode cX9_digest 88 = .ok (.iconst 0, 1) := by decide +kernel
theorem dX9_digest_89 : decode cX9_digest 89 = .ok (.istore_n 2, 1) := by decide +kernel
theorem dX9_digest_90 : decode cX9_digest 90 = .ok (.iload_n 2, 1) := by decide +kernel
theorem dX9_digest_91 : decode cX9_digest 91 = .ok (.bipush 6, 2) := by decide +kernel
theorem dX9_digest_93 : decode cX9_digest 93 = .ok (.if_icmp .ge 28, 3) := by decide +kernel
theorem dX9_digest_96 : decode cX9_digest 96 = .ok (.aload_n 0, 1) := by decide +kernel
theorem dX9_digest_97 : decode cX9_digest 97 = .ok (.aload_n 0, 1) := by decide +kernel
theorem dX9_digest_98 : decode cX9_digest 98 = .ok (.getfield 17, 3) := by decide +kernel
theorem dX9_digest_101 : decode cX9_digest 101 = .ok (.bipush 9, 2) := by decide +kernel
theorem dX9_digest_103 : decode cX9_digest 103 = .ok (.bipush 6, 2) := by decide +kernel
theorem dX9_digest_105 : decode cX9_digest 105 = .ok (.iload_n 2, 1) := by decide +kernel
theorem dX9_digest_106 : decode cX9_digest 106 = .ok (.imul, 1) := by decide +kernel
theorem dX9_digest_107 : decode cX9_digest 107 = .ok (.iadd, 1) := by decide +kernel
theorem dX9_digest_108 : decode cX9_digest 108 = .ok (.iload_n 1, 1) := by decide +kernel
theorem dX9_digest_109 : decode cX9_digest 109 = .ok (.iadd, 1) := by decide +kernel
theorem dX9_digest_110 : decode cX9_digest 110 = .ok (.iaload, 1) := by decide +kernel
theorem dX9_digest_111 : decode cX9_digest 111 = .ok (.i2l, 1) := by decide +kernel
theorem dX9_digest_112 : decode cX9_digest 112 = .ok (.invokevirtual 295, 3) := by decide +kernel
theorem dX9_digest_115 : decode cX9_digest 115 = .ok (.iinc 2 1, 3) := by decide +kernel
theorem dX9_digest_118 : decode cX9_digest 118 = .ok (.goto (-28), 3) := by decide +kernel
theorem dX9_digest_121 : decode cX9_digest 121 = .ok (.iinc 1 1, 3) := by decide +kernel
theorem dX9_digest_124 : decode cX9_digest 124 = .ok (.goto (-46), 3) := by decide +kernel
theorem dX9_digest_127 : decode cX9_digest 127 = .ok (.iconst 0, 1) := by decide +kernel
theorem dX9_digest_128 : decode cX9_digest 128 = .ok (.istore_n 1, 1) := by decide +kernel
theorem dX9_digest_129 : decode cX9_digest 129 = .ok (.iload_n 1, 1) := by decide +kernel
theorem dX9_digest_130 : decode cX9_digest 130 = .ok (.iconst 5, 1) := by decide +kernel
theorem dX9_digest_131 : decode cX9_digest 131 = .ok (.aload_n 0, 1) := by decide +kernel
theorem dX9_digest_132 : decode cX9_digest 132 = .ok (.getfield 26, 3) := by decide +kernel
theorem dX9_digest_135 : decode cX9_digest 135 = .ok (.iconst 0, 1) := by decide +kernel
theorem dX9_digest_136 : decode cX9_digest 136 = .ok (.iaload, 1) := by decide +kernel
theorem dX9_digest_137 : decode cX9_digest 137 = .ok (.imul, 1) := by decide +kernel
theorem dX9_digest_138 : decode cX9_digest 138 = .ok (.if_icmp .ge 22, 3) := by decide +kernel
theorem dX9_digest_141 : decode cX9_digest 141 = .ok (.aload_n 0, 1) := by decide +kernel
theorem dX9_digest_142 : decode cX9_digest 142 = .ok (.aload_n 0, 1) := by decide +kernel
theorem dX9_digest_143 : decode cX9_digest 143 = .ok (.getfield 26, 3) := by decide +kernel
theorem dX9_digest_146 : decode cX9_digest 146 = .ok (.iconst 1, 1) := by decide +kernel
theorem dX9_digest_147 : decode cX9_digest 147 = .ok (.iload_n 1, 1) := by decide +kernel
theorem dX9_digest_148 : decode cX9_digest 148 = .ok (.iadd, 1) := by decide +kernel
theorem dX9_digest_149 : decode cX9_digest 149 = .ok (.iaload, 1) := by decide +kernel
theorem dX9_digest_150 : decode cX9_digest 150 = .ok (.i2l, 1) := by decide +kernel
theorem dX9_digest_151 : decode cX9_digest 151 = .ok (.invokevirtual 295, 3) := by decide +kernel
theorem dX9_digest_154 : decode cX9_digest 154 = .ok (.iinc 1 1, 3) := by decide +kernel
theorem dX9_digest_157 : decode cX9_digest 157 = .ok (.goto (-28), 3) := by decide +kernel
theorem dX9_digest_160 : decode cX9_digest 160 = .ok (.iconst 0, 1) := by decide +kernel
theorem dX9_digest_161 : decode cX9_digest 161 = .ok (.istore_n 1, 1) := by decide +kernel
theorem dX9_digest_162 : decode cX9_digest 162 = .ok (.iload_n 1, 1) := by decide +kernel
theorem dX9_digest_163 : decode cX9_digest 163 = .ok (.bipush 6, 2) := by decide +kernel
theorem dX9_digest_165 : decode cX9_digest 165 = .ok (.aload_n 0, 1) := by decide +kernel
theorem dX9_digest_166 : decode cX9_digest 166 = .ok (.getfield 26, 3) := by decide +kernel
theorem dX9_digest_169 : decode cX9_digest 169 = .ok (.bipush 26, 2) := by decide +kernel
theorem dX9_digest_171 : decode cX9_digest 171 = .ok (.iaload, 1) := by decide +kernel
theorem dX9_digest_172 : decode cX9_digest 172 = .ok (.imul, 1) := by decide +kernel
theorem dX9_digest_173 : decode cX9_digest 173 = .ok (.if_icmp .ge 23, 3) := by decide +kernel
theorem dX9_digest_176 : decode cX9_digest 176 = .ok (.aload_n 0, 1) := by decide +kernel
theorem dX9_digest_177 : decode cX9_digest 177 = .ok (.aload_n 0, 1) := by decide +kernel
theorem dX9_digest_178 : decode cX9_digest 178 = .ok (.getfield 26, 3) := by decide +kernel
theorem dX9_digest_181 : decode cX9_digest 181 = .ok (.bipush 27, 2) := by decide +kernel
theorem dX9_digest_183 : decode cX9_digest 183 = .ok (.iload_n 1, 1) := by decide +kernel
theorem dX9_digest_184 : decode cX9_digest 184 = .ok (.iadd, 1) := by decide +kernel
theorem dX9_digest_185 : decode cX9_digest 185 = .ok (.iaload, 1) := by decide +kernel
theorem dX9_digest_186 : decode cX9_digest 186 = .ok (.i2l, 1) := by decide +kernel
theorem dX9_digest_187 : decode cX9_digest 187 = .ok (.invokevirtual 295, 3) := by decide +kernel
theorem dX9_digest_190 : decode cX9_digest 190 = .ok (.iinc 1 1, 3) := by decide +kernel
theorem dX9_digest_193 : decode cX9_digest 193 = .ok (.goto (-31), 3) := by decide +kernel
theorem dX9_digest_196 : decode cX9_digest 196 = .ok (.iconst 0, 1) := by decide +kernel
theorem dX9_digest_197 : decode cX9_digest 197 = .ok (.istore_n 1, 1) := by decide +kernel
theorem dX9_digest_198 : decode cX9_digest 198 = .ok (.iload_n 1, 1) := by decide +kernel
theorem dX9_digest_199 : decode cX9_digest 199 = .ok (.iconst 5, 1) := by decide +kernel
theorem dX9_digest_200 : decode cX9_digest 200 = .ok (.aload_n 0, 1) := by decide +kernel
theorem dX9_digest_201 : decode cX9_digest 201 = .ok (.getfield 26, 3) := by decide +kernel
theorem dX9_digest_204 : decode cX9_digest 204 = .ok (.bipush 63, 2) := by decide +kernel
theorem dX9_digest_206 : decode cX9_digest 206 = .ok (.iaload, 1) := by decide +kernel
theorem dX9_digest_207 : decode cX9_digest 207 = .ok (.imul, 1) := by decide +kernel
theorem dX9_digest_208 : decode cX9_digest 208 = .ok (.if_icmp .ge 23, 3) := by decide +kernel
theorem dX9_digest_211 : decode cX9_digest 211 = .ok (.aload_n 0, 1) := by decide +kernel
theorem dX9_digest_212 : decode cX9_digest 212 = .ok (.aload_n 0, 1) := by decide +kernel
theorem dX9_digest_213 : decode cX9_digest 213 = .ok (.getfield 26, 3) := by decide +kernel
theorem dX9_digest_216 : decode cX9_digest 216 = .ok (.bipush 64, 2) := by decide +kernel
theorem dX9_digest_218 : decode cX9_digest 218 = .ok (.iload_n 1, 1) := by decide +kernel
theorem dX9_digest_219 : decode cX9_digest 219 = .ok (.iadd, 1) := by decide +kernel
theorem dX9_digest_220 : decode cX9_digest 220 = .ok (.iaload, 1) := by decide +kernel
theorem dX9_digest_221 : decode cX9_digest 221 = .ok (.i2l, 1) := by decide +kernel
theorem dX9_digest_222 : decode cX9_digest 222 = .ok (.invokevirtual 295, 3) := by decide +kernel
theorem dX9_digest_225 : decode cX9_digest 225 = .ok (.iinc 1 1, 3) := by decide +kernel
theorem dX9_digest_228 : decode cX9_digest 228 = .ok (.goto (-30), 3) := by decide +kernel
theorem dX9_digest_231 : decode cX9_digest 231 = .ok (.aload_n 0, 1) := by decide +kernel
theorem dX9_digest_232 : decode cX9_digest 232 = .ok (.aload_n 0, 1) := by decide +kernel
theorem dX9_digest_233 : decode cX9_digest 233 = .ok (.getfield 65, 3) := by decide +kernel
theorem dX9_digest_236 : decode cX9_digest 236 = .ok (.invokevirtual 295, 3) := by decide +kernel
theorem dX9_digest_239 : decode cX9_digest 239 = .ok (.aload_n 0, 1) := by decide +kernel
theorem dX9_digest_240 : decode cX9_digest 240 = .ok (.aload_n 0, 1) := by decide +kernel
theorem dX9_digest_241 : decode cX9_digest 241 = .ok (.getfield 13, 3) := by decide +kernel
theorem dX9_digest_244 : decode cX9_digest 244 = .ok (.invokevirtual 295, 3) := by decide +kernel
theorem dX9_digest_247 : decode cX9_digest 247 = .ok (.aload_n 0, 1) := by decide +kernel
theorem dX9_digest_248 : decode cX9_digest 248 = .ok (.getfield 290, 3) := by decide +kernel
theorem dX9_digest_251 : decode cX9_digest 251 = .ok (.lreturn, 1) := by decide +kernel
theorem dJ6_bitCount_0f7a4_0 : decode cJ6_bitCount_0f7a4 0 = .ok (.iload_n 0, 1) := by decide +kernel
theorem dJ6_bitCount_0f7a4_1 : decode cJ6_bitCount_0f7a4 1 = .ok (.iload_n 0, 1) := by decide +kernel
theorem dJ6_bitCount_0f7a4_2 : decode cJ6_bitCount_0f7a4 2 = .ok (.iconst 1, 1) := by decide +kernel
theorem dJ6_bitCount_0f7a4_3 : decode cJ6_bitCount_0f7a4 3 = .ok (.iushr, 1) := by decide +kernel
theorem dJ6_bitCount_0f7a4_4 : decode cJ6_bitCount_0f7a4 4 = .ok (.ldc_w 265, 3) := by decide +kernel
theorem dJ6_bitCount_0f7a4_7 : decode cJ6_bitCount_0f7a4 7 = .ok (.iand, 1) := by decide +kernel
theorem dJ6_bitCount_0f7a4_8 : decode cJ6_bitCount_0f7a4 8 = .ok (.isub, 1) := by decide +kernel
theorem dJ6_bitCount_0f7a4_9 : decode cJ6_bitCount_0f7a4 9 = .ok (.istore_n 0, 1) := by decide +kernel
theorem dJ6_bitCount_0f7a4_10 : decode cJ6_bitCount_0f7a4 10 = .ok (.iload_n 0, 1) := by decide +kernel
theorem dJ6_bitCount_0f7a4_11 : decode cJ6_bitCount_0f7a4 11 = .ok (.ldc_w 266, 3) := by decide +kernel
theorem dJ6_bitCount_0f7a4_14 : decode cJ6_bitCount_0f7a4 14 = .ok (.iand, 1) := by decide +kernel
theorem dJ6_bitCount_0f7a4_15 : decode cJ6_bitCount_0f7a4 15 = .ok (.iload_n 0, 1) := by decide +kernel
theorem dJ6_bitCount_0f7a4_16 : decode cJ6_bitCount_0f7a4 16 = .ok (.iconst 2, 1) := by decide +kernel
theorem dJ6_bitCount_0f7a4_17 : decode cJ6_bitCount_0f7a4 17 = .ok (.iushr, 1) := by decide +kernel
theorem dJ6_bitCount_0f7a4_18 : decode cJ6_bitCount_0f7a4 18 = .ok (.ldc_w 266, 3) := by decide +kernel
theorem dJ6_bitCount_0f7a4_21 : decode cJ6_bitCount_0f7a4 21 = .ok (.iand, 1) := by decide +kernel
theorem dJ6_bitCount_0f7a4_22 : decode cJ6_bitCount_0f7a4 22 = .ok (.iadd, 1) := by decide +kernel
theorem dJ6_bitCount_0f7a4_23 : decode cJ6_bitCount_0f7a4 23 = .ok (.istore_n 0, 1) := by decide +kernel
theorem dJ6_bitCount_0f7a4_24 : decode cJ6_bitCount_0f7a4 24 = .ok (.iload_n 0, 1) := by decide +kernel
theorem dJ6_bitCount_0f7a4_25 : decode cJ6_bitCount_0f7a4 25 = .ok (.iload_n 0, 1) := by decide +kernel

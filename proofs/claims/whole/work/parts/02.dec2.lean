theorem dX7_strike_11 : decode cX7_strike 11 = .ok (.aload_n 0, 1) := by decide +kernel
theorem dX7_strike_12 : decode cX7_strike 12 = .ok (.iload_n 1, 1) := by decide +kernel
theorem dX7_strike_13 : decode cX7_strike 13 = .ok (.invokevirtual 76, 3) := by decide +kernel
theorem dX7_strike_16 : decode cX7_strike 16 = .ok (.istore_n 3, 1) := by decide +kernel
theorem dX7_strike_17 : decode cX7_strike 17 = .ok (.aload_n 0, 1) := by decide +kernel
theorem dX7_strike_18 : decode cX7_strike 18 = .ok (.iconst 1, 1) := by decide +kernel
theorem dX7_strike_19 : decode cX7_strike 19 = .ok (.invokevirtual 80, 3) := by decide +kernel
theorem dX7_strike_22 : decode cX7_strike 22 = .ok (.aload_n 0, 1) := by decide +kernel
theorem dX7_strike_23 : decode cX7_strike 23 = .ok (.iload_n 2, 1) := by decide +kernel
theorem dX7_strike_24 : decode cX7_strike 24 = .ok (.iload_n 3, 1) := by decide +kernel
theorem dX7_strike_25 : decode cX7_strike 25 = .ok (.invokevirtual 84, 3) := by decide +kernel
theorem dX7_strike_28 : decode cX7_strike 28 = .ok (.aload_n 0, 1) := by decide +kernel
theorem dX7_strike_29 : decode cX7_strike 29 = .ok (.iload_n 1, 1) := by decide +kernel
theorem dX7_strike_30 : decode cX7_strike 30 = .ok (.iload_n 3, 1) := by decide +kernel
theorem dX7_strike_31 : decode cX7_strike 31 = .ok (.iconst 2, 1) := by decide +kernel
theorem dX7_strike_32 : decode cX7_strike 32 = .ok (.idiv, 1) := by decide +kernel
theorem dX7_strike_33 : decode cX7_strike 33 = .ok (.invokevirtual 84, 3) := by decide +kernel
theorem dX7_strike_36 : decode cX7_strike 36 = .ok (.aload_n 0, 1) := by decide +kernel
theorem dX7_strike_37 : decode cX7_strike 37 = .ok (.iload_n 2, 1) := by decide +kernel
theorem dX7_strike_38 : decode cX7_strike 38 = .ok (.invokevirtual 88, 3) := by decide +kernel
theorem dX7_strike_41 : decode cX7_strike 41 = .ok (.ifCond .eq 36, 3) := by decide +kernel
theorem dX7_strike_44 : decode cX7_strike 44 = .ok (.aload_n 0, 1) := by decide +kernel
theorem dX7_strike_45 : decode cX7_strike 45 = .ok (.iload_n 1, 1) := by decide +kernel
theorem dX7_strike_46 : decode cX7_strike 46 = .ok (.invokevirtual 60, 3) := by decide +kernel
theorem dX7_strike_49 : decode cX7_strike 49 = .ok (.ifCond .eq 28, 3) := by decide +kernel
theorem dX7_strike_52 : decode cX7_strike 52 = .ok (.aload_n 0, 1) := by decide +kernel
theorem dX7_strike_53 : decode cX7_strike 53 = .ok (.getfield 33, 3) := by decide +kernel
theorem dX7_strike_56 : decode cX7_strike 56 = .ok (.iload_n 1, 1) := by decide +kernel
theorem dX7_strike_57 : decode cX7_strike 57 = .ok (.sipush 999, 3) := by decide +kernel
theorem dX7_strike_60 : decode cX7_strike 60 = .ok (.aload_n 0, 1) := by decide +kernel
theorem dX7_strike_61 : decode cX7_strike 61 = .ok (.getfield 33, 3) := by decide +kernel
theorem dX7_strike_64 : decode cX7_strike 64 = .ok (.iload_n 1, 1) := by decide +kernel
theorem dX7_strike_65 : decode cX7_strike 65 = .ok (.iaload, 1) := by decide +kernel
theorem dX7_strike_66 : decode cX7_strike 66 = .ok (.aload_n 0, 1) := by decide +kernel
theorem dX7_strike_67 : decode cX7_strike 67 = .ok (.getfield 33, 3) := by decide +kernel
theorem dX7_strike_70 : decode cX7_strike 70 = .ok (.iload_n 2, 1) := by decide +kernel
theorem dX7_strike_71 : decode cX7_strike 71 = .ok (.iaload, 1) := by decide +kernel
theorem dX7_strike_72 : decode cX7_strike 72 = .ok (.iadd, 1) := by decide +kernel
theorem dX7_strike_73 : decode cX7_strike 73 = .ok (.invokestatic 63, 3) := by decide +kernel
theorem dX7_strike_76 : decode cX7_strike 76 = .ok (.iastore, 1) := by decide +kernel
theorem dX7_strike_77 : decode cX7_strike 77 = .ok (.aload_n 0, 1) := by decide +kernel
theorem dX7_strike_78 : decode cX7_strike 78 = .ok (.iload_n 1, 1) := by decide +kernel
theorem dX7_strike_79 : decode cX7_strike 79 = .ok (.invokevirtual 88, 3) := by decide +kernel
theorem dX7_strike_82 : decode cX7_strike 82 = .ok (.ifCond .eq 36, 3) := by decide +kernel
theorem dX7_strike_85 : decode cX7_strike 85 = .ok (.aload_n 0, 1) := by decide +kernel
theorem dX7_strike_86 : decode cX7_strike 86 = .ok (.iload_n 2, 1) := by decide +kernel
theorem dX7_strike_87 : decode cX7_strike 87 = .ok (.invokevirtual 60, 3) := by decide +kernel
theorem dX7_strike_90 : decode cX7_strike 90 = .ok (.ifCond .eq 28, 3) := by decide +kernel
theorem dX7_strike_93 : decode cX7_strike 93 = .ok (.aload_n 0, 1) := by decide +kernel
theorem dX7_strike_94 : decode cX7_strike 94 = .ok (.getfield 33, 3) := by decide +kernel
theorem dX7_strike_97 : decode cX7_strike 97 = .ok (.iload_n 2, 1) := by decide +kernel
theorem dX7_strike_98 : decode cX7_strike 98 = .ok (.sipush 999, 3) := by decide +kernel
theorem dX7_strike_101 : decode cX7_strike 101 = .ok (.aload_n 0, 1) := by decide +kernel
theorem dX7_strike_102 : decode cX7_strike 102 = .ok (.getfield 33, 3) := by decide +kernel
theorem dX7_strike_105 : decode cX7_strike 105 = .ok (.iload_n 2, 1) := by decide +kernel
theorem dX7_strike_106 : decode cX7_strike 106 = .ok (.iaload, 1) := by decide +kernel
theorem dX7_strike_107 : decode cX7_strike 107 = .ok (.aload_n 0, 1) := by decide +kernel
theorem dX7_strike_108 : decode cX7_strike 108 = .ok (.getfield 33, 3) := by decide +kernel
theorem dX7_strike_111 : decode cX7_strike 111 = .ok (.iload_n 1, 1) := by decide +kernel
theorem dX7_strike_112 : decode cX7_strike 112 = .ok (.iaload, 1) := by decide +kernel
theorem dX7_strike_113 : decode cX7_strike 113 = .ok (.iadd, 1) := by decide +kernel
theorem dX7_strike_114 : decode cX7_strike 114 = .ok (.invokestatic 63, 3) := by decide +kernel
theorem dX7_strike_117 : decode cX7_strike 117 = .ok (.iastore, 1) := by decide +kernel
theorem dX7_strike_118 : decode cX7_strike 118 = .ok (.iconst 1, 1) := by decide +kernel
theorem dX7_strike_119 : decode cX7_strike 119 = .ok (.ireturn, 1) := by decide +kernel
theorem dX7_crackBy_0 : decode cX7_crackBy 0 = .ok (.aload_n 0, 1) := by decide +kernel
theorem dX7_crackBy_1 : decode cX7_crackBy 1 = .ok (.iload_n 1, 1) := by decide +kernel
theorem dX7_crackBy_2 : decode cX7_crackBy 2 = .ok (.invokevirtual 56, 3) := by decide +kernel
theorem dX7_crackBy_5 : decode cX7_crackBy 5 = .ok (.ifCond .ne 4, 3) := by decide +kernel
theorem dX7_crackBy_8 : decode cX7_crackBy 8 = .ok (.return_, 1) := by decide +kernel
theorem dX7_crackBy_9 : decode cX7_crackBy 9 = .ok (.aload_n 0, 1) := by decide +kernel
theorem dX7_crackBy_10 : decode cX7_crackBy 10 = .ok (.getfield 21, 3) := by decide +kernel
theorem dX7_crackBy_13 : decode cX7_crackBy 13 = .ok (.iload_n 1, 1) := by decide +kernel
theorem dX7_crackBy_14 : decode cX7_crackBy 14 = .ok (.iaload, 1) := by decide +kernel
theorem dX7_crackBy_15 : decode cX7_crackBy 15 = .ok (.aload_n 0, 1) := by decide +kernel
theorem dX7_crackBy_16 : decode cX7_crackBy 16 = .ok (.getfield 24, 3) := by decide +kernel
theorem dX7_crackBy_19 : decode cX7_crackBy 19 = .ok (.iload_n 1, 1) := by decide +kernel
theorem dX7_crackBy_20 : decode cX7_crackBy 20 = .ok (.iaload, 1) := by decide +kernel
theorem dX7_crackBy_21 : decode cX7_crackBy 21 = .ok (.aload_n 0, 1) := by decide +kernel
theorem dX7_crackBy_22 : decode cX7_crackBy 22 = .ok (.getfield 30, 3) := by decide +kernel
theorem dX7_crackBy_25 : decode cX7_crackBy 25 = .ok (.iload_n 1, 1) := by decide +kernel
theorem dX7_crackBy_26 : decode cX7_crackBy 26 = .ok (.iaload, 1) := by decide +kernel
theorem dX7_crackBy_27 : decode cX7_crackBy 27 = .ok (.iload_n 2, 1) := by decide +kernel
theorem dX7_crackBy_28 : decode cX7_crackBy 28 = .ok (.aload_n 0, 1) := by decide +kernel
theorem dX7_crackBy_29 : decode cX7_crackBy 29 = .ok (.getfield 43, 3) := by decide +kernel
theorem dX7_crackBy_32 : decode cX7_crackBy 32 = .ok (.invokestatic 91, 3) := by decide +kernel
theorem dX7_crackBy_35 : decode cX7_crackBy 35 = .ok (.istore_n 3, 1) := by decide +kernel
theorem dX7_crackBy_36 : decode cX7_crackBy 36 = .ok (.aload_n 0, 1) := by decide +kernel
theorem dX7_crackBy_37 : decode cX7_crackBy 37 = .ok (.getfield 30, 3) := by decide +kernel
theorem dX7_crackBy_40 : decode cX7_crackBy 40 = .ok (.iload_n 1, 1) := by decide +kernel
theorem dX7_crackBy_41 : decode cX7_crackBy 41 = .ok (.bipush 10, 2) := by decide +kernel
theorem dX7_crackBy_43 : decode cX7_crackBy 43 = .ok (.aload_n 0, 1) := by decide +kernel
theorem dX7_crackBy_44 : decode cX7_crackBy 44 = .ok (.getfield 30, 3) := by decide +kernel
theorem dX7_crackBy_47 : decode cX7_crackBy 47 = .ok (.iload_n 1, 1) := by decide +kernel
theorem dX7_crackBy_48 : decode cX7_crackBy 48 = .ok (.iaload, 1) := by decide +kernel
theorem dX7_crackBy_49 : decode cX7_crackBy 49 = .ok (.iload_n 3, 1) := by decide +kernel
theorem dX7_crackBy_50 : decode cX7_crackBy 50 = .ok (.iadd, 1) := by decide +kernel
theorem dX7_crackBy_51 : decode cX7_crackBy 51 = .ok (.invokestatic 63, 3) := by decide +kernel
theorem dX7_crackBy_54 : decode cX7_crackBy 54 = .ok (.iastore, 1) := by decide +kernel
theorem dX7_crackBy_55 : decode cX7_crackBy 55 = .ok (.return_, 1) := by decide +kernel
theorem dX7_nextForce_0 : decode cX7_nextForce 0 = .ok (.aload_n 0, 1) := by decide +kernel
theorem dX7_nextForce_1 : decode cX7_nextForce 1 = .ok (.iload_n 1, 1) := by decide +kernel
theorem dX7_nextForce_2 : decode cX7_nextForce 2 = .ok (.invokevirtual 56, 3) := by decide +kernel
theorem dX7_nextForce_5 : decode cX7_nextForce 5 = .ok (.ifCond .eq 16, 3) := by decide +kernel
theorem dX7_nextForce_8 : decode cX7_nextForce 8 = .ok (.aload_n 0, 1) := by decide +kernel
theorem dX7_nextForce_9 : decode cX7_nextForce 9 = .ok (.aload_n 0, 1) := by decide +kernel
theorem dX7_nextForce_10 : decode cX7_nextForce 10 = .ok (.getfield 18, 3) := by decide +kernel
theorem dX7_nextForce_13 : decode cX7_nextForce 13 = .ok (.iload_n 1, 1) := by decide +kernel
theorem dX7_nextForce_14 : decode cX7_nextForce 14 = .ok (.iaload, 1) := by decide +kernel
theorem dX7_nextForce_15 : decode cX7_nextForce 15 = .ok (.invokevirtual 69, 3) := by decide +kernel
theorem dX7_nextForce_18 : decode cX7_nextForce 18 = .ok (.ifCond .ne 5, 3) := by decide +kernel
theorem dX7_nextForce_21 : decode cX7_nextForce 21 = .ok (.iconst 0, 1) := by decide +kernel
theorem dX7_nextForce_22 : decode cX7_nextForce 22 = .ok (.ireturn, 1) := by decide +kernel
theorem dX7_nextForce_23 : decode cX7_nextForce 23 = .ok (.aload_n 0, 1) := by decide +kernel
theorem dX7_nextForce_24 : decode cX7_nextForce 24 = .ok (.getfield 18, 3) := by decide +kernel
theorem dX7_nextForce_27 : decode cX7_nextForce 27 = .ok (.iload_n 1, 1) := by decide +kernel
theorem dX7_nextForce_28 : decode cX7_nextForce 28 = .ok (.iaload, 1) := by decide +kernel
theorem dX7_nextForce_29 : decode cX7_nextForce 29 = .ok (.istore_n 2, 1) := by decide +kernel
theorem dX7_nextForce_30 : decode cX7_nextForce 30 = .ok (.aload_n 0, 1) := by decide +kernel
theorem dX7_nextForce_31 : decode cX7_nextForce 31 = .ok (.getfield 9, 3) := by decide +kernel
theorem dX7_nextForce_34 : decode cX7_nextForce 34 = .ok (.iload_n 2, 1) := by decide +kernel
theorem dX7_nextForce_35 : decode cX7_nextForce 35 = .ok (.iaload, 1) := by decide +kernel
theorem dX7_nextForce_36 : decode cX7_nextForce 36 = .ok (.aload_n 0, 1) := by decide +kernel
theorem dX7_nextForce_37 : decode cX7_nextForce 37 = .ok (.getfield 15, 3) := by decide +kernel
theorem dX7_nextForce_40 : decode cX7_nextForce 40 = .ok (.iload_n 2, 1) := by decide +kernel
theorem dX7_nextForce_41 : decode cX7_nextForce 41 = .ok (.iaload, 1) := by decide +kernel
theorem dX7_nextForce_42 : decode cX7_nextForce 42 = .ok (.aload_n 0, 1) := by decide +kernel
theorem dX7_nextForce_43 : decode cX7_nextForce 43 = .ok (.getfield 27, 3) := by decide +kernel
theorem dX7_nextForce_46 : decode cX7_nextForce 46 = .ok (.iload_n 1, 1) := by decide +kernel
theorem dX7_nextForce_47 : decode cX7_nextForce 47 = .ok (.iaload, 1) := by decide +kernel
theorem dX7_nextForce_48 : decode cX7_nextForce 48 = .ok (.aload_n 0, 1) := by decide +kernel
theorem dX7_nextForce_49 : decode cX7_nextForce 49 = .ok (.invokevirtual 96, 3) := by decide +kernel
theorem dX7_nextForce_52 : decode cX7_nextForce 52 = .ok (.invokestatic 100, 3) := by decide +kernel
theorem dX7_nextForce_55 : decode cX7_nextForce 55 = .ok (.ireturn, 1) := by decide +kernel
theorem dX7_leftOf_0 : decode cX7_leftOf 0 = .ok (.aload_n 0, 1) := by decide +kernel
theorem dX7_leftOf_1 : decode cX7_leftOf 1 = .ok (.iload_n 1, 1) := by decide +kernel
theorem dX7_leftOf_2 : decode cX7_leftOf 2 = .ok (.invokevirtual 60, 3) := by decide +kernel
theorem dX7_leftOf_5 : decode cX7_leftOf 5 = .ok (.ifCond .eq 13, 3) := by decide +kernel
theorem dX7_leftOf_8 : decode cX7_leftOf 8 = .ok (.aload_n 0, 1) := by decide +kernel
theorem dX7_leftOf_9 : decode cX7_leftOf 9 = .ok (.iload_n 2, 1) := by decide +kernel
theorem dX7_leftOf_10 : decode cX7_leftOf 10 = .ok (.invokevirtual 88, 3) := by decide +kernel
theorem dX7_leftOf_13 : decode cX7_leftOf 13 = .ok (.ifCond .eq 5, 3) := by decide +kernel
theorem dX7_leftOf_16 : decode cX7_leftOf 16 = .ok (.iload_n 1, 1) := by decide +kernel
theorem dX7_leftOf_17 : decode cX7_leftOf 17 = .ok (.ireturn, 1) := by decide +kernel
theorem dX7_leftOf_18 : decode cX7_leftOf 18 = .ok (.aload_n 0, 1) := by decide +kernel
theorem dX7_leftOf_19 : decode cX7_leftOf 19 = .ok (.iload_n 2, 1) := by decide +kernel
theorem dX7_leftOf_20 : decode cX7_leftOf 20 = .ok (.invokevirtual 60, 3) := by decide +kernel
theorem dX7_leftOf_23 : decode cX7_leftOf 23 = .ok (.ifCond .eq 13, 3) := by decide +kernel
theorem dX7_leftOf_26 : decode cX7_leftOf 26 = .ok (.aload_n 0, 1) := by decide +kernel
theorem dX7_leftOf_27 : decode cX7_leftOf 27 = .ok (.iload_n 1, 1) := by decide +kernel
theorem dX7_leftOf_28 : decode cX7_leftOf 28 = .ok (.invokevirtual 88, 3) := by decide +kernel
theorem dX7_leftOf_31 : decode cX7_leftOf 31 = .ok (.ifCond .eq 5, 3) := by decide +kernel
theorem dX7_leftOf_34 : decode cX7_leftOf 34 = .ok (.iload_n 2, 1) := by decide +kernel
theorem dX7_leftOf_35 : decode cX7_leftOf 35 = .ok (.ireturn, 1) := by decide +kernel
theorem dX7_leftOf_36 : decode cX7_leftOf 36 = .ok (.iconst (-1), 1) := by decide +kernel
theorem dX7_leftOf_37 : decode cX7_leftOf 37 = .ok (.ireturn, 1) := by decide +kernel
theorem dX7_canStrikeBits_0 : decode cX7_canStrikeBits 0 = .ok (.iconst 0, 1) := by decide +kernel
theorem dX7_canStrikeBits_1 : decode cX7_canStrikeBits 1 = .ok (.istore_n 2, 1) := by decide +kernel
theorem dX7_canStrikeBits_2 : decode cX7_canStrikeBits 2 = .ok (.iconst 0, 1) := by decide +kernel
theorem dX7_canStrikeBits_3 : decode cX7_canStrikeBits 3 = .ok (.istore_n 3, 1) := by decide +kernel
theorem dX7_canStrikeBits_4 : decode cX7_canStrikeBits 4 = .ok (.iload_n 3, 1) := by decide +kernel
theorem dX7_canStrikeBits_5 : decode cX7_canStrikeBits 5 = .ok (.aload_n 0, 1) := by decide +kernel
theorem dX7_canStrikeBits_6 : decode cX7_canStrikeBits 6 = .ok (.getfield 40, 3) := by decide +kernel
theorem dX7_canStrikeBits_9 : decode cX7_canStrikeBits 9 = .ok (.if_icmp .ge 24, 3) := by decide +kernel
theorem dX7_canStrikeBits_12 : decode cX7_canStrikeBits 12 = .ok (.aload_n 0, 1) := by decide +kernel
theorem dX7_canStrikeBits_13 : decode cX7_canStrikeBits 13 = .ok (.iload_n 1, 1) := by decide +kernel
theorem dX7_canStrikeBits_14 : decode cX7_canStrikeBits 14 = .ok (.iload_n 3, 1) := by decide +kernel
theorem dX7_canStrikeBits_15 : decode cX7_canStrikeBits 15 = .ok (.invokevirtual 72, 3) := by decide +kernel
theorem dX7_canStrikeBits_18 : decode cX7_canStrikeBits 18 = .ok (.ifCond .eq 9, 3) := by decide +kernel
theorem dX7_canStrikeBits_21 : decode cX7_canStrikeBits 21 = .ok (.iload_n 2, 1) := by decide +kernel
theorem dX7_canStrikeBits_22 : decode cX7_canStrikeBits 22 = .ok (.iconst 1, 1) := by decide +kernel
theorem dX7_canStrikeBits_23 : decode cX7_canStrikeBits 23 = .ok (.iload_n 3, 1) := by decide +kernel
theorem dX7_canStrikeBits_24 : decode cX7_canStrikeBits 24 = .ok (.ishl, 1) := by decide +kernel
theorem dX7_canStrikeBits_25 : decode cX7_canStrikeBits 25 = .ok (.ior, 1) := by decide +kernel
theorem dX7_canStrikeBits_26 : decode cX7_canStrikeBits 26 = .ok (.istore_n 2, 1) := by decide +kernel
theorem dX7_canStrikeBits_27 : decode cX7_canStrikeBits 27 = .ok (.iinc 3 1, 3) := by decide +kernel
theorem dX7_canStrikeBits_30 : decode cX7_canStrikeBits 30 = .ok (.goto (-26), 3) := by decide +kernel
theorem dX7_canStrikeBits_33 : decode cX7_canStrikeBits 33 = .ok (.iload_n 2, 1) := by decide +kernel
theorem dX7_canStrikeBits_34 : decode cX7_canStrikeBits 34 = .ok (.ireturn, 1) := by decide +kernel
theorem dX7_brokenBits_0 : decode cX7_brokenBits 0 = .ok (.iconst 0, 1) := by decide +kernel
theorem dX7_brokenBits_1 : decode cX7_brokenBits 1 = .ok (.istore_n 1, 1) := by decide +kernel
theorem dX7_brokenBits_2 : decode cX7_brokenBits 2 = .ok (.iconst 0, 1) := by decide +kernel
theorem dX7_brokenBits_3 : decode cX7_brokenBits 3 = .ok (.istore_n 2, 1) := by decide +kernel
theorem dX7_brokenBits_4 : decode cX7_brokenBits 4 = .ok (.iload_n 2, 1) := by decide +kernel
theorem dX7_brokenBits_5 : decode cX7_brokenBits 5 = .ok (.aload_n 0, 1) := by decide +kernel
theorem dX7_brokenBits_6 : decode cX7_brokenBits 6 = .ok (.getfield 40, 3) := by decide +kernel
theorem dX7_brokenBits_9 : decode cX7_brokenBits 9 = .ok (.if_icmp .ge 23, 3) := by decide +kernel
theorem dX7_brokenBits_12 : decode cX7_brokenBits 12 = .ok (.aload_n 0, 1) := by decide +kernel
theorem dX7_brokenBits_13 : decode cX7_brokenBits 13 = .ok (.iload_n 2, 1) := by decide +kernel
theorem dX7_brokenBits_14 : decode cX7_brokenBits 14 = .ok (.invokevirtual 88, 3) := by decide +kernel
theorem dX7_brokenBits_17 : decode cX7_brokenBits 17 = .ok (.ifCond .eq 9, 3) := by decide +kernel
theorem dX7_brokenBits_20 : decode cX7_brokenBits 20 = .ok (.iload_n 1, 1) := by decide +kernel
theorem dX7_brokenBits_21 : decode cX7_brokenBits 21 = .ok (.iconst 1, 1) := by decide +kernel
theorem dX7_brokenBits_22 : decode cX7_brokenBits 22 = .ok (.iload_n 2, 1) := by decide +kernel
theorem dX7_brokenBits_23 : decode cX7_brokenBits 23 = .ok (.ishl, 1) := by decide +kernel
theorem dX7_brokenBits_24 : decode cX7_brokenBits 24 = .ok (.ior, 1) := by decide +kernel
theorem dX7_brokenBits_25 : decode cX7_brokenBits 25 = .ok (.istore_n 1, 1) := by decide +kernel
theorem dX7_brokenBits_26 : decode cX7_brokenBits 26 = .ok (.iinc 2 1, 3) := by decide +kernel
theorem dX7_brokenBits_29 : decode cX7_brokenBits 29 = .ok (.goto (-25), 3) := by decide +kernel
theorem dX7_brokenBits_32 : decode cX7_brokenBits 32 = .ok (.iload_n 1, 1) := by decide +kernel
theorem dX7_brokenBits_33 : decode cX7_brokenBits 33 = .ok (.ireturn, 1) := by decide +kernel
theorem dX7_sumOf_0 : decode cX7_sumOf 0 = .ok (.iconst 0, 1) := by decide +kernel
theorem dX7_sumOf_1 : decode cX7_sumOf 1 = .ok (.istore_n 2, 1) := by decide +kernel
theorem dX7_sumOf_2 : decode cX7_sumOf 2 = .ok (.iconst 0, 1) := by decide +kernel
theorem dX7_sumOf_3 : decode cX7_sumOf 3 = .ok (.istore_n 3, 1) := by decide +kernel
theorem dX7_sumOf_4 : decode cX7_sumOf 4 = .ok (.iload_n 3, 1) := by decide +kernel
theorem dX7_sumOf_5 : decode cX7_sumOf 5 = .ok (.aload_n 0, 1) := by decide +kernel
theorem dX7_sumOf_6 : decode cX7_sumOf 6 = .ok (.getfield 40, 3) := by decide +kernel
theorem dX7_sumOf_9 : decode cX7_sumOf 9 = .ok (.if_icmp .ge 18, 3) := by decide +kernel
theorem dX7_sumOf_12 : decode cX7_sumOf 12 = .ok (.iload_n 2, 1) := by decide +kernel
theorem dX7_sumOf_13 : decode cX7_sumOf 13 = .ok (.aload_n 0, 1) := by decide +kernel
theorem dX7_sumOf_14 : decode cX7_sumOf 14 = .ok (.iload_n 3, 1) := by decide +kernel
theorem dX7_sumOf_15 : decode cX7_sumOf 15 = .ok (.iload_n 1, 1) := by decide +kernel
theorem dX7_sumOf_16 : decode cX7_sumOf 16 = .ok (.invokevirtual 104, 3) := by decide +kernel
theorem dX7_sumOf_19 : decode cX7_sumOf 19 = .ok (.iadd, 1) := by decide +kernel
theorem dX7_sumOf_20 : decode cX7_sumOf 20 = .ok (.istore_n 2, 1) := by decide +kernel
theorem dX7_sumOf_21 : decode cX7_sumOf 21 = .ok (.iinc 3 1, 3) := by decide +kernel
theorem dX7_sumOf_24 : decode cX7_sumOf 24 = .ok (.goto (-20), 3) := by decide +kernel
theorem dX7_sumOf_27 : decode cX7_sumOf 27 = .ok (.iload_n 2, 1) := by decide +kernel
theorem dX7_sumOf_28 : decode cX7_sumOf 28 = .ok (.ireturn, 1) := by decide +kernel
theorem dX7_fact_0 : decode cX7_fact 0 = .ok (.aload_n 0, 1) := by decide +kernel
theorem dX7_fact_1 : decode cX7_fact 1 = .ok (.iload_n 1, 1) := by decide +kernel
theorem dX7_fact_2 : decode cX7_fact 2 = .ok (.invokevirtual 56, 3) := by decide +kernel
theorem dX7_fact_5 : decode cX7_fact 5 = .ok (.ifCond .ne 6, 3) := by decide +kernel
theorem dX7_fact_8 : decode cX7_fact 8 = .ok (.bipush (-2), 2) := by decide +kernel
theorem dX7_fact_10 : decode cX7_fact 10 = .ok (.ireturn, 1) := by decide +kernel
theorem dX7_fact_11 : decode cX7_fact 11 = .ok (.iload_n 2, 1) := by decide +kernel
theorem dX7_fact_12 : decode cX7_fact 12 = .ok (.tableswitch 92 0 6 #[44, 51, 58, 65, 72, 79, 86], 44) := by decide +kernel
theorem dX7_fact_56 : decode cX7_fact 56 = .ok (.aload_n 0, 1) := by decide +kernel
theorem dX7_fact_57 : decode cX7_fact 57 = .ok (.getfield 18, 3) := by decide +kernel
theorem dX7_fact_60 : decode cX7_fact 60 = .ok (.iload_n 1, 1) := by decide +kernel
theorem dX7_fact_61 : decode cX7_fact 61 = .ok (.iaload, 1) := by decide +kernel
theorem dX7_fact_62 : decode cX7_fact 62 = .ok (.ireturn, 1) := by decide +kernel
theorem dX7_fact_63 : decode cX7_fact 63 = .ok (.aload_n 0, 1) := by decide +kernel
theorem dX7_fact_64 : decode cX7_fact 64 = .ok (.getfield 21, 3) := by decide +kernel
theorem dX7_fact_67 : decode cX7_fact 67 = .ok (.iload_n 1, 1) := by decide +kernel
theorem dX7_fact_68 : decode cX7_fact 68 = .ok (.iaload, 1) := by decide +kernel
theorem dX7_fact_69 : decode cX7_fact 69 = .ok (.ireturn, 1) := by decide +kernel
theorem dX7_fact_70 : decode cX7_fact 70 = .ok (.aload_n 0, 1) := by decide +kernel
theorem dX7_fact_71 : decode cX7_fact 71 = .ok (.getfield 24, 3) := by decide +kernel
theorem dX7_fact_74 : decode cX7_fact 74 = .ok (.iload_n 1, 1) := by decide +kernel
theorem dX7_fact_75 : decode cX7_fact 75 = .ok (.iaload, 1) := by decide +kernel
theorem dX7_fact_76 : decode cX7_fact 76 = .ok (.ireturn, 1) := by decide +kernel
theorem dX7_fact_77 : decode cX7_fact 77 = .ok (.aload_n 0, 1) := by decide +kernel
theorem dX7_fact_78 : decode cX7_fact 78 = .ok (.getfield 27, 3) := by decide +kernel
theorem dX7_fact_81 : decode cX7_fact 81 = .ok (.iload_n 1, 1) := by decide +kernel
theorem dX7_fact_82 : decode cX7_fact 82 = .ok (.iaload, 1) := by decide +kernel
theorem dX7_fact_83 : decode cX7_fact 83 = .ok (.ireturn, 1) := by decide +kernel
theorem dX7_fact_84 : decode cX7_fact 84 = .ok (.aload_n 0, 1) := by decide +kernel
theorem dX7_fact_85 : decode cX7_fact 85 = .ok (.getfield 30, 3) := by decide +kernel
theorem dX7_fact_88 : decode cX7_fact 88 = .ok (.iload_n 1, 1) := by decide +kernel
theorem dX7_fact_89 : decode cX7_fact 89 = .ok (.iaload, 1) := by decide +kernel
theorem dX7_fact_90 : decode cX7_fact 90 = .ok (.ireturn, 1) := by decide +kernel
theorem dX7_fact_91 : decode cX7_fact 91 = .ok (.aload_n 0, 1) := by decide +kernel
theorem dX7_fact_92 : decode cX7_fact 92 = .ok (.getfield 33, 3) := by decide +kernel
theorem dX7_fact_95 : decode cX7_fact 95 = .ok (.iload_n 1, 1) := by decide +kernel
theorem dX7_fact_96 : decode cX7_fact 96 = .ok (.iaload, 1) := by decide +kernel
theorem dX7_fact_97 : decode cX7_fact 97 = .ok (.ireturn, 1) := by decide +kernel
theorem dX7_fact_98 : decode cX7_fact 98 = .ok (.aload_n 0, 1) := by decide +kernel
theorem dX7_fact_99 : decode cX7_fact 99 = .ok (.iload_n 1, 1) := by decide +kernel
theorem dX7_fact_100 : decode cX7_fact 100 = .ok (.invokevirtual 76, 3) := by decide +kernel
theorem dX7_fact_103 : decode cX7_fact 103 = .ok (.ireturn, 1) := by decide +kernel
theorem dX7_fact_104 : decode cX7_fact 104 = .ok (.aload_n 0, 1) := by decide +kernel
theorem dX7_fact_105 : decode cX7_fact 105 = .ok (.iload_n 1, 1) := by decide +kernel
theorem dX7_fact_106 : decode cX7_fact 106 = .ok (.invokevirtual 107, 3) := by decide +kernel
theorem dX7_fact_109 : decode cX7_fact 109 = .ok (.ireturn, 1) := by decide +kernel
theorem dX7_playerFact_0 : decode cX7_playerFact 0 = .ok (.aload_n 0, 1) := by decide +kernel
theorem dX7_playerFact_1 : decode cX7_playerFact 1 = .ok (.iload_n 1, 1) := by decide +kernel
theorem dX7_playerFact_2 : decode cX7_playerFact 2 = .ok (.invokevirtual 69, 3) := by decide +kernel
theorem dX7_playerFact_5 : decode cX7_playerFact 5 = .ok (.ifCond .ne 6, 3) := by decide +kernel
theorem dX7_playerFact_8 : decode cX7_playerFact 8 = .ok (.bipush (-2), 2) := by decide +kernel
theorem dX7_playerFact_10 : decode cX7_playerFact 10 = .ok (.ireturn, 1) := by decide +kernel
theorem dX7_playerFact_11 : decode cX7_playerFact 11 = .ok (.iload_n 2, 1) := by decide +kernel
theorem dX7_playerFact_12 : decode cX7_playerFact 12 = .ok (.ifCond .ne 10, 3) := by decide +kernel
theorem dX7_playerFact_15 : decode cX7_playerFact 15 = .ok (.aload_n 0, 1) := by decide +kernel
theorem dX7_playerFact_16 : decode cX7_playerFact 16 = .ok (.getfield 9, 3) := by decide +kernel
theorem dX7_playerFact_19 : decode cX7_playerFact 19 = .ok (.iload_n 1, 1) := by decide +kernel
theorem dX7_playerFact_20 : decode cX7_playerFact 20 = .ok (.iaload, 1) := by decide +kernel
theorem dX7_playerFact_21 : decode cX7_playerFact 21 = .ok (.ireturn, 1) := by decide +kernel
theorem dX7_playerFact_22 : decode cX7_playerFact 22 = .ok (.iload_n 2, 1) := by decide +kernel
theorem dX7_playerFact_23 : decode cX7_playerFact 23 = .ok (.iconst 1, 1) := by decide +kernel
theorem dX7_playerFact_24 : decode cX7_playerFact 24 = .ok (.if_icmp .ne 10, 3) := by decide +kernel
theorem dX7_playerFact_27 : decode cX7_playerFact 27 = .ok (.aload_n 0, 1) := by decide +kernel
theorem dX7_playerFact_28 : decode cX7_playerFact 28 = .ok (.getfield 15, 3) := by decide +kernel
theorem dX7_playerFact_31 : decode cX7_playerFact 31 = .ok (.iload_n 1, 1) := by decide +kernel
theorem dX7_playerFact_32 : decode cX7_playerFact 32 = .ok (.iaload, 1) := by decide +kernel
theorem dX7_playerFact_33 : decode cX7_playerFact 33 = .ok (.ireturn, 1) := by decide +kernel
theorem dX7_playerFact_34 : decode cX7_playerFact 34 = .ok (.iconst 0, 1) := by decide +kernel
theorem dX7_playerFact_35 : decode cX7_playerFact 35 = .ok (.istore_n 3, 1) := by decide +kernel
theorem dX7_playerFact_36 : decode cX7_playerFact 36 = .ok (.iconst 0, 1) := by decide +kernel
theorem dX7_playerFact_37 : decode cX7_playerFact 37 = .ok (.istore 4, 2) := by decide +kernel
theorem dX7_playerFact_39 : decode cX7_playerFact 39 = .ok (.iconst 0, 1) := by decide +kernel
theorem dX7_playerFact_40 : decode cX7_playerFact 40 = .ok (.istore 5, 2) := by decide +kernel
theorem dX7_playerFact_42 : decode cX7_playerFact 42 = .ok (.iload 5, 2) := by decide +kernel
theorem dX7_playerFact_44 : decode cX7_playerFact 44 = .ok (.aload_n 0, 1) := by decide +kernel
theorem dX7_playerFact_45 : decode cX7_playerFact 45 = .ok (.getfield 40, 3) := by decide +kernel
theorem dX7_playerFact_48 : decode cX7_playerFact 48 = .ok (.if_icmp .ge 41, 3) := by decide +kernel
theorem dX7_playerFact_51 : decode cX7_playerFact 51 = .ok (.aload_n 0, 1) := by decide +kernel
theorem dX7_playerFact_52 : decode cX7_playerFact 52 = .ok (.iload 5, 2) := by decide +kernel
theorem dX7_playerFact_54 : decode cX7_playerFact 54 = .ok (.iload_n 1, 1) := by decide +kernel
theorem dX7_playerFact_55 : decode cX7_playerFact 55 = .ok (.invokevirtual 110, 3) := by decide +kernel
theorem dX7_playerFact_58 : decode cX7_playerFact 58 = .ok (.ifCond .ne 6, 3) := by decide +kernel
theorem dX7_playerFact_61 : decode cX7_playerFact 61 = .ok (.goto 22, 3) := by decide +kernel
theorem dX7_playerFact_64 : decode cX7_playerFact 64 = .ok (.iload_n 3, 1) := by decide +kernel
theorem dX7_playerFact_65 : decode cX7_playerFact 65 = .ok (.iconst 1, 1) := by decide +kernel
theorem dX7_playerFact_66 : decode cX7_playerFact 66 = .ok (.iload 5, 2) := by decide +kernel
theorem dX7_playerFact_68 : decode cX7_playerFact 68 = .ok (.ishl, 1) := by decide +kernel
theorem dX7_playerFact_69 : decode cX7_playerFact 69 = .ok (.ior, 1) := by decide +kernel
theorem dX7_playerFact_70 : decode cX7_playerFact 70 = .ok (.istore_n 3, 1) := by decide +kernel
theorem dX7_playerFact_71 : decode cX7_playerFact 71 = .ok (.iload 4, 2) := by decide +kernel
theorem dX7_playerFact_73 : decode cX7_playerFact 73 = .ok (.aload_n 0, 1) := by decide +kernel
theorem dX7_playerFact_74 : decode cX7_playerFact 74 = .ok (.getfield 33, 3) := by decide +kernel
theorem dX7_playerFact_77 : decode cX7_playerFact 77 = .ok (.iload 5, 2) := by decide +kernel
theorem dX7_playerFact_79 : decode cX7_playerFact 79 = .ok (.iaload, 1) := by decide +kernel
theorem dX7_playerFact_80 : decode cX7_playerFact 80 = .ok (.iadd, 1) := by decide +kernel
theorem dX7_playerFact_81 : decode cX7_playerFact 81 = .ok (.istore 4, 2) := by decide +kernel
theorem dX7_playerFact_83 : decode cX7_playerFact 83 = .ok (.iinc 5 1, 3) := by decide +kernel
theorem dX7_playerFact_86 : decode cX7_playerFact 86 = .ok (.goto (-44), 3) := by decide +kernel
theorem dX7_playerFact_89 : decode cX7_playerFact 89 = .ok (.iload_n 2, 1) := by decide +kernel
theorem dX7_playerFact_90 : decode cX7_playerFact 90 = .ok (.iconst 2, 1) := by decide +kernel
theorem dX7_playerFact_91 : decode cX7_playerFact 91 = .ok (.if_icmp .ne 7, 3) := by decide +kernel
theorem dX7_playerFact_94 : decode cX7_playerFact 94 = .ok (.iload_n 3, 1) := by decide +kernel
theorem dX7_playerFact_95 : decode cX7_playerFact 95 = .ok (.goto 5, 3) := by decide +kernel
theorem dX7_playerFact_98 : decode cX7_playerFact 98 = .ok (.iload 4, 2) := by decide +kernel
theorem dX7_playerFact_100 : decode cX7_playerFact 100 = .ok (.ireturn, 1) := by decide +kernel
theorem dX7_ranked_0 : decode cX7_ranked 0 = .ok (.iconst 0, 1) := by decide +kernel
theorem dX7_ranked_1 : decode cX7_ranked 1 = .ok (.istore_n 2, 1) := by decide +kernel
theorem dX7_ranked_2 : decode cX7_ranked 2 = .ok (.iload_n 2, 1) := by decide +kernel
theorem dX7_ranked_3 : decode cX7_ranked 3 = .ok (.aload_n 0, 1) := by decide +kernel
theorem dX7_ranked_4 : decode cX7_ranked 4 = .ok (.getfield 40, 3) := by decide +kernel
theorem dX7_ranked_7 : decode cX7_ranked 7 = .ok (.if_icmp .ge 49, 3) := by decide +kernel
theorem dX7_ranked_10 : decode cX7_ranked 10 = .ok (.iconst 0, 1) := by decide +kernel
theorem dX7_ranked_11 : decode cX7_ranked 11 = .ok (.istore_n 3, 1) := by decide +kernel
theorem dX7_ranked_12 : decode cX7_ranked 12 = .ok (.iconst 0, 1) := by decide +kernel
theorem dX7_ranked_13 : decode cX7_ranked 13 = .ok (.istore 4, 2) := by decide +kernel
theorem dX7_ranked_15 : decode cX7_ranked 15 = .ok (.iload 4, 2) := by decide +kernel
theorem dX7_ranked_17 : decode cX7_ranked 17 = .ok (.aload_n 0, 1) := by decide +kernel
theorem dX7_ranked_18 : decode cX7_ranked 18 = .ok (.getfield 40, 3) := by decide +kernel
theorem dX7_ranked_21 : decode cX7_ranked 21 = .ok (.if_icmp .ge 22, 3) := by decide +kernel
theorem dX7_ranked_24 : decode cX7_ranked 24 = .ok (.aload_n 0, 1) := by decide +kernel
theorem dX7_ranked_25 : decode cX7_ranked 25 = .ok (.iload 4, 2) := by decide +kernel
theorem dX7_ranked_27 : decode cX7_ranked 27 = .ok (.iload_n 2, 1) := by decide +kernel
theorem dX7_ranked_28 : decode cX7_ranked 28 = .ok (.invokevirtual 113, 3) := by decide +kernel
theorem dX7_ranked_31 : decode cX7_ranked 31 = .ok (.ifCond .eq 6, 3) := by decide +kernel
theorem dX7_ranked_34 : decode cX7_ranked 34 = .ok (.iinc 3 1, 3) := by decide +kernel
theorem dX7_ranked_37 : decode cX7_ranked 37 = .ok (.iinc 4 1, 3) := by decide +kernel
theorem dX7_ranked_40 : decode cX7_ranked 40 = .ok (.goto (-25), 3) := by decide +kernel
theorem dX7_ranked_43 : decode cX7_ranked 43 = .ok (.iload_n 3, 1) := by decide +kernel
theorem dX7_ranked_44 : decode cX7_ranked 44 = .ok (.iload_n 1, 1) := by decide +kernel
theorem dX7_ranked_45 : decode cX7_ranked 45 = .ok (.if_icmp .ne 5, 3) := by decide +kernel
theorem dX7_ranked_48 : decode cX7_ranked 48 = .ok (.iload_n 2, 1) := by decide +kernel
theorem dX7_ranked_49 : decode cX7_ranked 49 = .ok (.ireturn, 1) := by decide +kernel
theorem dX7_ranked_50 : decode cX7_ranked 50 = .ok (.iinc 2 1, 3) := by decide +kernel
theorem dX7_ranked_53 : decode cX7_ranked 53 = .ok (.goto (-51), 3) := by decide +kernel
theorem dX7_ranked_56 : decode cX7_ranked 56 = .ok (.iconst (-1), 1) := by decide +kernel
theorem dX7_ranked_57 : decode cX7_ranked 57 = .ok (.ireturn, 1) := by decide +kernel
theorem dX7_ranksAhead_0 : decode cX7_ranksAhead 0 = .ok (.aload_n 0, 1) := by decide +kernel
theorem dX7_ranksAhead_1 : decode cX7_ranksAhead 1 = .ok (.iload_n 1, 1) := by decide +kernel
theorem dX7_ranksAhead_2 : decode cX7_ranksAhead 2 = .ok (.invokevirtual 56, 3) := by decide +kernel
theorem dX7_ranksAhead_5 : decode cX7_ranksAhead 5 = .ok (.ifCond .eq 11, 3) := by decide +kernel
theorem dX7_ranksAhead_8 : decode cX7_ranksAhead 8 = .ok (.aload_n 0, 1) := by decide +kernel
theorem dX7_ranksAhead_9 : decode cX7_ranksAhead 9 = .ok (.iload_n 2, 1) := by decide +kernel
theorem dX7_ranksAhead_10 : decode cX7_ranksAhead 10 = .ok (.invokevirtual 56, 3) := by decide +kernel
theorem dX7_ranksAhead_13 : decode cX7_ranksAhead 13 = .ok (.ifCond .ne 5, 3) := by decide +kernel
theorem dX7_ranksAhead_16 : decode cX7_ranksAhead 16 = .ok (.iconst 0, 1) := by decide +kernel
theorem dX7_ranksAhead_17 : decode cX7_ranksAhead 17 = .ok (.ireturn, 1) := by decide +kernel
theorem dX7_ranksAhead_18 : decode cX7_ranksAhead 18 = .ok (.aload_n 0, 1) := by decide +kernel
theorem dX7_ranksAhead_19 : decode cX7_ranksAhead 19 = .ok (.iload_n 1, 1) := by decide +kernel
theorem dX7_ranksAhead_20 : decode cX7_ranksAhead 20 = .ok (.invokevirtual 88, 3) := by decide +kernel
theorem dX7_ranksAhead_23 : decode cX7_ranksAhead 23 = .ok (.aload_n 0, 1) := by decide +kernel
theorem dX7_ranksAhead_24 : decode cX7_ranksAhead 24 = .ok (.iload_n 2, 1) := by decide +kernel
theorem dX7_ranksAhead_25 : decode cX7_ranksAhead 25 = .ok (.invokevirtual 88, 3) := by decide +kernel
theorem dX7_ranksAhead_28 : decode cX7_ranksAhead 28 = .ok (.if_icmp .eq 9, 3) := by decide +kernel
theorem dX7_ranksAhead_31 : decode cX7_ranksAhead 31 = .ok (.aload_n 0, 1) := by decide +kernel
theorem dX7_ranksAhead_32 : decode cX7_ranksAhead 32 = .ok (.iload_n 2, 1) := by decide +kernel
theorem dX7_ranksAhead_33 : decode cX7_ranksAhead 33 = .ok (.invokevirtual 88, 3) := by decide +kernel
theorem dX7_ranksAhead_36 : decode cX7_ranksAhead 36 = .ok (.ireturn, 1) := by decide +kernel
theorem dX7_ranksAhead_37 : decode cX7_ranksAhead 37 = .ok (.aload_n 0, 1) := by decide +kernel
theorem dX7_ranksAhead_38 : decode cX7_ranksAhead 38 = .ok (.getfield 33, 3) := by decide +kernel
theorem dX7_ranksAhead_41 : decode cX7_ranksAhead 41 = .ok (.iload_n 1, 1) := by decide +kernel
theorem dX7_ranksAhead_42 : decode cX7_ranksAhead 42 = .ok (.iaload, 1) := by decide +kernel
theorem dX7_ranksAhead_43 : decode cX7_ranksAhead 43 = .ok (.aload_n 0, 1) := by decide +kernel
theorem dX7_ranksAhead_44 : decode cX7_ranksAhead 44 = .ok (.getfield 33, 3) := by decide +kernel
theorem dX7_ranksAhead_47 : decode cX7_ranksAhead 47 = .ok (.iload_n 2, 1) := by decide +kernel
theorem dX7_ranksAhead_48 : decode cX7_ranksAhead 48 = .ok (.iaload, 1) := by decide +kernel
theorem dX7_ranksAhead_49 : decode cX7_ranksAhead 49 = .ok (.if_icmp .eq 26, 3) := by decide +kernel
theorem dX7_ranksAhead_52 : decode cX7_ranksAhead 52 = .ok (.aload_n 0, 1) := by decide +kernel
theorem dX7_ranksAhead_53 : decode cX7_ranksAhead 53 = .ok (.getfield 33, 3) := by decide +kernel
theorem dX7_ranksAhead_56 : decode cX7_ranksAhead 56 = .ok (.iload_n 1, 1) := by decide +kernel
theorem dX7_ranksAhead_57 : decode cX7_ranksAhead 57 = .ok (.iaload, 1) := by decide +kernel
theorem dX7_ranksAhead_58 : decode cX7_ranksAhead 58 = .ok (.aload_n 0, 1) := by decide +kernel
theorem dX7_ranksAhead_59 : decode cX7_ranksAhead 59 = .ok (.getfield 33, 3) := by decide +kernel
theorem dX7_ranksAhead_62 : decode cX7_ranksAhead 62 = .ok (.iload_n 2, 1) := by decide +kernel
theorem dX7_ranksAhead_63 : decode cX7_ranksAhead 63 = .ok (.iaload, 1) := by decide +kernel
theorem dX7_ranksAhead_64 : decode cX7_ranksAhead 64 = .ok (.if_icmp .le 7, 3) := by decide +kernel
theorem dX7_ranksAhead_67 : decode cX7_ranksAhead 67 = .ok (.iconst 1, 1) := by decide +kernel
theorem dX7_ranksAhead_68 : decode cX7_ranksAhead 68 = .ok (.goto 17, 3) := by decide +kernel
theorem dX7_ranksAhead_71 : decode cX7_ranksAhead 71 = .ok (.iconst 0, 1) := by decide +kernel
theorem dX7_ranksAhead_72 : decode cX7_ranksAhead 72 = .ok (.goto 13, 3) := by decide +kernel
theorem dX7_ranksAhead_75 : decode cX7_ranksAhead 75 = .ok (.iload_n 1, 1) := by decide +kernel
theorem dX7_ranksAhead_76 : decode cX7_ranksAhead 76 = .ok (.iload_n 2, 1) := by decide +kernel
theorem dX7_ranksAhead_77 : decode cX7_ranksAhead 77 = .ok (.if_icmp .ge 7, 3) := by decide +kernel
theorem dX7_ranksAhead_80 : decode cX7_ranksAhead 80 = .ok (.iconst 1, 1) := by decide +kernel
theorem dX7_ranksAhead_81 : decode cX7_ranksAhead 81 = .ok (.goto 4, 3) := by decide +kernel
theorem dX7_ranksAhead_84 : decode cX7_ranksAhead 84 = .ok (.iconst 0, 1) := by decide +kernel
theorem dX7_ranksAhead_85 : decode cX7_ranksAhead 85 = .ok (.ireturn, 1) := by decide +kernel
theorem dX7_foldInto_0 : decode cX7_foldInto 0 = .ok (.iconst 0, 1) := by decide +kernel
theorem dX7_foldInto_1 : decode cX7_foldInto 1 = .ok (.istore_n 3, 1) := by decide +kernel
theorem dX7_foldInto_2 : decode cX7_foldInto 2 = .ok (.iload_n 3, 1) := by decide +kernel
theorem dX7_foldInto_3 : decode cX7_foldInto 3 = .ok (.aload_n 0, 1) := by decide +kernel
theorem dX7_foldInto_4 : decode cX7_foldInto 4 = .ok (.getfield 36, 3) := by decide +kernel
theorem dX7_foldInto_7 : decode cX7_foldInto 7 = .ok (.if_icmp .ge 37, 3) := by decide +kernel
theorem dX7_foldInto_10 : decode cX7_foldInto 10 = .ok (.ldc2_w 116, 3) := by decide +kernel
theorem dX7_foldInto_13 : decode cX7_foldInto 13 = .ok (.lload_n 1, 1) := by decide +kernel
theorem dX7_foldInto_14 : decode cX7_foldInto 14 = .ok (.lmul, 1) := by decide +kernel
theorem dX7_foldInto_15 : decode cX7_foldInto 15 = .ok (.aload_n 0, 1) := by decide +kernel
theorem dX7_foldInto_16 : decode cX7_foldInto 16 = .ok (.iload_n 3, 1) := by decide +kernel
theorem dX7_foldInto_17 : decode cX7_foldInto 17 = .ok (.iconst 0, 1) := by decide +kernel
theorem dX7_foldInto_18 : decode cX7_foldInto 18 = .ok (.invokevirtual 118, 3) := by decide +kernel
theorem dX7_foldInto_21 : decode cX7_foldInto 21 = .ok (.i2l, 1) := by decide +kernel
theorem dX7_foldInto_22 : decode cX7_foldInto 22 = .ok (.ladd, 1) := by decide +kernel
theorem dX7_foldInto_23 : decode cX7_foldInto 23 = .ok (.lstore_n 1, 1) := by decide +kernel
theorem dX7_foldInto_24 : decode cX7_foldInto 24 = .ok (.ldc2_w 116, 3) := by decide +kernel
theorem dX7_foldInto_27 : decode cX7_foldInto 27 = .ok (.lload_n 1, 1) := by decide +kernel
theorem dX7_foldInto_28 : decode cX7_foldInto 28 = .ok (.lmul, 1) := by decide +kernel
theorem dX7_foldInto_29 : decode cX7_foldInto 29 = .ok (.aload_n 0, 1) := by decide +kernel
theorem dX7_foldInto_30 : decode cX7_foldInto 30 = .ok (.iload_n 3, 1) := by decide +kernel
theorem dX7_foldInto_31 : decode cX7_foldInto 31 = .ok (.iconst 1, 1) := by decide +kernel
theorem dX7_foldInto_32 : decode cX7_foldInto 32 = .ok (.invokevirtual 118, 3) := by decide +kernel
theorem dX7_foldInto_35 : decode cX7_foldInto 35 = .ok (.i2l, 1) := by decide +kernel
theorem dX7_foldInto_36 : decode cX7_foldInto 36 = .ok (.ladd, 1) := by decide +kernel
theorem dX7_foldInto_37 : decode cX7_foldInto 37 = .ok (.lstore_n 1, 1) := by decide +kernel
theorem dX7_foldInto_38 : decode cX7_foldInto 38 = .ok (.iinc 3 1, 3) := by decide +kernel
theorem dX7_foldInto_41 : decode cX7_foldInto 41 = .ok (.goto (-39), 3) := by decide +kernel
theorem dX7_foldInto_44 : decode cX7_foldInto 44 = .ok (.iconst 0, 1) := by decide +kernel
theorem dX7_foldInto_45 : decode cX7_foldInto 45 = .ok (.istore_n 3, 1) := by decide +kernel
theorem dX7_foldInto_46 : decode cX7_foldInto 46 = .ok (.iload_n 3, 1) := by decide +kernel
theorem dX7_foldInto_47 : decode cX7_foldInto 47 = .ok (.aload_n 0, 1) := by decide +kernel
theorem dX7_foldInto_48 : decode cX7_foldInto 48 = .ok (.getfield 40, 3) := by decide +kernel
theorem dX7_foldInto_51 : decode cX7_foldInto 51 = .ok (.if_icmp .ge 39, 3) := by decide +kernel
theorem dX7_foldInto_54 : decode cX7_foldInto 54 = .ok (.iconst 0, 1) := by decide +kernel
theorem dX7_foldInto_55 : decode cX7_foldInto 55 = .ok (.istore 4, 2) := by decide +kernel
theorem dX7_foldInto_57 : decode cX7_foldInto 57 = .ok (.iload 4, 2) := by decide +kernel
theorem dX7_foldInto_59 : decode cX7_foldInto 59 = .ok (.iconst 5, 1) := by decide +kernel
theorem dX7_foldInto_60 : decode cX7_foldInto 60 = .ok (.if_icmp .gt 24, 3) := by decide +kernel
theorem dX7_foldInto_63 : decode cX7_foldInto 63 = .ok (.ldc2_w 116, 3) := by decide +kernel
theorem dX7_foldInto_66 : decode cX7_foldInto 66 = .ok (.lload_n 1, 1) := by decide +kernel
theorem dX7_foldInto_67 : decode cX7_foldInto 67 = .ok (.lmul, 1) := by decide +kernel
theorem dX7_foldInto_68 : decode cX7_foldInto 68 = .ok (.aload_n 0, 1) := by decide +kernel
theorem dX7_foldInto_69 : decode cX7_foldInto 69 = .ok (.iload_n 3, 1) := by decide +kernel
theorem dX7_foldInto_70 : decode cX7_foldInto 70 = .ok (.iload 4, 2) := by decide +kernel
theorem dX7_foldInto_72 : decode cX7_foldInto 72 = .ok (.invokevirtual 104, 3) := by decide +kernel
theorem dX7_foldInto_75 : decode cX7_foldInto 75 = .ok (.i2l, 1) := by decide +kernel
theorem dX7_foldInto_76 : decode cX7_foldInto 76 = .ok (.ladd, 1) := by decide +kernel
theorem dX7_foldInto_77 : decode cX7_foldInto 77 = .ok (.lstore_n 1, 1) := by decide +kernel
theorem dX7_foldInto_78 : decode cX7_foldInto 78 = .ok (.iinc 4 1, 3) := by decide +kernel
theorem dX7_foldInto_81 : decode cX7_foldInto 81 = .ok (.goto (-24), 3) := by decide +kernel
theorem dX7_foldInto_84 : decode cX7_foldInto 84 = .ok (.iinc 3 1, 3) := by decide +kernel
theorem dX7_foldInto_87 : decode cX7_foldInto 87 = .ok (.goto (-41), 3) := by decide +kernel
theorem dX7_foldInto_90 : decode cX7_foldInto 90 = .ok (.lload_n 1, 1) := by decide +kernel
theorem dX7_foldInto_91 : decode cX7_foldInto 91 = .ok (.lreturn, 1) := by decide +kernel
theorem dX8_init_0 : decode cX8_init 0 = .ok (.aload_n 0, 1) := by decide +kernel
theorem dX8_init_1 : decode cX8_init 1 = .ok (.invokespecial 1, 3) := by decide +kernel
theorem dX8_init_4 : decode cX8_init 4 = .ok (.aload_n 0, 1) := by decide +kernel
theorem dX8_init_5 : decode cX8_init 5 = .ok (.new 7, 3) := by decide +kernel
theorem dX8_init_8 : decode cX8_init 8 = .ok (.dup, 1) := by decide +kernel
theorem dX8_init_9 : decode cX8_init 9 = .ok (.invokespecial 9, 3) := by decide +kernel
theorem dX8_init_12 : decode cX8_init 12 = .ok (.putfield 10, 3) := by decide +kernel
theorem dX8_init_15 : decode cX8_init 15 = .ok (.aload_n 0, 1) := by decide +kernel
theorem dX8_init_16 : decode cX8_init 16 = .ok (.iconst 2, 1) := by decide +kernel
theorem dX8_init_17 : decode cX8_init 17 = .ok (.anewarray 7, 3) := by decide +kernel
theorem dX8_init_20 : decode cX8_init 20 = .ok (.putfield 16, 3) := by decide +kernel
theorem dX8_init_23 : decode cX8_init 23 = .ok (.aload_n 0, 1) := by decide +kernel
theorem dX8_init_24 : decode cX8_init 24 = .ok (.new 20, 3) := by decide +kernel
theorem dX8_init_27 : decode cX8_init 27 = .ok (.dup, 1) := by decide +kernel
theorem dX8_init_28 : decode cX8_init 28 = .ok (.invokespecial 22, 3) := by decide +kernel
theorem dX8_init_31 : decode cX8_init 31 = .ok (.putfield 23, 3) := by decide +kernel
theorem dX8_init_34 : decode cX8_init 34 = .ok (.aload_n 0, 1) := by decide +kernel
theorem dX8_init_35 : decode cX8_init 35 = .ok (.new 27, 3) := by decide +kernel
theorem dX8_init_38 : decode cX8_init 38 = .ok (.dup, 1) := by decide +kernel
theorem dX8_init_39 : decode cX8_init 39 = .ok (.invokespecial 29, 3) := by decide +kernel
theorem dX8_init_42 : decode cX8_init 42 = .ok (.putfield 30, 3) := by decide +kernel
theorem dX8_init_45 : decode cX8_init 45 = .ok (.aload_n 0, 1) := by decide +kernel
theorem dX8_init_46 : decode cX8_init 46 = .ok (.new 34, 3) := by decide +kernel
theorem dX8_init_49 : decode cX8_init 49 = .ok (.dup, 1) := by decide +kernel
theorem dX8_init_50 : decode cX8_init 50 = .ok (.invokespecial 36, 3) := by decide +kernel
theorem dX8_init_53 : decode cX8_init 53 = .ok (.putfield 37, 3) := by decide +kernel
theorem dX8_init_56 : decode cX8_init 56 = .ok (.aload_n 0, 1) := by decide +kernel
theorem dX8_init_57 : decode cX8_init 57 = .ok (.lconst 0, 1) := by decide +kernel
theorem dX8_init_58 : decode cX8_init 58 = .ok (.putfield 41, 3) := by decide +kernel
theorem dX8_init_61 : decode cX8_init 61 = .ok (.aload_n 0, 1) := by decide +kernel
theorem dX8_init_62 : decode cX8_init 62 = .ok (.lconst 1, 1) := by decide +kernel
theorem dX8_init_63 : decode cX8_init 63 = .ok (.putfield 45, 3) := by decide +kernel
theorem dX8_init_66 : decode cX8_init 66 = .ok (.return_, 1) := by decide +kernel
theorem dX8_yard_0 : decode cX8_yard 0 = .ok (.iload_n 1, 1) := by decide +kernel
theorem dX8_yard_1 : decode cX8_yard 1 = .ok (.iconst 0, 1) := by decide +kernel
theorem dX8_yard_2 : decode cX8_yard 2 = .ok (.bipush 99, 2) := by decide +kernel
theorem dX8_yard_4 : decode cX8_yard 4 = .ok (.invokestatic 48, 3) := by decide +kernel
theorem dX8_yard_7 : decode cX8_yard 7 = .ok (.ifCond .ne 8, 3) := by decide +kernel
theorem dX8_yard_10 : decode cX8_yard 10 = .ok (.aload_n 0, 1) := by decide +kernel
theorem dX8_yard_11 : decode cX8_yard 11 = .ok (.invokevirtual 52, 3) := by decide +kernel
theorem dX8_yard_14 : decode cX8_yard 14 = .ok (.ireturn, 1) := by decide +kernel
theorem dX8_yard_15 : decode cX8_yard 15 = .ok (.aload_n 0, 1) := by decide +kernel
theorem dX8_yard_16 : decode cX8_yard 16 = .ok (.getfield 10, 3) := by decide +kernel
theorem dX8_yard_19 : decode cX8_yard 19 = .ok (.getfield 56, 3) := by decide +kernel
theorem dX8_yard_22 : decode cX8_yard 22 = .ok (.getfield 60, 3) := by decide +kernel
theorem dX8_yard_25 : decode cX8_yard 25 = .ok (.istore_n 2, 1) := by decide +kernel
theorem dX8_yard_26 : decode cX8_yard 26 = .ok (.aload_n 0, 1) := by decide +kernel
theorem dX8_yard_27 : decode cX8_yard 27 = .ok (.getfield 10, 3) := by decide +kernel
theorem dX8_yard_30 : decode cX8_yard 30 = .ok (.iload_n 1, 1) := by decide +kernel
theorem dX8_yard_31 : decode cX8_yard 31 = .ok (.invokevirtual 66, 3) := by decide +kernel
theorem dX8_yard_34 : decode cX8_yard 34 = .ok (.iload_n 2, 1) := by decide +kernel
theorem dX8_yard_35 : decode cX8_yard 35 = .ok (.ireturn, 1) := by decide +kernel
theorem dX8_player_0 : decode cX8_player 0 = .ok (.iload_n 1, 1) := by decide +kernel
theorem dX8_player_1 : decode cX8_player 1 = .ok (.invokestatic 70, 3) := by decide +kernel
theorem dX8_player_4 : decode cX8_player 4 = .ok (.ifCond .eq 13, 3) := by decide +kernel
theorem dX8_player_7 : decode cX8_player 7 = .ok (.iload_n 2, 1) := by decide +kernel
theorem dX8_player_8 : decode cX8_player 8 = .ok (.iconst 1, 1) := by decide +kernel
theorem dX8_player_9 : decode cX8_player 9 = .ok (.bipush 9, 2) := by decide +kernel
theorem dX8_player_11 : decode cX8_player 11 = .ok (.invokestatic 48, 3) := by decide +kernel
theorem dX8_player_14 : decode cX8_player 14 = .ok (.ifCond .ne 8, 3) := by decide +kernel
theorem dX8_player_17 : decode cX8_player 17 = .ok (.aload_n 0, 1) := by decide +kernel
theorem dX8_player_18 : decode cX8_player 18 = .ok (.invokevirtual 52, 3) := by decide +kernel
theorem dX8_player_21 : decode cX8_player 21 = .ok (.ireturn, 1) := by decide +kernel
theorem dX8_player_22 : decode cX8_player 22 = .ok (.aload_n 0, 1) := by decide +kernel
theorem dX8_player_23 : decode cX8_player 23 = .ok (.getfield 10, 3) := by decide +kernel
theorem dX8_player_26 : decode cX8_player 26 = .ok (.getfield 56, 3) := by decide +kernel
theorem dX8_player_29 : decode cX8_player 29 = .ok (.getfield 74, 3) := by decide +kernel
theorem dX8_player_32 : decode cX8_player 32 = .ok (.iconst 3, 1) := by decide +kernel
theorem dX8_player_33 : decode cX8_player 33 = .ok (.if_icmp .lt 8, 3) := by decide +kernel
theorem dX8_player_36 : decode cX8_player 36 = .ok (.aload_n 0, 1) := by decide +kernel
theorem dX8_player_37 : decode cX8_player 37 = .ok (.invokevirtual 77, 3) := by decide +kernel
theorem dX8_player_40 : decode cX8_player 40 = .ok (.ireturn, 1) := by decide +kernel
theorem dX8_player_41 : decode cX8_player 41 = .ok (.aload_n 0, 1) := by decide +kernel
theorem dX8_player_42 : decode cX8_player 42 = .ok (.getfield 10, 3) := by decide +kernel
theorem dX8_player_45 : decode cX8_player 45 = .ok (.getfield 80, 3) := by decide +kernel
theorem dX8_player_48 : decode cX8_player 48 = .ok (.invokevirtual 84, 3) := by decide +kernel
theorem dX8_player_51 : decode cX8_player 51 = .ok (.aload_n 0, 1) := by decide +kernel
theorem dX8_player_52 : decode cX8_player 52 = .ok (.getfield 10, 3) := by decide +kernel
theorem dX8_player_55 : decode cX8_player 55 = .ok (.getfield 56, 3) := by decide +kernel
theorem dX8_player_58 : decode cX8_player 58 = .ok (.iload_n 1, 1) := by decide +kernel
theorem dX8_player_59 : decode cX8_player 59 = .ok (.iload_n 2, 1) := by decide +kernel
theorem dX8_player_60 : decode cX8_player 60 = .ok (.invokevirtual 89, 3) := by decide +kernel
theorem dX8_player_63 : decode cX8_player 63 = .ok (.ireturn, 1) := by decide +kernel
theorem dX8_nut_0 : decode cX8_nut 0 = .ok (.aload_n 0, 1) := by decide +kernel
theorem dX8_nut_1 : decode cX8_nut 1 = .ok (.getfield 10, 3) := by decide +kernel
theorem dX8_nut_4 : decode cX8_nut 4 = .ok (.getfield 56, 3) := by decide +kernel
theorem dX8_nut_7 : decode cX8_nut 7 = .ok (.iload_n 1, 1) := by decide +kernel
theorem dX8_nut_8 : decode cX8_nut 8 = .ok (.invokevirtual 93, 3) := by decide +kernel
theorem dX8_nut_11 : decode cX8_nut 11 = .ok (.ifCond .eq 31, 3) := by decide +kernel
theorem dX8_nut_14 : decode cX8_nut 14 = .ok (.iload_n 2, 1) := by decide +kernel
theorem dX8_nut_15 : decode cX8_nut 15 = .ok (.invokestatic 70, 3) := by decide +kernel
theorem dX8_nut_18 : decode cX8_nut 18 = .ok (.ifCond .eq 24, 3) := by decide +kernel
theorem dX8_nut_21 : decode cX8_nut 21 = .ok (.iload_n 3, 1) := by decide +kernel
theorem dX8_nut_22 : decode cX8_nut 22 = .ok (.iconst 0, 1) := by decide +kernel
theorem dX8_nut_23 : decode cX8_nut 23 = .ok (.bipush 9, 2) := by decide +kernel
theorem dX8_nut_25 : decode cX8_nut 25 = .ok (.invokestatic 48, 3) := by decide +kernel
theorem dX8_nut_28 : decode cX8_nut 28 = .ok (.ifCond .eq 14, 3) := by decide +kernel
theorem dX8_nut_31 : decode cX8_nut 31 = .ok (.iload 4, 2) := by decide +kernel
theorem dX8_nut_33 : decode cX8_nut 33 = .ok (.iconst 1, 1) := by decide +kernel
theorem dX8_nut_34 : decode cX8_nut 34 = .ok (.bipush 9, 2) := by decide +kernel
theorem dX8_nut_36 : decode cX8_nut 36 = .ok (.invokestatic 48, 3) := by decide +kernel
theorem dX8_nut_39 : decode cX8_nut 39 = .ok (.ifCond .ne 8, 3) := by decide +kernel
theorem dX8_nut_42 : decode cX8_nut 42 = .ok (.aload_n 0, 1) := by decide +kernel
theorem dX8_nut_43 : decode cX8_nut 43 = .ok (.invokevirtual 52, 3) := by decide +kernel
theorem dX8_nut_46 : decode cX8_nut 46 = .ok (.ireturn, 1) := by decide +kernel
theorem dX8_nut_47 : decode cX8_nut 47 = .ok (.aload_n 0, 1) := by decide +kernel
theorem dX8_nut_48 : decode cX8_nut 48 = .ok (.getfield 10, 3) := by decide +kernel
theorem dX8_nut_51 : decode cX8_nut 51 = .ok (.getfield 56, 3) := by decide +kernel
theorem dX8_nut_54 : decode cX8_nut 54 = .ok (.getfield 60, 3) := by decide +kernel
theorem dX8_nut_57 : decode cX8_nut 57 = .ok (.bipush 6, 2) := by decide +kernel
theorem dX8_nut_59 : decode cX8_nut 59 = .ok (.if_icmp .lt 8, 3) := by decide +kernel
theorem dX8_nut_62 : decode cX8_nut 62 = .ok (.aload_n 0, 1) := by decide +kernel
theorem dX8_nut_63 : decode cX8_nut 63 = .ok (.invokevirtual 77, 3) := by decide +kernel
theorem dX8_nut_66 : decode cX8_nut 66 = .ok (.ireturn, 1) := by decide +kernel
theorem dX8_nut_67 : decode cX8_nut 67 = .ok (.aload_n 0, 1) := by decide +kernel
theorem dX8_nut_68 : decode cX8_nut 68 = .ok (.getfield 10, 3) := by decide +kernel
theorem dX8_nut_71 : decode cX8_nut 71 = .ok (.getfield 80, 3) := by decide +kernel
theorem dX8_nut_74 : decode cX8_nut 74 = .ok (.invokevirtual 84, 3) := by decide +kernel
theorem dX8_nut_77 : decode cX8_nut 77 = .ok (.aload_n 0, 1) := by decide +kernel
theorem dX8_nut_78 : decode cX8_nut 78 = .ok (.getfield 10, 3) := by decide +kernel
theorem dX8_nut_81 : decode cX8_nut 81 = .ok (.getfield 56, 3) := by decide +kernel
theorem dX8_nut_84 : decode cX8_nut 84 = .ok (.iload_n 1, 1) := by decide +kernel
theorem dX8_nut_85 : decode cX8_nut 85 = .ok (.iload_n 2, 1) := by decide +kernel
theorem dX8_nut_86 : decode cX8_nut 86 = .ok (.iload_n 3, 1) := by decide +kernel
theorem dX8_nut_87 : decode cX8_nut 87 = .ok (.iload 4, 2) := by decide +kernel
theorem dX8_nut_89 : decode cX8_nut 89 = .ok (.invokevirtual 96, 3) := by decide +kernel
theorem dX8_nut_92 : decode cX8_nut 92 = .ok (.ireturn, 1) := by decide +kernel
theorem dX8_type_0 : decode cX8_type 0 = .ok (.iload_n 1, 1) := by decide +kernel
theorem dX8_type_1 : decode cX8_type 1 = .ok (.iconst 0, 1) := by decide +kernel
theorem dX8_type_2 : decode cX8_type 2 = .ok (.bipush 127, 2) := by decide +kernel
theorem dX8_type_4 : decode cX8_type 4 = .ok (.invokestatic 48, 3) := by decide +kernel
theorem dX8_type_7 : decode cX8_type 7 = .ok (.ifCond .ne 8, 3) := by decide +kernel
theorem dX8_type_10 : decode cX8_type 10 = .ok (.aload_n 0, 1) := by decide +kernel
theorem dX8_type_11 : decode cX8_type 11 = .ok (.invokevirtual 52, 3) := by decide +kernel
theorem dX8_type_14 : decode cX8_type 14 = .ok (.ireturn, 1) := by decide +kernel
theorem dX8_type_15 : decode cX8_type 15 = .ok (.aload_n 0, 1) := by decide +kernel
theorem dX8_type_16 : decode cX8_type 16 = .ok (.getfield 23, 3) := by decide +kernel
theorem dX8_type_19 : decode cX8_type 19 = .ok (.invokevirtual 100, 3) := by decide +kernel
theorem dX8_type_22 : decode cX8_type 22 = .ok (.ifCond .eq 8, 3) := by decide +kernel
theorem dX8_type_25 : decode cX8_type 25 = .ok (.aload_n 0, 1) := by decide +kernel
theorem dX8_type_26 : decode cX8_type 26 = .ok (.invokevirtual 77, 3) := by decide +kernel
theorem dX8_type_29 : decode cX8_type 29 = .ok (.ireturn, 1) := by decide +kernel
theorem dX8_type_30 : decode cX8_type 30 = .ok (.aload_n 0, 1) := by decide +kernel
theorem dX8_type_31 : decode cX8_type 31 = .ok (.getfield 23, 3) := by decide +kernel
theorem dX8_type_34 : decode cX8_type 34 = .ok (.iload_n 1, 1) := by decide +kernel
theorem dX8_type_35 : decode cX8_type 35 = .ok (.invokevirtual 104, 3) := by decide +kernel
theorem dX8_type_38 : decode cX8_type 38 = .ok (.aload_n 0, 1) := by decide +kernel
theorem dX8_type_39 : decode cX8_type 39 = .ok (.getfield 23, 3) := by decide +kernel
theorem dX8_type_42 : decode cX8_type 42 = .ok (.getfield 107, 3) := by decide +kernel
theorem dX8_type_45 : decode cX8_type 45 = .ok (.ireturn, 1) := by decide +kernel
theorem dX8_clear_0 : decode cX8_clear 0 = .ok (.aload_n 0, 1) := by decide +kernel
theorem dX8_clear_1 : decode cX8_clear 1 = .ok (.getfield 23, 3) := by decide +kernel
theorem dX8_clear_4 : decode cX8_clear 4 = .ok (.getfield 107, 3) := by decide +kernel
theorem dX8_clear_7 : decode cX8_clear 7 = .ok (.istore_n 1, 1) := by decide +kernel
theorem dX8_clear_8 : decode cX8_clear 8 = .ok (.aload_n 0, 1) := by decide +kernel
theorem dX8_clear_9 : decode cX8_clear 9 = .ok (.getfield 23, 3) := by decide +kernel
theorem dX8_clear_12 : decode cX8_clear 12 = .ok (.iconst 0, 1) := by decide +kernel
theorem dX8_clear_13 : decode cX8_clear 13 = .ok (.putfield 107, 3) := by decide +kernel
theorem dX8_clear_16 : decode cX8_clear 16 = .ok (.iload_n 1, 1) := by decide +kernel
theorem dX8_clear_17 : decode cX8_clear 17 = .ok (.ireturn, 1) := by decide +kernel
theorem dX8_read_0 : decode cX8_read 0 = .ok (.aload_n 0, 1) := by decide +kernel
theorem dX8_read_1 : decode cX8_read 1 = .ok (.getfield 30, 3) := by decide +kernel
theorem dX8_read_4 : decode cX8_read 4 = .ok (.getfield 110, 3) := by decide +kernel
theorem dX8_read_7 : decode cX8_read 7 = .ok (.astore_n 1, 1) := by decide +kernel
theorem dX8_read_8 : decode cX8_read 8 = .ok (.aload_n 0, 1) := by decide +kernel
theorem dX8_read_9 : decode cX8_read 9 = .ok (.getfield 23, 3) := by decide +kernel
theorem dX8_read_12 : decode cX8_read 12 = .ok (.aload_n 1, 1) := by decide +kernel
theorem dX8_read_13 : decode cX8_read 13 = .ok (.invokevirtual 113, 3) := by decide +kernel
theorem dX8_read_16 : decode cX8_read 16 = .ok (.istore_n 2, 1) := by decide +kernel
theorem dX8_read_17 : decode cX8_read 17 = .ok (.iload_n 2, 1) := by decide +kernel
theorem dX8_read_18 : decode cX8_read 18 = .ok (.iconst (-1), 1) := by decide +kernel
theorem dX8_read_19 : decode cX8_read 19 = .ok (.if_icmp .ne 14, 3) := by decide +kernel
theorem dX8_read_22 : decode cX8_read 22 = .ok (.bipush (-10), 2) := by decide +kernel
theorem dX8_read_24 : decode cX8_read 24 = .ok (.aload_n 0, 1) := by decide +kernel
theorem dX8_read_25 : decode cX8_read 25 = .ok (.getfield 23, 3) := by decide +kernel
theorem dX8_read_28 : decode cX8_read 28 = .ok (.getfield 117, 3) := by decide +kernel
theorem dX8_read_31 : decode cX8_read 31 = .ok (.isub, 1) := by decide +kernel
theorem dX8_read_32 : decode cX8_read 32 = .ok (.ireturn, 1) := by decide +kernel
theorem dX8_read_33 : decode cX8_read 33 = .ok (.aload_n 0, 1) := by decide +kernel
theorem dX8_read_34 : decode cX8_read 34 = .ok (.getfield 10, 3) := by decide +kernel
theorem dX8_read_37 : decode cX8_read 37 = .ok (.iconst 0, 1) := by decide +kernel
theorem dX8_read_38 : decode cX8_read 38 = .ok (.invokevirtual 66, 3) := by decide +kernel
theorem dX8_read_41 : decode cX8_read 41 = .ok (.aload_n 0, 1) := by decide +kernel
theorem dX8_read_42 : decode cX8_read 42 = .ok (.getfield 10, 3) := by decide +kernel
theorem dX8_read_45 : decode cX8_read 45 = .ok (.getfield 56, 3) := by decide +kernel
theorem dX8_read_48 : decode cX8_read 48 = .ok (.aload_n 1, 1) := by decide +kernel
theorem dX8_read_49 : decode cX8_read 49 = .ok (.invokevirtual 120, 3) := by decide +kernel
theorem dX8_read_52 : decode cX8_read 52 = .ok (.iload_n 2, 1) := by decide +kernel
theorem dX8_read_53 : decode cX8_read 53 = .ok (.ireturn, 1) := by decide +kernel
theorem dX8_strikes_0 : decode cX8_strikes 0 = .ok (.aload_n 0, 1) := by decide +kernel
theorem dX8_strikes_1 : decode cX8_strikes 1 = .ok (.iload_n 1, 1) := by decide +kernel
theorem dX8_strikes_2 : decode cX8_strikes 2 = .ok (.iload_n 2, 1) := by decide +kernel
theorem dX8_strikes_3 : decode cX8_strikes 3 = .ok (.invokevirtual 124, 3) := by decide +kernel
theorem dX8_strikes_6 : decode cX8_strikes 6 = .ok (.ifCond .ne 8, 3) := by decide +kernel
theorem dX8_strikes_9 : decode cX8_strikes 9 = .ok (.aload_n 0, 1) := by decide +kernel
theorem dX8_strikes_10 : decode cX8_strikes 10 = .ok (.invokevirtual 52, 3) := by decide +kernel
theorem dX8_strikes_13 : decode cX8_strikes 13 = .ok (.ireturn, 1) := by decide +kernel
theorem dX8_strikes_14 : decode cX8_strikes 14 = .ok (.aload_n 0, 1) := by decide +kernel
theorem dX8_strikes_15 : decode cX8_strikes 15 = .ok (.getfield 10, 3) := by decide +kernel
theorem dX8_strikes_18 : decode cX8_strikes 18 = .ok (.getfield 56, 3) := by decide +kernel
theorem dX8_strikes_21 : decode cX8_strikes 21 = .ok (.iload_n 1, 1) := by decide +kernel
theorem dX8_strikes_22 : decode cX8_strikes 22 = .ok (.iload_n 2, 1) := by decide +kernel
theorem dX8_strikes_23 : decode cX8_strikes 23 = .ok (.invokevirtual 128, 3) := by decide +kernel
theorem dX8_strikes_26 : decode cX8_strikes 26 = .ok (.ifCond .ne 8, 3) := by decide +kernel
theorem dX8_strikes_29 : decode cX8_strikes 29 = .ok (.aload_n 0, 1) := by decide +kernel
theorem dX8_strikes_30 : decode cX8_strikes 30 = .ok (.invokevirtual 131, 3) := by decide +kernel
theorem dX8_strikes_33 : decode cX8_strikes 33 = .ok (.ireturn, 1) := by decide +kernel
theorem dX8_strikes_34 : decode cX8_strikes 34 = .ok (.aload_n 0, 1) := by decide +kernel
theorem dX8_strikes_35 : decode cX8_strikes 35 = .ok (.getfield 10, 3) := by decide +kernel
theorem dX8_strikes_38 : decode cX8_strikes 38 = .ok (.getfield 80, 3) := by decide +kernel
theorem dX8_strikes_41 : decode cX8_strikes 41 = .ok (.aload_n 0, 1) := by decide +kernel
theorem dX8_strikes_42 : decode cX8_strikes 42 = .ok (.getfield 10, 3) := by decide +kernel
theorem dX8_strikes_45 : decode cX8_strikes 45 = .ok (.getfield 56, 3) := by decide +kernel
theorem dX8_strikes_48 : decode cX8_strikes 48 = .ok (.invokevirtual 134, 3) := by decide +kernel
theorem dX8_strikes_51 : decode cX8_strikes 51 = .ok (.aload_n 0, 1) := by decide +kernel
theorem dX8_strikes_52 : decode cX8_strikes 52 = .ok (.getfield 10, 3) := by decide +kernel
theorem dX8_strikes_55 : decode cX8_strikes 55 = .ok (.getfield 56, 3) := by decide +kernel
theorem dX8_strikes_58 : decode cX8_strikes 58 = .ok (.iload_n 1, 1) := by decide +kernel
theorem dX8_strikes_59 : decode cX8_strikes 59 = .ok (.iload_n 2, 1) := by decide +kernel
theorem dX8_strikes_60 : decode cX8_strikes 60 = .ok (.invokevirtual 137, 3) := by decide +kernel
theorem dX8_strikes_63 : decode cX8_strikes 63 = .ok (.pop, 1) := by decide +kernel
theorem dX8_strikes_64 : decode cX8_strikes 64 = .ok (.aload_n 0, 1) := by decide +kernel
theorem dX8_strikes_65 : decode cX8_strikes 65 = .ok (.getfield 10, 3) := by decide +kernel
theorem dX8_strikes_68 : decode cX8_strikes 68 = .ok (.getfield 56, 3) := by decide +kernel
theorem dX8_strikes_71 : decode cX8_strikes 71 = .ok (.iload_n 2, 1) := by decide +kernel
theorem dX8_strikes_72 : decode cX8_strikes 72 = .ok (.iconst 4, 1) := by decide +kernel
theorem dX8_strikes_73 : decode cX8_strikes 73 = .ok (.invokevirtual 140, 3) := by decide +kernel
theorem dX8_strikes_76 : decode cX8_strikes 76 = .ok (.ireturn, 1) := by decide +kernel
theorem dX8_waits_0 : decode cX8_waits 0 = .ok (.iload_n 1, 1) := by decide +kernel
theorem dX8_waits_1 : decode cX8_waits 1 = .ok (.iconst 1, 1) := by decide +kernel
theorem dX8_waits_2 : decode cX8_waits 2 = .ok (.bipush 60, 2) := by decide +kernel
theorem dX8_waits_4 : decode cX8_waits 4 = .ok (.invokestatic 48, 3) := by decide +kernel
theorem dX8_waits_7 : decode cX8_waits 7 = .ok (.ifCond .ne 8, 3) := by decide +kernel
theorem dX8_waits_10 : decode cX8_waits 10 = .ok (.aload_n 0, 1) := by decide +kernel
theorem dX8_waits_11 : decode cX8_waits 11 = .ok (.invokevirtual 52, 3) := by decide +kernel
theorem dX8_waits_14 : decode cX8_waits 14 = .ok (.ireturn, 1) := by decide +kernel
theorem dX8_waits_15 : decode cX8_waits 15 = .ok (.aload_n 0, 1) := by decide +kernel
theorem dX8_waits_16 : decode cX8_waits 16 = .ok (.getfield 10, 3) := by decide +kernel
theorem dX8_waits_19 : decode cX8_waits 19 = .ok (.getfield 80, 3) := by decide +kernel
theorem dX8_waits_22 : decode cX8_waits 22 = .ok (.aload_n 0, 1) := by decide +kernel
theorem dX8_waits_23 : decode cX8_waits 23 = .ok (.getfield 10, 3) := by decide +kernel
theorem dX8_waits_26 : decode cX8_waits 26 = .ok (.getfield 56, 3) := by decide +kernel
theorem dX8_waits_29 : decode cX8_waits 29 = .ok (.invokevirtual 134, 3) := by decide +kernel
theorem dX8_waits_32 : decode cX8_waits 32 = .ok (.aload_n 0, 1) := by decide +kernel
theorem dX8_waits_33 : decode cX8_waits 33 = .ok (.getfield 10, 3) := by decide +kernel
theorem dX8_waits_36 : decode cX8_waits 36 = .ok (.getfield 56, 3) := by decide +kernel
theorem dX8_waits_39 : decode cX8_waits 39 = .ok (.iload_n 1, 1) := by decide +kernel
theorem dX8_waits_40 : decode cX8_waits 40 = .ok (.invokevirtual 143, 3) := by decide +kernel
theorem dX8_waits_43 : decode cX8_waits 43 = .ok (.aload_n 0, 1) := by decide +kernel
theorem dX8_waits_44 : decode cX8_waits 44 = .ok (.getfield 10, 3) := by decide +kernel
theorem dX8_waits_47 : decode cX8_waits 47 = .ok (.getfield 56, 3) := by decide +kernel
theorem dX8_waits_50 : decode cX8_waits 50 = .ok (.getfield 146, 3) := by decide +kernel
theorem dX8_waits_53 : decode cX8_waits 53 = .ok (.ireturn, 1) := by decide +kernel
theorem dX8_hands_0 : decode cX8_hands 0 = .ok (.aload_n 0, 1) := by decide +kernel
theorem dX8_hands_1 : decode cX8_hands 1 = .ok (.getfield 10, 3) := by decide +kernel
theorem dX8_hands_4 : decode cX8_hands 4 = .ok (.getfield 56, 3) := by decide +kernel
theorem dX8_hands_7 : decode cX8_hands 7 = .ok (.iload_n 1, 1) := by decide +kernel
theorem dX8_hands_8 : decode cX8_hands 8 = .ok (.invokevirtual 149, 3) := by decide +kernel
theorem dX8_hands_11 : decode cX8_hands 11 = .ok (.ifCond .eq 17, 3) := by decide +kernel
theorem dX8_hands_14 : decode cX8_hands 14 = .ok (.aload_n 0, 1) := by decide +kernel
theorem dX8_hands_15 : decode cX8_hands 15 = .ok (.getfield 10, 3) := by decide +kernel
theorem dX8_hands_18 : decode cX8_hands 18 = .ok (.getfield 56, 3) := by decide +kernel
theorem dX8_hands_21 : decode cX8_hands 21 = .ok (.iload_n 2, 1) := by decide +kernel
theorem dX8_hands_22 : decode cX8_hands 22 = .ok (.invokevirtual 93, 3) := by decide +kernel
theorem dX8_hands_25 : decode cX8_hands 25 = .ok (.ifCond .ne 8, 3) := by decide +kernel
theorem dX8_hands_28 : decode cX8_hands 28 = .ok (.aload_n 0, 1) := by decide +kernel
theorem dX8_hands_29 : decode cX8_hands 29 = .ok (.invokevirtual 52, 3) := by decide +kernel
theorem dX8_hands_32 : decode cX8_hands 32 = .ok (.ireturn, 1) := by decide +kernel
theorem dX8_hands_33 : decode cX8_hands 33 = .ok (.aload_n 0, 1) := by decide +kernel
theorem dX8_hands_34 : decode cX8_hands 34 = .ok (.getfield 10, 3) := by decide +kernel
theorem dX8_hands_37 : decode cX8_hands 37 = .ok (.getfield 56, 3) := by decide +kernel
theorem dX8_hands_40 : decode cX8_hands 40 = .ok (.iload_n 1, 1) := by decide +kernel
theorem dX8_hands_41 : decode cX8_hands 41 = .ok (.iconst 0, 1) := by decide +kernel
theorem dX8_hands_42 : decode cX8_hands 42 = .ok (.invokevirtual 140, 3) := by decide +kernel
theorem dX8_hands_45 : decode cX8_hands 45 = .ok (.istore_n 3, 1) := by decide +kernel
theorem dX8_hands_46 : decode cX8_hands 46 = .ok (.iload_n 3, 1) := by decide +kernel
theorem dX8_hands_47 : decode cX8_hands 47 = .ok (.iload_n 2, 1) := by decide +kernel
theorem dX8_hands_48 : decode cX8_hands 48 = .ok (.if_icmp .eq 17, 3) := by decide +kernel
theorem dX8_hands_51 : decode cX8_hands 51 = .ok (.aload_n 0, 1) := by decide +kernel
theorem dX8_hands_52 : decode cX8_hands 52 = .ok (.getfield 10, 3) := by decide +kernel
theorem dX8_hands_55 : decode cX8_hands 55 = .ok (.getfield 56, 3) := by decide +kernel
theorem dX8_hands_58 : decode cX8_hands 58 = .ok (.iload_n 1, 1) := by decide +kernel
theorem dX8_hands_59 : decode cX8_hands 59 = .ok (.invokevirtual 152, 3) := by decide +kernel
theorem dX8_hands_62 : decode cX8_hands 62 = .ok (.ifCond .eq 8, 3) := by decide +kernel
theorem dX8_hands_65 : decode cX8_hands 65 = .ok (.aload_n 0, 1) := by decide +kernel
theorem dX8_hands_66 : decode cX8_hands 66 = .ok (.invokevirtual 131, 3) := by decide +kernel
theorem dX8_hands_69 : decode cX8_hands 69 = .ok (.ireturn, 1) := by decide +kernel
theorem dX8_hands_70 : decode cX8_hands 70 = .ok (.aload_n 0, 1) := by decide +kernel
theorem dX8_hands_71 : decode cX8_hands 71 = .ok (.getfield 10, 3) := by decide +kernel
theorem dX8_hands_74 : decode cX8_hands 74 = .ok (.getfield 80, 3) := by decide +kernel
theorem dX8_hands_77 : decode cX8_hands 77 = .ok (.aload_n 0, 1) := by decide +kernel
theorem dX8_hands_78 : decode cX8_hands 78 = .ok (.getfield 10, 3) := by decide +kernel
theorem dX8_hands_81 : decode cX8_hands 81 = .ok (.getfield 56, 3) := by decide +kernel
theorem dX8_hands_84 : decode cX8_hands 84 = .ok (.invokevirtual 134, 3) := by decide +kernel
theorem dX8_hands_87 : decode cX8_hands 87 = .ok (.aload_n 0, 1) := by decide +kernel
theorem dX8_hands_88 : decode cX8_hands 88 = .ok (.getfield 10, 3) := by decide +kernel
theorem dX8_hands_91 : decode cX8_hands 91 = .ok (.getfield 56, 3) := by decide +kernel
theorem dX8_hands_94 : decode cX8_hands 94 = .ok (.iload_n 1, 1) := by decide +kernel
theorem dX8_hands_95 : decode cX8_hands 95 = .ok (.iload_n 2, 1) := by decide +kernel
theorem dX8_hands_96 : decode cX8_hands 96 = .ok (.invokevirtual 155, 3) := by decide +kernel
theorem dX8_hands_99 : decode cX8_hands 99 = .ok (.iload_n 3, 1) := by decide +kernel
theorem dX8_hands_100 : decode cX8_hands 100 = .ok (.ireturn, 1) := by decide +kernel
theorem dX8_undo_0 : decode cX8_undo 0 = .ok (.aload_n 0, 1) := by decide +kernel
theorem dX8_undo_1 : decode cX8_undo 1 = .ok (.getfield 10, 3) := by decide +kernel
theorem dX8_undo_4 : decode cX8_undo 4 = .ok (.getfield 80, 3) := by decide +kernel
theorem dX8_undo_7 : decode cX8_undo 7 = .ok (.getfield 159, 3) := by decide +kernel
theorem dX8_undo_10 : decode cX8_undo 10 = .ok (.ifCond .ne 8, 3) := by decide +kernel
theorem dX8_undo_13 : decode cX8_undo 13 = .ok (.aload_n 0, 1) := by decide +kernel
theorem dX8_undo_14 : decode cX8_undo 14 = .ok (.invokevirtual 131, 3) := by decide +kernel
theorem dX8_undo_17 : decode cX8_undo 17 = .ok (.ireturn, 1) := by decide +kernel
theorem dX8_undo_18 : decode cX8_undo 18 = .ok (.aload_n 0, 1) := by decide +kernel
theorem dX8_undo_19 : decode cX8_undo 19 = .ok (.getfield 10, 3) := by decide +kernel
theorem dX8_undo_22 : decode cX8_undo 22 = .ok (.getfield 80, 3) := by decide +kernel
theorem dX8_undo_25 : decode cX8_undo 25 = .ok (.aload_n 0, 1) := by decide +kernel
theorem dX8_undo_26 : decode cX8_undo 26 = .ok (.getfield 10, 3) := by decide +kernel
theorem dX8_undo_29 : decode cX8_undo 29 = .ok (.getfield 56, 3) := by decide +kernel
theorem dX8_undo_32 : decode cX8_undo 32 = .ok (.invokevirtual 160, 3) := by decide +kernel
theorem dX8_undo_35 : decode cX8_undo 35 = .ok (.aload_n 0, 1) := by decide +kernel
theorem dX8_undo_36 : decode cX8_undo 36 = .ok (.getfield 10, 3) := by decide +kernel
theorem dX8_undo_39 : decode cX8_undo 39 = .ok (.getfield 56, 3) := by decide +kernel
theorem dX8_undo_42 : decode cX8_undo 42 = .ok (.getfield 146, 3) := by decide +kernel
theorem dX8_undo_45 : decode cX8_undo 45 = .ok (.ireturn, 1) := by decide +kernel
theorem dX8_of_0 : decode cX8_of 0 = .ok (.aload_n 0, 1) := by decide +kernel
theorem dX8_of_1 : decode cX8_of 1 = .ok (.getfield 10, 3) := by decide +kernel
theorem dX8_of_4 : decode cX8_of 4 = .ok (.getfield 56, 3) := by decide +kernel
theorem dX8_of_7 : decode cX8_of 7 = .ok (.iload_n 1, 1) := by decide +kernel
theorem dX8_of_8 : decode cX8_of 8 = .ok (.invokevirtual 149, 3) := by decide +kernel
theorem dX8_of_11 : decode cX8_of 11 = .ok (.ifCond .eq 13, 3) := by decide +kernel
theorem dX8_of_14 : decode cX8_of 14 = .ok (.iload_n 2, 1) := by decide +kernel
theorem dX8_of_15 : decode cX8_of 15 = .ok (.iconst 0, 1) := by decide +kernel
theorem dX8_of_16 : decode cX8_of 16 = .ok (.bipush 7, 2) := by decide +kernel
theorem dX8_of_18 : decode cX8_of 18 = .ok (.invokestatic 48, 3) := by decide +kernel
theorem dX8_of_21 : decode cX8_of 21 = .ok (.ifCond .ne 8, 3) := by decide +kernel
theorem dX8_of_24 : decode cX8_of 24 = .ok (.aload_n 0, 1) := by decide +kernel
theorem dX8_of_25 : decode cX8_of 25 = .ok (.invokevirtual 52, 3) := by decide +kernel
theorem dX8_of_28 : decode cX8_of 28 = .ok (.ireturn, 1) := by decide +kernel
theorem dX8_of_29 : decode cX8_of 29 = .ok (.aload_n 0, 1) := by decide +kernel
theorem dX8_of_30 : decode cX8_of 30 = .ok (.getfield 10, 3) := by decide +kernel
theorem dX8_of_33 : decode cX8_of 33 = .ok (.getfield 56, 3) := by decide +kernel
theorem dX8_of_36 : decode cX8_of 36 = .ok (.iload_n 1, 1) := by decide +kernel
theorem dX8_of_37 : decode cX8_of 37 = .ok (.iload_n 2, 1) := by decide +kernel
theorem dX8_of_38 : decode cX8_of 38 = .ok (.invokevirtual 140, 3) := by decide +kernel
theorem dX8_of_41 : decode cX8_of 41 = .ok (.ireturn, 1) := by decide +kernel
theorem dX8_who_0 : decode cX8_who 0 = .ok (.aload_n 0, 1) := by decide +kernel
theorem dX8_who_1 : decode cX8_who 1 = .ok (.getfield 10, 3) := by decide +kernel
theorem dX8_who_4 : decode cX8_who 4 = .ok (.getfield 56, 3) := by decide +kernel
theorem dX8_who_7 : decode cX8_who 7 = .ok (.iload_n 1, 1) := by decide +kernel
theorem dX8_who_8 : decode cX8_who 8 = .ok (.invokevirtual 93, 3) := by decide +kernel
theorem dX8_who_11 : decode cX8_who 11 = .ok (.ifCond .eq 12, 3) := by decide +kernel
theorem dX8_who_14 : decode cX8_who 14 = .ok (.iload_n 2, 1) := by decide +kernel
theorem dX8_who_15 : decode cX8_who 15 = .ok (.iconst 0, 1) := by decide +kernel
theorem dX8_who_16 : decode cX8_who 16 = .ok (.iconst 3, 1) := by decide +kernel
theorem dX8_who_17 : decode cX8_who 17 = .ok (.invokestatic 48, 3) := by decide +kernel
theorem dX8_who_20 : decode cX8_who 20 = .ok (.ifCond .ne 8, 3) := by decide +kernel
theorem dX8_who_23 : decode cX8_who 23 = .ok (.aload_n 0, 1) := by decide +kernel
theorem dX8_who_24 : decode cX8_who 24 = .ok (.invokevirtual 52, 3) := by decide +kernel
theorem dX8_who_27 : decode cX8_who 27 = .ok (.ireturn, 1) := by decide +kernel
theorem dX8_who_28 : decode cX8_who 28 = .ok (.aload_n 0, 1) := by decide +kernel
theorem dX8_who_29 : decode cX8_who 29 = .ok (.getfield 10, 3) := by decide +kernel
theorem dX8_who_32 : decode cX8_who 32 = .ok (.getfield 56, 3) := by decide +kernel
theorem dX8_who_35 : decode cX8_who 35 = .ok (.iload_n 1, 1) := by decide +kernel
theorem dX8_who_36 : decode cX8_who 36 = .ok (.iload_n 2, 1) := by decide +kernel
theorem dX8_who_37 : decode cX8_who 37 = .ok (.invokevirtual 163, 3) := by decide +kernel
theorem dX8_who_40 : decode cX8_who 40 = .ok (.ireturn, 1) := by decide +kernel
theorem dX8_crack_0 : decode cX8_crack 0 = .ok (.aload_n 0, 1) := by decide +kernel
theorem dX8_crack_1 : decode cX8_crack 1 = .ok (.iload_n 1, 1) := by decide +kernel
theorem dX8_crack_2 : decode cX8_crack 2 = .ok (.iload_n 2, 1) := by decide +kernel
theorem dX8_crack_3 : decode cX8_crack 3 = .ok (.invokevirtual 124, 3) := by decide +kernel
theorem dX8_crack_6 : decode cX8_crack 6 = .ok (.ifCond .eq 12, 3) := by decide +kernel
theorem dX8_crack_9 : decode cX8_crack 9 = .ok (.iload_n 3, 1) := by decide +kernel
theorem dX8_crack_10 : decode cX8_crack 10 = .ok (.iconst 0, 1) := by decide +kernel
theorem dX8_crack_11 : decode cX8_crack 11 = .ok (.iconst 1, 1) := by decide +kernel
theorem dX8_crack_12 : decode cX8_crack 12 = .ok (.invokestatic 48, 3) := by decide +kernel
theorem dX8_crack_15 : decode cX8_crack 15 = .ok (.ifCond .ne 8, 3) := by decide +kernel
theorem dX8_crack_18 : decode cX8_crack 18 = .ok (.aload_n 0, 1) := by decide +kernel
theorem dX8_crack_19 : decode cX8_crack 19 = .ok (.invokevirtual 52, 3) := by decide +kernel
theorem dX8_crack_22 : decode cX8_crack 22 = .ok (.ireturn, 1) := by decide +kernel
theorem dX8_crack_23 : decode cX8_crack 23 = .ok (.aload_n 0, 1) := by decide +kernel
theorem dX8_crack_24 : decode cX8_crack 24 = .ok (.getfield 10, 3) := by decide +kernel
theorem dX8_crack_27 : decode cX8_crack 27 = .ok (.getfield 56, 3) := by decide +kernel
theorem dX8_crack_30 : decode cX8_crack 30 = .ok (.iload_n 1, 1) := by decide +kernel
theorem dX8_crack_31 : decode cX8_crack 31 = .ok (.iload_n 2, 1) := by decide +kernel
theorem dX8_crack_32 : decode cX8_crack 32 = .ok (.invokevirtual 128, 3) := by decide +kernel
theorem dX8_crack_35 : decode cX8_crack 35 = .ok (.ifCond .ne 5, 3) := by decide +kernel
theorem dX8_crack_38 : decode cX8_crack 38 = .ok (.iconst (-1), 1) := by decide +kernel
theorem dX8_crack_39 : decode cX8_crack 39 = .ok (.ireturn, 1) := by decide +kernel
theorem dX8_crack_40 : decode cX8_crack 40 = .ok (.aload_n 0, 1) := by decide +kernel
theorem dX8_crack_41 : decode cX8_crack 41 = .ok (.getfield 30, 3) := by decide +kernel
theorem dX8_crack_44 : decode cX8_crack 44 = .ok (.getfield 110, 3) := by decide +kernel
theorem dX8_crack_47 : decode cX8_crack 47 = .ok (.aload_n 0, 1) := by decide +kernel
theorem dX8_crack_48 : decode cX8_crack 48 = .ok (.getfield 10, 3) := by decide +kernel
theorem dX8_crack_51 : decode cX8_crack 51 = .ok (.getfield 56, 3) := by decide +kernel
theorem dX8_crack_54 : decode cX8_crack 54 = .ok (.invokevirtual 120, 3) := by decide +kernel
theorem dX8_crack_57 : decode cX8_crack 57 = .ok (.aload_n 0, 1) := by decide +kernel
theorem dX8_crack_58 : decode cX8_crack 58 = .ok (.getfield 30, 3) := by decide +kernel
theorem dX8_crack_61 : decode cX8_crack 61 = .ok (.getfield 110, 3) := by decide +kernel
theorem dX8_crack_64 : decode cX8_crack 64 = .ok (.iload_n 1, 1) := by decide +kernel
theorem dX8_crack_65 : decode cX8_crack 65 = .ok (.iload_n 2, 1) := by decide +kernel
theorem dX8_crack_66 : decode cX8_crack 66 = .ok (.invokevirtual 137, 3) := by decide +kernel
theorem dX8_crack_69 : decode cX8_crack 69 = .ok (.pop, 1) := by decide +kernel
theorem dX8_crack_70 : decode cX8_crack 70 = .ok (.aload_n 0, 1) := by decide +kernel
theorem dX8_crack_71 : decode cX8_crack 71 = .ok (.getfield 30, 3) := by decide +kernel
theorem dX8_crack_74 : decode cX8_crack 74 = .ok (.getfield 110, 3) := by decide +kernel
theorem dX8_crack_77 : decode cX8_crack 77 = .ok (.iload_n 3, 1) := by decide +kernel
theorem dX8_crack_78 : decode cX8_crack 78 = .ok (.ifCond .ne 7, 3) := by decide +kernel
theorem dX8_crack_81 : decode cX8_crack 81 = .ok (.iload_n 2, 1) := by decide +kernel
theorem dX8_crack_82 : decode cX8_crack 82 = .ok (.goto 4, 3) := by decide +kernel
theorem dX8_crack_85 : decode cX8_crack 85 = .ok (.iload_n 1, 1) := by decide +kernel
theorem dX8_crack_86 : decode cX8_crack 86 = .ok (.iconst 4, 1) := by decide +kernel
theorem dX8_crack_87 : decode cX8_crack 87 = .ok (.invokevirtual 140, 3) := by decide +kernel
theorem dX8_crack_90 : decode cX8_crack 90 = .ok (.ireturn, 1) := by decide +kernel
theorem dX8_lasts_0 : decode cX8_lasts 0 = .ok (.aload_n 0, 1) := by decide +kernel
theorem dX8_lasts_1 : decode cX8_lasts 1 = .ok (.iload_n 1, 1) := by decide +kernel
theorem dX8_lasts_2 : decode cX8_lasts 2 = .ok (.iload_n 2, 1) := by decide +kernel
theorem dX8_lasts_3 : decode cX8_lasts 3 = .ok (.invokevirtual 124, 3) := by decide +kernel
theorem dX8_lasts_6 : decode cX8_lasts 6 = .ok (.ifCond .eq 12, 3) := by decide +kernel
theorem dX8_lasts_9 : decode cX8_lasts 9 = .ok (.iload_n 3, 1) := by decide +kernel
theorem dX8_lasts_10 : decode cX8_lasts 10 = .ok (.iconst 0, 1) := by decide +kernel
theorem dX8_lasts_11 : decode cX8_lasts 11 = .ok (.iconst 1, 1) := by decide +kernel
theorem dX8_lasts_12 : decode cX8_lasts 12 = .ok (.invokestatic 48, 3) := by decide +kernel
theorem dX8_lasts_15 : decode cX8_lasts 15 = .ok (.ifCond .ne 8, 3) := by decide +kernel
theorem dX8_lasts_18 : decode cX8_lasts 18 = .ok (.aload_n 0, 1) := by decide +kernel
theorem dX8_lasts_19 : decode cX8_lasts 19 = .ok (.invokevirtual 52, 3) := by decide +kernel
theorem dX8_lasts_22 : decode cX8_lasts 22 = .ok (.ireturn, 1) := by decide +kernel
theorem dX8_lasts_23 : decode cX8_lasts 23 = .ok (.aload_n 0, 1) := by decide +kernel
theorem dX8_lasts_24 : decode cX8_lasts 24 = .ok (.getfield 30, 3) := by decide +kernel
theorem dX8_lasts_27 : decode cX8_lasts 27 = .ok (.aload_n 0, 1) := by decide +kernel
theorem dX8_lasts_28 : decode cX8_lasts 28 = .ok (.getfield 10, 3) := by decide +kernel
theorem dX8_lasts_31 : decode cX8_lasts 31 = .ok (.getfield 56, 3) := by decide +kernel
theorem dX8_lasts_34 : decode cX8_lasts 34 = .ok (.iload_n 1, 1) := by decide +kernel
theorem dX8_lasts_35 : decode cX8_lasts 35 = .ok (.iload_n 2, 1) := by decide +kernel
theorem dX8_lasts_36 : decode cX8_lasts 36 = .ok (.iconst 0, 1) := by decide +kernel
theorem dX8_lasts_37 : decode cX8_lasts 37 = .ok (.invokevirtual 166, 3) := by decide +kernel
theorem dX8_lasts_40 : decode cX8_lasts 40 = .ok (.istore 4, 2) := by decide +kernel
theorem dX8_lasts_42 : decode cX8_lasts 42 = .ok (.iload_n 3, 1) := by decide +kernel
theorem dX8_lasts_43 : decode cX8_lasts 43 = .ok (.ifCond .eq 9, 3) := by decide +kernel
theorem dX8_lasts_46 : decode cX8_lasts 46 = .ok (.iload 4, 2) := by decide +kernel
theorem dX8_lasts_48 : decode cX8_lasts 48 = .ok (.iconst (-1), 1) := by decide +kernel
theorem dX8_lasts_49 : decode cX8_lasts 49 = .ok (.if_icmp .ne 8, 3) := by decide +kernel
theorem dX8_lasts_52 : decode cX8_lasts 52 = .ok (.iload 4, 2) := by decide +kernel
theorem dX8_lasts_54 : decode cX8_lasts 54 = .ok (.goto 15, 3) := by decide +kernel
theorem dX8_lasts_57 : decode cX8_lasts 57 = .ok (.aload_n 0, 1) := by decide +kernel
theorem dX8_lasts_58 : decode cX8_lasts 58 = .ok (.getfield 30, 3) := by decide +kernel
theorem dX8_lasts_61 : decode cX8_lasts 61 = .ok (.getfield 110, 3) := by decide +kernel
theorem dX8_lasts_64 : decode cX8_lasts 64 = .ok (.iload_n 1, 1) := by decide +kernel
theorem dX8_lasts_65 : decode cX8_lasts 65 = .ok (.iload_n 2, 1) := by decide +kernel
theorem dX8_lasts_66 : decode cX8_lasts 66 = .ok (.invokevirtual 170, 3) := by decide +kernel
theorem dX8_lasts_69 : decode cX8_lasts 69 = .ok (.ireturn, 1) := by decide +kernel
theorem dX8_bout_0 : decode cX8_bout 0 = .ok (.aload_n 0, 1) := by decide +kernel
theorem dX8_bout_1 : decode cX8_bout 1 = .ok (.iload_n 1, 1) := by decide +kernel
theorem dX8_bout_2 : decode cX8_bout 2 = .ok (.iload_n 2, 1) := by decide +kernel
theorem dX8_bout_3 : decode cX8_bout 3 = .ok (.invokevirtual 124, 3) := by decide +kernel
theorem dX8_bout_6 : decode cX8_bout 6 = .ok (.ifCond .eq 12, 3) := by decide +kernel
theorem dX8_bout_9 : decode cX8_bout 9 = .ok (.iload_n 3, 1) := by decide +kernel
theorem dX8_bout_10 : decode cX8_bout 10 = .ok (.iconst 0, 1) := by decide +kernel
theorem dX8_bout_11 : decode cX8_bout 11 = .ok (.iconst 2, 1) := by decide +kernel
theorem dX8_bout_12 : decode cX8_bout 12 = .ok (.invokestatic 48, 3) := by decide +kernel
theorem dX8_bout_15 : decode cX8_bout 15 = .ok (.ifCond .ne 8, 3) := by decide +kernel
theorem dX8_bout_18 : decode cX8_bout 18 = .ok (.aload_n 0, 1) := by decide +kernel
theorem dX8_bout_19 : decode cX8_bout 19 = .ok (.invokevirtual 52, 3) := by decide +kernel
theorem dX8_bout_22 : decode cX8_bout 22 = .ok (.ireturn, 1) := by decide +kernel
theorem dX8_bout_23 : decode cX8_bout 23 = .ok (.aload_n 0, 1) := by decide +kernel
theorem dX8_bout_24 : decode cX8_bout 24 = .ok (.getfield 30, 3) := by decide +kernel
theorem dX8_bout_27 : decode cX8_bout 27 = .ok (.aload_n 0, 1) := by decide +kernel
theorem dX8_bout_28 : decode cX8_bout 28 = .ok (.getfield 10, 3) := by decide +kernel
theorem dX8_bout_31 : decode cX8_bout 31 = .ok (.getfield 56, 3) := by decide +kernel
theorem dX8_bout_34 : decode cX8_bout 34 = .ok (.iload_n 1, 1) := by decide +kernel
theorem dX8_bout_35 : decode cX8_bout 35 = .ok (.iload_n 2, 1) := by decide +kernel
theorem dX8_bout_36 : decode cX8_bout 36 = .ok (.iconst 1, 1) := by decide +kernel
theorem dX8_bout_37 : decode cX8_bout 37 = .ok (.invokevirtual 166, 3) := by decide +kernel
theorem dX8_bout_40 : decode cX8_bout 40 = .ok (.istore 4, 2) := by decide +kernel
theorem dX8_bout_42 : decode cX8_bout 42 = .ok (.iload_n 3, 1) := by decide +kernel
theorem dX8_bout_43 : decode cX8_bout 43 = .ok (.ifCond .eq 9, 3) := by decide +kernel
theorem dX8_bout_46 : decode cX8_bout 46 = .ok (.iload 4, 2) := by decide +kernel
theorem dX8_bout_48 : decode cX8_bout 48 = .ok (.iconst (-1), 1) := by decide +kernel
theorem dX8_bout_49 : decode cX8_bout 49 = .ok (.if_icmp .ne 6, 3) := by decide +kernel
theorem dX8_bout_52 : decode cX8_bout 52 = .ok (.iload 4, 2) := by decide +kernel
theorem dX8_bout_54 : decode cX8_bout 54 = .ok (.ireturn, 1) := by decide +kernel
theorem dX8_bout_55 : decode cX8_bout 55 = .ok (.aload_n 0, 1) := by decide +kernel
theorem dX8_bout_56 : decode cX8_bout 56 = .ok (.getfield 30, 3) := by decide +kernel
theorem dX8_bout_59 : decode cX8_bout 59 = .ok (.getfield 110, 3) := by decide +kernel
theorem dX8_bout_62 : decode cX8_bout 62 = .ok (.iload_n 1, 1) := by decide +kernel
theorem dX8_bout_63 : decode cX8_bout 63 = .ok (.iload_n 2, 1) := by decide +kernel
theorem dX8_bout_64 : decode cX8_bout 64 = .ok (.invokevirtual 170, 3) := by decide +kernel
theorem dX8_bout_67 : decode cX8_bout 67 = .ok (.istore 5, 2) := by decide +kernel
theorem dX8_bout_69 : decode cX8_bout 69 = .ok (.iload_n 3, 1) := by decide +kernel
theorem dX8_bout_70 : decode cX8_bout 70 = .ok (.iconst 1, 1) := by decide +kernel
theorem dX8_bout_71 : decode cX8_bout 71 = .ok (.if_icmp .eq 9, 3) := by decide +kernel
theorem dX8_bout_74 : decode cX8_bout 74 = .ok (.iload 5, 2) := by decide +kernel
theorem dX8_bout_76 : decode cX8_bout 76 = .ok (.iconst (-1), 1) := by decide +kernel
theorem dX8_bout_77 : decode cX8_bout 77 = .ok (.if_icmp .ne 6, 3) := by decide +kernel
theorem dX8_bout_80 : decode cX8_bout 80 = .ok (.iload 5, 2) := by decide +kernel
theorem dX8_bout_82 : decode cX8_bout 82 = .ok (.ireturn, 1) := by decide +kernel
theorem dX8_bout_83 : decode cX8_bout 83 = .ok (.aload_n 0, 1) := by decide +kernel
theorem dX8_bout_84 : decode cX8_bout 84 = .ok (.getfield 30, 3) := by decide +kernel
theorem dX8_bout_87 : decode cX8_bout 87 = .ok (.getfield 110, 3) := by decide +kernel
theorem dX8_bout_90 : decode cX8_bout 90 = .ok (.iload 5, 2) := by decide +kernel
theorem dX8_bout_92 : decode cX8_bout 92 = .ok (.iconst 5, 1) := by decide +kernel
theorem dX8_bout_93 : decode cX8_bout 93 = .ok (.invokevirtual 140, 3) := by decide +kernel
theorem dX8_bout_96 : decode cX8_bout 96 = .ok (.ireturn, 1) := by decide +kernel
theorem dX8_rank_0 : decode cX8_rank 0 = .ok (.iload_n 1, 1) := by decide +kernel
theorem dX8_rank_1 : decode cX8_rank 1 = .ok (.ifCond .ge 8, 3) := by decide +kernel
theorem dX8_rank_4 : decode cX8_rank 4 = .ok (.aload_n 0, 1) := by decide +kernel
theorem dX8_rank_5 : decode cX8_rank 5 = .ok (.invokevirtual 52, 3) := by decide +kernel
theorem dX8_rank_8 : decode cX8_rank 8 = .ok (.ireturn, 1) := by decide +kernel
theorem dX8_rank_9 : decode cX8_rank 9 = .ok (.iload_n 1, 1) := by decide +kernel
theorem dX8_rank_10 : decode cX8_rank 10 = .ok (.aload_n 0, 1) := by decide +kernel
theorem dX8_rank_11 : decode cX8_rank 11 = .ok (.getfield 10, 3) := by decide +kernel
theorem dX8_rank_14 : decode cX8_rank 14 = .ok (.getfield 56, 3) := by decide +kernel
theorem dX8_rank_17 : decode cX8_rank 17 = .ok (.getfield 60, 3) := by decide +kernel
theorem dX8_rank_20 : decode cX8_rank 20 = .ok (.if_icmp .lt 8, 3) := by decide +kernel
theorem dX8_rank_23 : decode cX8_rank 23 = .ok (.aload_n 0, 1) := by decide +kernel
theorem dX8_rank_24 : decode cX8_rank 24 = .ok (.invokevirtual 131, 3) := by decide +kernel
theorem dX8_rank_27 : decode cX8_rank 27 = .ok (.ireturn, 1) := by decide +kernel
theorem dX8_rank_28 : decode cX8_rank 28 = .ok (.aload_n 0, 1) := by decide +kernel
theorem dX8_rank_29 : decode cX8_rank 29 = .ok (.getfield 10, 3) := by decide +kernel
theorem dX8_rank_32 : decode cX8_rank 32 = .ok (.getfield 56, 3) := by decide +kernel
theorem dX8_rank_35 : decode cX8_rank 35 = .ok (.iload_n 1, 1) := by decide +kernel
theorem dX8_rank_36 : decode cX8_rank 36 = .ok (.invokevirtual 173, 3) := by decide +kernel
theorem dX8_rank_39 : decode cX8_rank 39 = .ok (.ireturn, 1) := by decide +kernel
theorem dX8_order_0 : decode cX8_order 0 = .ok (.aload_n 0, 1) := by decide +kernel
theorem dX8_order_1 : decode cX8_order 1 = .ok (.getfield 10, 3) := by decide +kernel
theorem dX8_order_4 : decode cX8_order 4 = .ok (.getfield 56, 3) := by decide +kernel
theorem dX8_order_7 : decode cX8_order 7 = .ok (.iload_n 1, 1) := by decide +kernel
theorem dX8_order_8 : decode cX8_order 8 = .ok (.invokevirtual 149, 3) := by decide +kernel
theorem dX8_order_11 : decode cX8_order 11 = .ok (.ifCond .eq 9, 3) := by decide +kernel
theorem dX8_order_14 : decode cX8_order 14 = .ok (.iload_n 2, 1) := by decide +kernel
theorem dX8_order_15 : decode cX8_order 15 = .ok (.bipush (-2), 2) := by decide +kernel
theorem dX8_order_17 : decode cX8_order 17 = .ok (.if_icmp .ge 8, 3) := by decide +kernel
theorem dX8_order_20 : decode cX8_order 20 = .ok (.aload_n 0, 1) := by decide +kernel
theorem dX8_order_21 : decode cX8_order 21 = .ok (.invokevirtual 177, 3) := by decide +kernel
theorem dX8_order_24 : decode cX8_order 24 = .ok (.ireturn, 1) := by decide +kernel
theorem dX8_order_25 : decode cX8_order 25 = .ok (.aload_n 0, 1) := by decide +kernel
theorem dX8_order_26 : decode cX8_order 26 = .ok (.getfield 30, 3) := by decide +kernel
theorem dX8_order_29 : decode cX8_order 29 = .ok (.aload_n 0, 1) := by decide +kernel
theorem dX8_order_30 : decode cX8_order 30 = .ok (.getfield 10, 3) := by decide +kernel
theorem dX8_order_33 : decode cX8_order 33 = .ok (.getfield 56, 3) := by decide +kernel
theorem dX8_order_36 : decode cX8_order 36 = .ok (.iload_n 1, 1) := by decide +kernel
theorem dX8_order_37 : decode cX8_order 37 = .ok (.invokevirtual 180, 3) := by decide +kernel
theorem dX8_order_40 : decode cX8_order 40 = .ok (.istore_n 3, 1) := by decide +kernel
theorem dX8_order_41 : decode cX8_order 41 = .ok (.iload_n 2, 1) := by decide +kernel
theorem dX8_order_42 : decode cX8_order 42 = .ok (.bipush (-2), 2) := by decide +kernel
theorem dX8_order_44 : decode cX8_order 44 = .ok (.if_icmp .ne 11, 3) := by decide +kernel
theorem dX8_order_47 : decode cX8_order 47 = .ok (.aload_n 0, 1) := by decide +kernel
theorem dX8_order_48 : decode cX8_order 48 = .ok (.getfield 30, 3) := by decide +kernel
theorem dX8_order_51 : decode cX8_order 51 = .ok (.getfield 184, 3) := by decide +kernel
theorem dX8_order_54 : decode cX8_order 54 = .ok (.ireturn, 1) := by decide +kernel
theorem dX8_order_55 : decode cX8_order 55 = .ok (.iload_n 2, 1) := by decide +kernel
theorem dX8_order_56 : decode cX8_order 56 = .ok (.iconst (-1), 1) := by decide +kernel
theorem dX8_order_57 : decode cX8_order 57 = .ok (.if_icmp .ne 11, 3) := by decide +kernel
theorem dX8_order_60 : decode cX8_order 60 = .ok (.aload_n 0, 1) := by decide +kernel
theorem dX8_order_61 : decode cX8_order 61 = .ok (.getfield 30, 3) := by decide +kernel
theorem dX8_order_64 : decode cX8_order 64 = .ok (.getfield 187, 3) := by decide +kernel
theorem dX8_order_67 : decode cX8_order 67 = .ok (.ireturn, 1) := by decide +kernel
theorem dX8_order_68 : decode cX8_order 68 = .ok (.iload_n 2, 1) := by decide +kernel
theorem dX8_order_69 : decode cX8_order 69 = .ok (.iload_n 3, 1) := by decide +kernel
theorem dX8_order_70 : decode cX8_order 70 = .ok (.if_icmp .ge 14, 3) := by decide +kernel
theorem dX8_order_73 : decode cX8_order 73 = .ok (.aload_n 0, 1) := by decide +kernel
theorem dX8_order_74 : decode cX8_order 74 = .ok (.getfield 30, 3) := by decide +kernel
theorem dX8_order_77 : decode cX8_order 77 = .ok (.iload_n 2, 1) := by decide +kernel
theorem dX8_order_78 : decode cX8_order 78 = .ok (.invokevirtual 190, 3) := by decide +kernel
theorem dX8_order_81 : decode cX8_order 81 = .ok (.goto 5, 3) := by decide +kernel
theorem dX8_order_84 : decode cX8_order 84 = .ok (.bipush (-5), 2) := by decide +kernel
theorem dX8_order_86 : decode cX8_order 86 = .ok (.ireturn, 1) := by decide +kernel
theorem dX8_firm_0 : decode cX8_firm 0 = .ok (.aload_n 0, 1) := by decide +kernel
theorem dX8_firm_1 : decode cX8_firm 1 = .ok (.iload_n 1, 1) := by decide +kernel
theorem dX8_firm_2 : decode cX8_firm 2 = .ok (.iload_n 2, 1) := by decide +kernel
theorem dX8_firm_3 : decode cX8_firm 3 = .ok (.invokevirtual 124, 3) := by decide +kernel
theorem dX8_firm_6 : decode cX8_firm 6 = .ok (.ifCond .ne 8, 3) := by decide +kernel
theorem dX8_firm_9 : decode cX8_firm 9 = .ok (.aload_n 0, 1) := by decide +kernel
theorem dX8_firm_10 : decode cX8_firm 10 = .ok (.invokevirtual 52, 3) := by decide +kernel
theorem dX8_firm_13 : decode cX8_firm 13 = .ok (.ireturn, 1) := by decide +kernel
theorem dX8_firm_14 : decode cX8_firm 14 = .ok (.aload_n 0, 1) := by decide +kernel
theorem dX8_firm_15 : decode cX8_firm 15 = .ok (.getfield 30, 3) := by decide +kernel
theorem dX8_firm_18 : decode cX8_firm 18 = .ok (.aload_n 0, 1) := by decide +kernel
theorem dX8_firm_19 : decode cX8_firm 19 = .ok (.getfield 10, 3) := by decide +kernel
theorem dX8_firm_22 : decode cX8_firm 22 = .ok (.getfield 56, 3) := by decide +kernel
theorem dX8_firm_25 : decode cX8_firm 25 = .ok (.iload_n 1, 1) := by decide +kernel
theorem dX8_firm_26 : decode cX8_firm 26 = .ok (.iload_n 2, 1) := by decide +kernel
theorem dX8_firm_27 : decode cX8_firm 27 = .ok (.invokevirtual 193, 3) := by decide +kernel
theorem dX8_firm_30 : decode cX8_firm 30 = .ok (.ireturn, 1) := by decide +kernel
theorem dX8_fit_0 : decode cX8_fit 0 = .ok (.aload_n 0, 1) := by decide +kernel
theorem dX8_fit_1 : decode cX8_fit 1 = .ok (.getfield 10, 3) := by decide +kernel
theorem dX8_fit_4 : decode cX8_fit 4 = .ok (.getfield 56, 3) := by decide +kernel
theorem dX8_fit_7 : decode cX8_fit 7 = .ok (.iload_n 1, 1) := by decide +kernel
theorem dX8_fit_8 : decode cX8_fit 8 = .ok (.invokevirtual 93, 3) := by decide +kernel
theorem dX8_fit_11 : decode cX8_fit 11 = .ok (.ifCond .eq 12, 3) := by decide +kernel
theorem dX8_fit_14 : decode cX8_fit 14 = .ok (.iload_n 2, 1) := by decide +kernel
theorem dX8_fit_15 : decode cX8_fit 15 = .ok (.iconst 0, 1) := by decide +kernel
theorem dX8_fit_16 : decode cX8_fit 16 = .ok (.iconst 1, 1) := by decide +kernel
theorem dX8_fit_17 : decode cX8_fit 17 = .ok (.invokestatic 48, 3) := by decide +kernel
theorem dX8_fit_20 : decode cX8_fit 20 = .ok (.ifCond .ne 8, 3) := by decide +kernel
theorem dX8_fit_23 : decode cX8_fit 23 = .ok (.aload_n 0, 1) := by decide +kernel
theorem dX8_fit_24 : decode cX8_fit 24 = .ok (.invokevirtual 52, 3) := by decide +kernel
theorem dX8_fit_27 : decode cX8_fit 27 = .ok (.ireturn, 1) := by decide +kernel
theorem dX8_fit_28 : decode cX8_fit 28 = .ok (.aload_n 0, 1) := by decide +kernel
theorem dX8_fit_29 : decode cX8_fit 29 = .ok (.getfield 30, 3) := by decide +kernel
theorem dX8_fit_32 : decode cX8_fit 32 = .ok (.aload_n 0, 1) := by decide +kernel
theorem dX8_fit_33 : decode cX8_fit 33 = .ok (.getfield 10, 3) := by decide +kernel
theorem dX8_fit_36 : decode cX8_fit 36 = .ok (.getfield 56, 3) := by decide +kernel
theorem dX8_fit_39 : decode cX8_fit 39 = .ok (.iload_n 1, 1) := by decide +kernel
theorem dX8_fit_40 : decode cX8_fit 40 = .ok (.invokevirtual 197, 3) := by decide +kernel
theorem dX8_fit_43 : decode cX8_fit 43 = .ok (.istore_n 3, 1) := by decide +kernel
theorem dX8_fit_44 : decode cX8_fit 44 = .ok (.iload_n 2, 1) := by decide +kernel
theorem dX8_fit_45 : decode cX8_fit 45 = .ok (.ifCond .eq 8, 3) := by decide +kernel
theorem dX8_fit_48 : decode cX8_fit 48 = .ok (.iload_n 3, 1) := by decide +kernel
theorem dX8_fit_49 : decode cX8_fit 49 = .ok (.iconst (-1), 1) := by decide +kernel
theorem dX8_fit_50 : decode cX8_fit 50 = .ok (.if_icmp .ne 7, 3) := by decide +kernel
theorem dX8_fit_53 : decode cX8_fit 53 = .ok (.iload_n 3, 1) := by decide +kernel
theorem dX8_fit_54 : decode cX8_fit 54 = .ok (.goto 10, 3) := by decide +kernel
theorem dX8_fit_57 : decode cX8_fit 57 = .ok (.aload_n 0, 1) := by decide +kernel
theorem dX8_fit_58 : decode cX8_fit 58 = .ok (.getfield 30, 3) := by decide +kernel
theorem dX8_fit_61 : decode cX8_fit 61 = .ok (.getfield 184, 3) := by decide +kernel
theorem dX8_fit_64 : decode cX8_fit 64 = .ok (.ireturn, 1) := by decide +kernel
theorem dX8_seen_0 : decode cX8_seen 0 = .ok (.aload_n 0, 1) := by decide +kernel
theorem dX8_seen_1 : decode cX8_seen 1 = .ok (.getfield 10, 3) := by decide +kernel
theorem dX8_seen_4 : decode cX8_seen 4 = .ok (.getfield 56, 3) := by decide +kernel
theorem dX8_seen_7 : decode cX8_seen 7 = .ok (.iload_n 1, 1) := by decide +kernel
theorem dX8_seen_8 : decode cX8_seen 8 = .ok (.invokevirtual 149, 3) := by decide +kernel
theorem dX8_seen_11 : decode cX8_seen 11 = .ok (.ifCond .eq 15, 3) := by decide +kernel
theorem dX8_seen_14 : decode cX8_seen 14 = .ok (.iload_n 2, 1) := by decide +kernel
theorem dX8_seen_15 : decode cX8_seen 15 = .ok (.iload_n 3, 1) := by decide +kernel
theorem dX8_seen_16 : decode cX8_seen 16 = .ok (.iload 4, 2) := by decide +kernel
theorem dX8_seen_18 : decode cX8_seen 18 = .ok (.iload 5, 2) := by decide +kernel
theorem dX8_seen_20 : decode cX8_seen 20 = .ok (.invokestatic 200, 3) := by decide +kernel
theorem dX8_seen_23 : decode cX8_seen 23 = .ok (.ifCond .ne 8, 3) := by decide +kernel
theorem dX8_seen_26 : decode cX8_seen 26 = .ok (.aload_n 0, 1) := by decide +kernel
theorem dX8_seen_27 : decode cX8_seen 27 = .ok (.invokevirtual 52, 3) := by decide +kernel
theorem dX8_seen_30 : decode cX8_seen 30 = .ok (.ireturn, 1) := by decide +kernel
theorem dX8_seen_31 : decode cX8_seen 31 = .ok (.aload_n 0, 1) := by decide +kernel
theorem dX8_seen_32 : decode cX8_seen 32 = .ok (.getfield 10, 3) := by decide +kernel
theorem dX8_seen_35 : decode cX8_seen 35 = .ok (.getfield 204, 3) := by decide +kernel
theorem dX8_seen_38 : decode cX8_seen 38 = .ok (.invokevirtual 208, 3) := by decide +kernel
theorem dX8_seen_41 : decode cX8_seen 41 = .ok (.ifCond .eq 8, 3) := by decide +kernel
theorem dX8_seen_44 : decode cX8_seen 44 = .ok (.aload_n 0, 1) := by decide +kernel
theorem dX8_seen_45 : decode cX8_seen 45 = .ok (.invokevirtual 77, 3) := by decide +kernel
theorem dX8_seen_48 : decode cX8_seen 48 = .ok (.ireturn, 1) := by decide +kernel
theorem dX8_seen_49 : decode cX8_seen 49 = .ok (.aload_n 0, 1) := by decide +kernel
theorem dX8_seen_50 : decode cX8_seen 50 = .ok (.getfield 10, 3) := by decide +kernel
theorem dX8_seen_53 : decode cX8_seen 53 = .ok (.getfield 204, 3) := by decide +kernel
theorem dX8_seen_56 : decode cX8_seen 56 = .ok (.iload_n 1, 1) := by decide +kernel
theorem dX8_seen_57 : decode cX8_seen 57 = .ok (.iload_n 2, 1) := by decide +kernel
theorem dX8_seen_58 : decode cX8_seen 58 = .ok (.iload_n 3, 1) := by decide +kernel
theorem dX8_seen_59 : decode cX8_seen 59 = .ok (.iload 4, 2) := by decide +kernel
theorem dX8_seen_61 : decode cX8_seen 61 = .ok (.iload 5, 2) := by decide +kernel
theorem dX8_seen_63 : decode cX8_seen 63 = .ok (.iconst 0, 1) := by decide +kernel
theorem dX8_seen_64 : decode cX8_seen 64 = .ok (.invokevirtual 211, 3) := by decide +kernel
theorem dX8_seen_67 : decode cX8_seen 67 = .ok (.ireturn, 1) := by decide +kernel
theorem dX8_hards_0 : decode cX8_hards 0 = .ok (.aload_n 0, 1) := by decide +kernel
theorem dX8_hards_1 : decode cX8_hards 1 = .ok (.getfield 10, 3) := by decide +kernel
theorem dX8_hards_4 : decode cX8_hards 4 = .ok (.getfield 56, 3) := by decide +kernel
theorem dX8_hards_7 : decode cX8_hards 7 = .ok (.iload_n 1, 1) := by decide +kernel
theorem dX8_hards_8 : decode cX8_hards 8 = .ok (.invokevirtual 149, 3) := by decide +kernel
theorem dX8_hards_11 : decode cX8_hards 11 = .ok (.ifCond .ne 8, 3) := by decide +kernel
theorem dX8_hards_14 : decode cX8_hards 14 = .ok (.aload_n 0, 1) := by decide +kernel
theorem dX8_hards_15 : decode cX8_hards 15 = .ok (.invokevirtual 52, 3) := by decide +kernel
theorem dX8_hards_18 : decode cX8_hards 18 = .ok (.ireturn, 1) := by decide +kernel
theorem dX8_hards_19 : decode cX8_hards 19 = .ok (.aload_n 0, 1) := by decide +kernel
theorem dX8_hards_20 : decode cX8_hards 20 = .ok (.getfield 37, 3) := by decide +kernel
theorem dX8_hards_23 : decode cX8_hards 23 = .ok (.iconst 0, 1) := by decide +kernel
theorem dX8_hards_24 : decode cX8_hards 24 = .ok (.aload_n 0, 1) := by decide +kernel
theorem dX8_hards_25 : decode cX8_hards 25 = .ok (.getfield 10, 3) := by decide +kernel
theorem dX8_hards_28 : decode cX8_hards 28 = .ok (.iload_n 1, 1) := by decide +kernel
theorem dX8_hards_29 : decode cX8_hards 29 = .ok (.invokevirtual 214, 3) := by decide +kernel
theorem dX8_hards_32 : decode cX8_hards 32 = .ok (.ireturn, 1) := by decide +kernel
theorem dX8_tell_0 : decode cX8_tell 0 = .ok (.aload_n 0, 1) := by decide +kernel
theorem dX8_tell_1 : decode cX8_tell 1 = .ok (.getfield 10, 3) := by decide +kernel
theorem dX8_tell_4 : decode cX8_tell 4 = .ok (.getfield 56, 3) := by decide +kernel
theorem dX8_tell_7 : decode cX8_tell 7 = .ok (.iload_n 1, 1) := by decide +kernel
theorem dX8_tell_8 : decode cX8_tell 8 = .ok (.invokevirtual 149, 3) := by decide +kernel
theorem dX8_tell_11 : decode cX8_tell 11 = .ok (.ifCond .ne 8, 3) := by decide +kernel
theorem dX8_tell_14 : decode cX8_tell 14 = .ok (.aload_n 0, 1) := by decide +kernel
theorem dX8_tell_15 : decode cX8_tell 15 = .ok (.invokevirtual 52, 3) := by decide +kernel
theorem dX8_tell_18 : decode cX8_tell 18 = .ok (.ireturn, 1) := by decide +kernel
theorem dX8_tell_19 : decode cX8_tell 19 = .ok (.aload_n 0, 1) := by decide +kernel
theorem dX8_tell_20 : decode cX8_tell 20 = .ok (.getfield 37, 3) := by decide +kernel
theorem dX8_tell_23 : decode cX8_tell 23 = .ok (.iconst 0, 1) := by decide +kernel
theorem dX8_tell_24 : decode cX8_tell 24 = .ok (.aload_n 0, 1) := by decide +kernel
theorem dX8_tell_25 : decode cX8_tell 25 = .ok (.getfield 10, 3) := by decide +kernel
theorem dX8_tell_28 : decode cX8_tell 28 = .ok (.iload_n 1, 1) := by decide +kernel
theorem dX8_tell_29 : decode cX8_tell 29 = .ok (.invokevirtual 218, 3) := by decide +kernel
theorem dX8_tell_32 : decode cX8_tell 32 = .ok (.ireturn, 1) := by decide +kernel
theorem dX8_note_0 : decode cX8_note 0 = .ok (.aload_n 0, 1) := by decide +kernel
theorem dX8_note_1 : decode cX8_note 1 = .ok (.getfield 10, 3) := by decide +kernel
theorem dX8_note_4 : decode cX8_note 4 = .ok (.getfield 56, 3) := by decide +kernel
theorem dX8_note_7 : decode cX8_note 7 = .ok (.iload_n 1, 1) := by decide +kernel
theorem dX8_note_8 : decode cX8_note 8 = .ok (.invokevirtual 149, 3) := by decide +kernel
theorem dX8_note_11 : decode cX8_note 11 = .ok (.ifCond .eq 26, 3) := by decide +kernel
theorem dX8_note_14 : decode cX8_note 14 = .ok (.iload_n 2, 1) := by decide +kernel
theorem dX8_note_15 : decode cX8_note 15 = .ok (.iconst 0, 1) := by decide +kernel
theorem dX8_note_16 : decode cX8_note 16 = .ok (.bipush 9, 2) := by decide +kernel
theorem dX8_note_18 : decode cX8_note 18 = .ok (.invokestatic 48, 3) := by decide +kernel
theorem dX8_note_21 : decode cX8_note 21 = .ok (.ifCond .eq 16, 3) := by decide +kernel
theorem dX8_note_24 : decode cX8_note 24 = .ok (.iload_n 3, 1) := by decide +kernel
theorem dX8_note_25 : decode cX8_note 25 = .ok (.iload 4, 2) := by decide +kernel
theorem dX8_note_27 : decode cX8_note 27 = .ok (.iload 5, 2) := by decide +kernel
theorem dX8_note_29 : decode cX8_note 29 = .ok (.iload 6, 2) := by decide +kernel
theorem dX8_note_31 : decode cX8_note 31 = .ok (.invokestatic 200, 3) := by decide +kernel
theorem dX8_note_34 : decode cX8_note 34 = .ok (.ifCond .ne 8, 3) := by decide +kernel
theorem dX8_note_37 : decode cX8_note 37 = .ok (.aload_n 0, 1) := by decide +kernel
theorem dX8_note_38 : decode cX8_note 38 = .ok (.invokevirtual 52, 3) := by decide +kernel
theorem dX8_note_41 : decode cX8_note 41 = .ok (.ireturn, 1) := by decide +kernel
theorem dX8_note_42 : decode cX8_note 42 = .ok (.aload_n 0, 1) := by decide +kernel
theorem dX8_note_43 : decode cX8_note 43 = .ok (.getfield 10, 3) := by decide +kernel
theorem dX8_note_46 : decode cX8_note 46 = .ok (.getfield 221, 3) := by decide +kernel
theorem dX8_note_49 : decode cX8_note 49 = .ok (.invokevirtual 208, 3) := by decide +kernel
theorem dX8_note_52 : decode cX8_note 52 = .ok (.ifCond .eq 8, 3) := by decide +kernel
theorem dX8_note_55 : decode cX8_note 55 = .ok (.aload_n 0, 1) := by decide +kernel
theorem dX8_note_56 : decode cX8_note 56 = .ok (.invokevirtual 77, 3) := by decide +kernel
theorem dX8_note_59 : decode cX8_note 59 = .ok (.ireturn, 1) := by decide +kernel
theorem dX8_note_60 : decode cX8_note 60 = .ok (.aload_n 0, 1) := by decide +kernel
theorem dX8_note_61 : decode cX8_note 61 = .ok (.getfield 10, 3) := by decide +kernel
theorem dX8_note_64 : decode cX8_note 64 = .ok (.getfield 221, 3) := by decide +kernel
theorem dX8_note_67 : decode cX8_note 67 = .ok (.iload_n 1, 1) := by decide +kernel
theorem dX8_note_68 : decode cX8_note 68 = .ok (.iload_n 2, 1) := by decide +kernel
theorem dX8_note_69 : decode cX8_note 69 = .ok (.iload_n 3, 1) := by decide +kernel
theorem dX8_note_70 : decode cX8_note 70 = .ok (.iload 4, 2) := by decide +kernel
theorem dX8_note_72 : decode cX8_note 72 = .ok (.iload 5, 2) := by decide +kernel
theorem dX8_note_74 : decode cX8_note 74 = .ok (.iload 6, 2) := by decide +kernel
theorem dX8_note_76 : decode cX8_note 76 = .ok (.invokevirtual 211, 3) := by decide +kernel
theorem dX8_note_79 : decode cX8_note 79 = .ok (.ireturn, 1) := by decide +kernel
theorem dX8_mark_0 : decode cX8_mark 0 = .ok (.aload_n 0, 1) := by decide +kernel
theorem dX8_mark_1 : decode cX8_mark 1 = .ok (.getfield 10, 3) := by decide +kernel
theorem dX8_mark_4 : decode cX8_mark 4 = .ok (.getfield 56, 3) := by decide +kernel
theorem dX8_mark_7 : decode cX8_mark 7 = .ok (.iload_n 1, 1) := by decide +kernel
theorem dX8_mark_8 : decode cX8_mark 8 = .ok (.invokevirtual 93, 3) := by decide +kernel
theorem dX8_mark_11 : decode cX8_mark 11 = .ok (.ifCond .eq 23, 3) := by decide +kernel
theorem dX8_mark_14 : decode cX8_mark 14 = .ok (.iload_n 2, 1) := by decide +kernel
theorem dX8_mark_15 : decode cX8_mark 15 = .ok (.iconst 1, 1) := by decide +kernel
theorem dX8_mark_16 : decode cX8_mark 16 = .ok (.bipush 9, 2) := by decide +kernel
theorem dX8_mark_18 : decode cX8_mark 18 = .ok (.invokestatic 48, 3) := by decide +kernel
theorem dX8_mark_21 : decode cX8_mark 21 = .ok (.ifCond .eq 13, 3) := by decide +kernel
theorem dX8_mark_24 : decode cX8_mark 24 = .ok (.iload_n 3, 1) := by decide +kernel
theorem dX8_mark_25 : decode cX8_mark 25 = .ok (.iconst 1, 1) := by decide +kernel
theorem dX8_mark_26 : decode cX8_mark 26 = .ok (.bipush 9, 2) := by decide +kernel
theorem dX8_mark_28 : decode cX8_mark 28 = .ok (.invokestatic 48, 3) := by decide +kernel
theorem dX8_mark_31 : decode cX8_mark 31 = .ok (.ifCond .ne 8, 3) := by decide +kernel
theorem dX8_mark_34 : decode cX8_mark 34 = .ok (.aload_n 0, 1) := by decide +kernel
theorem dX8_mark_35 : decode cX8_mark 35 = .ok (.invokevirtual 52, 3) := by decide +kernel

theorem dX5_endNumber_32 : decode cX5_endNumber 32 = .ok (.putfield 28, 3) := by decide +kernel
theorem dX5_endNumber_35 : decode cX5_endNumber 35 = .ok (.goto (-35), 3) := by decide +kernel
theorem dX5_endNumber_38 : decode cX5_endNumber 38 = .ok (.aload_n 0, 1) := by decide +kernel
theorem dX5_endNumber_39 : decode cX5_endNumber 39 = .ok (.aload_n 0, 1) := by decide +kernel
theorem dX5_endNumber_40 : decode cX5_endNumber 40 = .ok (.getfield 28, 3) := by decide +kernel
theorem dX5_endNumber_43 : decode cX5_endNumber 43 = .ok (.aload_n 0, 1) := by decide +kernel
theorem dX5_endNumber_44 : decode cX5_endNumber 44 = .ok (.getfield 109, 3) := by decide +kernel
theorem dX5_endNumber_47 : decode cX5_endNumber 47 = .ok (.isub, 1) := by decide +kernel
theorem dX5_endNumber_48 : decode cX5_endNumber 48 = .ok (.iconst 2, 1) := by decide +kernel
theorem dX5_endNumber_49 : decode cX5_endNumber 49 = .ok (.if_icmp .gt 7, 3) := by decide +kernel
theorem dX5_endNumber_52 : decode cX5_endNumber 52 = .ok (.iconst 2, 1) := by decide +kernel
theorem dX5_endNumber_53 : decode cX5_endNumber 53 = .ok (.goto 4, 3) := by decide +kernel
theorem dX5_endNumber_56 : decode cX5_endNumber 56 = .ok (.iconst 4, 1) := by decide +kernel
theorem dX5_endNumber_57 : decode cX5_endNumber 57 = .ok (.putfield 34, 3) := by decide +kernel
theorem dX5_endNumber_60 : decode cX5_endNumber 60 = .ok (.aload_n 0, 1) := by decide +kernel
theorem dX5_endNumber_61 : decode cX5_endNumber 61 = .ok (.aload_n 0, 1) := by decide +kernel
theorem dX5_endNumber_62 : decode cX5_endNumber 62 = .ok (.aload_n 0, 1) := by decide +kernel
theorem dX5_endNumber_63 : decode cX5_endNumber 63 = .ok (.getfield 28, 3) := by decide +kernel
theorem dX5_endNumber_66 : decode cX5_endNumber 66 = .ok (.iconst 1, 1) := by decide +kernel
theorem dX5_endNumber_67 : decode cX5_endNumber 67 = .ok (.isub, 1) := by decide +kernel
theorem dX5_endNumber_68 : decode cX5_endNumber 68 = .ok (.invokevirtual 112, 3) := by decide +kernel
theorem dX5_endNumber_71 : decode cX5_endNumber 71 = .ok (.bipush 48, 2) := by decide +kernel
theorem dX5_endNumber_73 : decode cX5_endNumber 73 = .ok (.isub, 1) := by decide +kernel
theorem dX5_endNumber_74 : decode cX5_endNumber 74 = .ok (.putfield 79, 3) := by decide +kernel
theorem dX5_endNumber_77 : decode cX5_endNumber 77 = .ok (.aload_n 0, 1) := by decide +kernel
theorem dX5_endNumber_78 : decode cX5_endNumber 78 = .ok (.getfield 28, 3) := by decide +kernel
theorem dX5_endNumber_81 : decode cX5_endNumber 81 = .ok (.aload_n 0, 1) := by decide +kernel
theorem dX5_endNumber_82 : decode cX5_endNumber 82 = .ok (.getfield 109, 3) := by decide +kernel
theorem dX5_endNumber_85 : decode cX5_endNumber 85 = .ok (.isub, 1) := by decide +kernel
theorem dX5_endNumber_86 : decode cX5_endNumber 86 = .ok (.iconst 2, 1) := by decide +kernel
theorem dX5_endNumber_87 : decode cX5_endNumber 87 = .ok (.if_icmp .ne 26, 3) := by decide +kernel
theorem dX5_endNumber_90 : decode cX5_endNumber 90 = .ok (.aload_n 0, 1) := by decide +kernel
theorem dX5_endNumber_91 : decode cX5_endNumber 91 = .ok (.dup, 1) := by decide +kernel
theorem dX5_endNumber_92 : decode cX5_endNumber 92 = .ok (.getfield 79, 3) := by decide +kernel
theorem dX5_endNumber_95 : decode cX5_endNumber 95 = .ok (.bipush 10, 2) := by decide +kernel
theorem dX5_endNumber_97 : decode cX5_endNumber 97 = .ok (.aload_n 0, 1) := by decide +kernel
theorem dX5_endNumber_98 : decode cX5_endNumber 98 = .ok (.aload_n 0, 1) := by decide +kernel
theorem dX5_endNumber_99 : decode cX5_endNumber 99 = .ok (.getfield 109, 3) := by decide +kernel
theorem dX5_endNumber_102 : decode cX5_endNumber 102 = .ok (.invokevirtual 112, 3) := by decide +kernel
theorem dX5_endNumber_105 : decode cX5_endNumber 105 = .ok (.bipush 48, 2) := by decide +kernel
theorem dX5_endNumber_107 : decode cX5_endNumber 107 = .ok (.isub, 1) := by decide +kernel
theorem dX5_endNumber_108 : decode cX5_endNumber 108 = .ok (.imul, 1) := by decide +kernel
theorem dX5_endNumber_109 : decode cX5_endNumber 109 = .ok (.iadd, 1) := by decide +kernel
theorem dX5_endNumber_110 : decode cX5_endNumber 110 = .ok (.putfield 79, 3) := by decide +kernel
theorem dX5_endNumber_113 : decode cX5_endNumber 113 = .ok (.return_, 1) := by decide +kernel
theorem dX5_spells_0 : decode cX5_spells 0 = .ok (.aload_n 0, 1) := by decide +kernel
theorem dX5_spells_1 : decode cX5_spells 1 = .ok (.getfield 34, 3) := by decide +kernel
theorem dX5_spells_4 : decode cX5_spells 4 = .ok (.iconst 1, 1) := by decide +kernel
theorem dX5_spells_5 : decode cX5_spells 5 = .ok (.if_icmp .ne 19, 3) := by decide +kernel
theorem dX5_spells_8 : decode cX5_spells 8 = .ok (.aload_n 0, 1) := by decide +kernel
theorem dX5_spells_9 : decode cX5_spells 9 = .ok (.getfield 28, 3) := by decide +kernel
theorem dX5_spells_12 : decode cX5_spells 12 = .ok (.aload_n 0, 1) := by decide +kernel
theorem dX5_spells_13 : decode cX5_spells 13 = .ok (.getfield 109, 3) := by decide +kernel
theorem dX5_spells_16 : decode cX5_spells 16 = .ok (.isub, 1) := by decide +kernel
theorem dX5_spells_17 : decode cX5_spells 17 = .ok (.aload_n 1, 1) := by decide +kernel
theorem dX5_spells_18 : decode cX5_spells 18 = .ok (.invokevirtual 128, 3) := by decide +kernel
theorem dX5_spells_21 : decode cX5_spells 21 = .ok (.if_icmp .eq 5, 3) := by decide +kernel
theorem dX5_spells_24 : decode cX5_spells 24 = .ok (.iconst 0, 1) := by decide +kernel
theorem dX5_spells_25 : decode cX5_spells 25 = .ok (.ireturn, 1) := by decide +kernel
theorem dX5_spells_26 : decode cX5_spells 26 = .ok (.iconst 0, 1) := by decide +kernel
theorem dX5_spells_27 : decode cX5_spells 27 = .ok (.istore_n 2, 1) := by decide +kernel
theorem dX5_spells_28 : decode cX5_spells 28 = .ok (.iload_n 2, 1) := by decide +kernel
theorem dX5_spells_29 : decode cX5_spells 29 = .ok (.aload_n 1, 1) := by decide +kernel
theorem dX5_spells_30 : decode cX5_spells 30 = .ok (.invokevirtual 128, 3) := by decide +kernel
theorem dX5_spells_33 : decode cX5_spells 33 = .ok (.if_icmp .ge 29, 3) := by decide +kernel
theorem dX5_spells_36 : decode cX5_spells 36 = .ok (.aload_n 0, 1) := by decide +kernel
theorem dX5_spells_37 : decode cX5_spells 37 = .ok (.aload_n 0, 1) := by decide +kernel
theorem dX5_spells_38 : decode cX5_spells 38 = .ok (.getfield 109, 3) := by decide +kernel
theorem dX5_spells_41 : decode cX5_spells 41 = .ok (.iload_n 2, 1) := by decide +kernel
theorem dX5_spells_42 : decode cX5_spells 42 = .ok (.iadd, 1) := by decide +kernel
theorem dX5_spells_43 : decode cX5_spells 43 = .ok (.invokevirtual 112, 3) := by decide +kernel
theorem dX5_spells_46 : decode cX5_spells 46 = .ok (.aload_n 1, 1) := by decide +kernel
theorem dX5_spells_47 : decode cX5_spells 47 = .ok (.iload_n 2, 1) := by decide +kernel
theorem dX5_spells_48 : decode cX5_spells 48 = .ok (.invokevirtual 134, 3) := by decide +kernel
theorem dX5_spells_51 : decode cX5_spells 51 = .ok (.if_icmp .eq 5, 3) := by decide +kernel
theorem dX5_spells_54 : decode cX5_spells 54 = .ok (.iconst 0, 1) := by decide +kernel
theorem dX5_spells_55 : decode cX5_spells 55 = .ok (.ireturn, 1) := by decide +kernel
theorem dX5_spells_56 : decode cX5_spells 56 = .ok (.iinc 2 1, 3) := by decide +kernel
theorem dX5_spells_59 : decode cX5_spells 59 = .ok (.goto (-31), 3) := by decide +kernel
theorem dX5_spells_62 : decode cX5_spells 62 = .ok (.iconst 1, 1) := by decide +kernel
theorem dX5_spells_63 : decode cX5_spells 63 = .ok (.ireturn, 1) := by decide +kernel
theorem dX5_byteAt_0 : decode cX5_byteAt 0 = .ok (.iconst 0, 1) := by decide +kernel
theorem dX5_byteAt_1 : decode cX5_byteAt 1 = .ok (.iload_n 1, 1) := by decide +kernel
theorem dX5_byteAt_2 : decode cX5_byteAt 2 = .ok (.if_icmp .gt 27, 3) := by decide +kernel
theorem dX5_byteAt_5 : decode cX5_byteAt 5 = .ok (.iload_n 1, 1) := by decide +kernel
theorem dX5_byteAt_6 : decode cX5_byteAt 6 = .ok (.aload_n 0, 1) := by decide +kernel
theorem dX5_byteAt_7 : decode cX5_byteAt 7 = .ok (.getfield 15, 3) := by decide +kernel
theorem dX5_byteAt_10 : decode cX5_byteAt 10 = .ok (.if_icmp .ge 19, 3) := by decide +kernel
theorem dX5_byteAt_13 : decode cX5_byteAt 13 = .ok (.iload_n 1, 1) := by decide +kernel
theorem dX5_byteAt_14 : decode cX5_byteAt 14 = .ok (.sipush 150, 3) := by decide +kernel
theorem dX5_byteAt_17 : decode cX5_byteAt 17 = .ok (.if_icmp .ge 12, 3) := by decide +kernel
theorem dX5_byteAt_20 : decode cX5_byteAt 20 = .ok (.aload_n 0, 1) := by decide +kernel
theorem dX5_byteAt_21 : decode cX5_byteAt 21 = .ok (.getfield 11, 3) := by decide +kernel
theorem dX5_byteAt_24 : decode cX5_byteAt 24 = .ok (.iload_n 1, 1) := by decide +kernel
theorem dX5_byteAt_25 : decode cX5_byteAt 25 = .ok (.iaload, 1) := by decide +kernel
theorem dX5_byteAt_26 : decode cX5_byteAt 26 = .ok (.goto 4, 3) := by decide +kernel
theorem dX5_byteAt_29 : decode cX5_byteAt 29 = .ok (.iconst (-1), 1) := by decide +kernel
theorem dX5_byteAt_30 : decode cX5_byteAt 30 = .ok (.ireturn, 1) := by decide +kernel
theorem dX5_isLetter_0 : decode cX5_isLetter 0 = .ok (.bipush 97, 2) := by decide +kernel
theorem dX5_isLetter_2 : decode cX5_isLetter 2 = .ok (.iload_n 0, 1) := by decide +kernel
theorem dX5_isLetter_3 : decode cX5_isLetter 3 = .ok (.if_icmp .gt 13, 3) := by decide +kernel
theorem dX5_isLetter_6 : decode cX5_isLetter 6 = .ok (.iload_n 0, 1) := by decide +kernel
theorem dX5_isLetter_7 : decode cX5_isLetter 7 = .ok (.bipush 122, 2) := by decide +kernel
theorem dX5_isLetter_9 : decode cX5_isLetter 9 = .ok (.if_icmp .gt 7, 3) := by decide +kernel
theorem dX5_isLetter_12 : decode cX5_isLetter 12 = .ok (.iconst 1, 1) := by decide +kernel
theorem dX5_isLetter_13 : decode cX5_isLetter 13 = .ok (.goto 4, 3) := by decide +kernel
theorem dX5_isLetter_16 : decode cX5_isLetter 16 = .ok (.iconst 0, 1) := by decide +kernel
theorem dX5_isLetter_17 : decode cX5_isLetter 17 = .ok (.ireturn, 1) := by decide +kernel
theorem dX5_isFigure_0 : decode cX5_isFigure 0 = .ok (.bipush 48, 2) := by decide +kernel
theorem dX5_isFigure_2 : decode cX5_isFigure 2 = .ok (.iload_n 0, 1) := by decide +kernel
theorem dX5_isFigure_3 : decode cX5_isFigure 3 = .ok (.if_icmp .gt 13, 3) := by decide +kernel
theorem dX5_isFigure_6 : decode cX5_isFigure 6 = .ok (.iload_n 0, 1) := by decide +kernel
theorem dX5_isFigure_7 : decode cX5_isFigure 7 = .ok (.bipush 57, 2) := by decide +kernel
theorem dX5_isFigure_9 : decode cX5_isFigure 9 = .ok (.if_icmp .gt 7, 3) := by decide +kernel
theorem dX5_isFigure_12 : decode cX5_isFigure 12 = .ok (.iconst 1, 1) := by decide +kernel
theorem dX5_isFigure_13 : decode cX5_isFigure 13 = .ok (.goto 4, 3) := by decide +kernel
theorem dX5_isFigure_16 : decode cX5_isFigure 16 = .ok (.iconst 0, 1) := by decide +kernel
theorem dX5_isFigure_17 : decode cX5_isFigure 17 = .ok (.ireturn, 1) := by decide +kernel
theorem dX6_init_0 : decode cX6_init 0 = .ok (.aload_n 0, 1) := by decide +kernel
theorem dX6_init_1 : decode cX6_init 1 = .ok (.invokespecial 3, 3) := by decide +kernel
theorem dX6_init_4 : decode cX6_init 4 = .ok (.aload_n 0, 1) := by decide +kernel
theorem dX6_init_5 : decode cX6_init 5 = .ok (.new 9, 3) := by decide +kernel
theorem dX6_init_8 : decode cX6_init 8 = .ok (.dup, 1) := by decide +kernel
theorem dX6_init_9 : decode cX6_init 9 = .ok (.invokespecial 11, 3) := by decide +kernel
theorem dX6_init_12 : decode cX6_init 12 = .ok (.putfield 12, 3) := by decide +kernel
theorem dX6_init_15 : decode cX6_init 15 = .ok (.aload_n 0, 1) := by decide +kernel
theorem dX6_init_16 : decode cX6_init 16 = .ok (.bipush 6, 2) := by decide +kernel
theorem dX6_init_18 : decode cX6_init 18 = .ok (.anewarray 9, 3) := by decide +kernel
theorem dX6_init_21 : decode cX6_init 21 = .ok (.putfield 18, 3) := by decide +kernel
theorem dX6_init_24 : decode cX6_init 24 = .ok (.aload_n 0, 1) := by decide +kernel
theorem dX6_init_25 : decode cX6_init 25 = .ok (.bipush 6, 2) := by decide +kernel
theorem dX6_init_27 : decode cX6_init 27 = .ok (.newarray .int, 2) := by decide +kernel
theorem dX6_init_29 : decode cX6_init 29 = .ok (.putfield 22, 3) := by decide +kernel
theorem dX6_init_32 : decode cX6_init 32 = .ok (.aload_n 0, 1) := by decide +kernel
theorem dX6_init_33 : decode cX6_init 33 = .ok (.bipush 6, 2) := by decide +kernel
theorem dX6_init_35 : decode cX6_init 35 = .ok (.newarray .int, 2) := by decide +kernel
theorem dX6_init_37 : decode cX6_init 37 = .ok (.putfield 26, 3) := by decide +kernel
theorem dX6_init_40 : decode cX6_init 40 = .ok (.aload_n 0, 1) := by decide +kernel
theorem dX6_init_41 : decode cX6_init 41 = .ok (.bipush 36, 2) := by decide +kernel
theorem dX6_init_43 : decode cX6_init 43 = .ok (.newarray .int, 2) := by decide +kernel
theorem dX6_init_45 : decode cX6_init 45 = .ok (.putfield 29, 3) := by decide +kernel
theorem dX6_init_48 : decode cX6_init 48 = .ok (.aload_n 0, 1) := by decide +kernel
theorem dX6_init_49 : decode cX6_init 49 = .ok (.bipush 36, 2) := by decide +kernel
theorem dX6_init_51 : decode cX6_init 51 = .ok (.newarray .int, 2) := by decide +kernel
theorem dX6_init_53 : decode cX6_init 53 = .ok (.putfield 32, 3) := by decide +kernel
theorem dX6_init_56 : decode cX6_init 56 = .ok (.aload_n 0, 1) := by decide +kernel
theorem dX6_init_57 : decode cX6_init 57 = .ok (.bipush 36, 2) := by decide +kernel
theorem dX6_init_59 : decode cX6_init 59 = .ok (.newarray .int, 2) := by decide +kernel
theorem dX6_init_61 : decode cX6_init 61 = .ok (.putfield 35, 3) := by decide +kernel
theorem dX6_init_64 : decode cX6_init 64 = .ok (.iconst 0, 1) := by decide +kernel
theorem dX6_init_65 : decode cX6_init 65 = .ok (.istore_n 1, 1) := by decide +kernel
theorem dX6_init_66 : decode cX6_init 66 = .ok (.iload_n 1, 1) := by decide +kernel
theorem dX6_init_67 : decode cX6_init 67 = .ok (.bipush 6, 2) := by decide +kernel
theorem dX6_init_69 : decode cX6_init 69 = .ok (.if_icmp .ge 22, 3) := by decide +kernel
theorem dX6_init_72 : decode cX6_init 72 = .ok (.aload_n 0, 1) := by decide +kernel
theorem dX6_init_73 : decode cX6_init 73 = .ok (.getfield 18, 3) := by decide +kernel
theorem dX6_init_76 : decode cX6_init 76 = .ok (.iload_n 1, 1) := by decide +kernel
theorem dX6_init_77 : decode cX6_init 77 = .ok (.new 9, 3) := by decide +kernel
theorem dX6_init_80 : decode cX6_init 80 = .ok (.dup, 1) := by decide +kernel
theorem dX6_init_81 : decode cX6_init 81 = .ok (.invokespecial 11, 3) := by decide +kernel
theorem dX6_init_84 : decode cX6_init 84 = .ok (.aastore, 1) := by decide +kernel
theorem dX6_init_85 : decode cX6_init 85 = .ok (.iinc 1 1, 3) := by decide +kernel
theorem dX6_init_88 : decode cX6_init 88 = .ok (.goto (-22), 3) := by decide +kernel
theorem dX6_init_91 : decode cX6_init 91 = .ok (.return_, 1) := by decide +kernel
theorem dX6_fightOn_0 : decode cX6_fightOn 0 = .ok (.aload_n 0, 1) := by decide +kernel
theorem dX6_fightOn_1 : decode cX6_fightOn 1 = .ok (.getfield 12, 3) := by decide +kernel
theorem dX6_fightOn_4 : decode cX6_fightOn 4 = .ok (.aload_n 1, 1) := by decide +kernel
theorem dX6_fightOn_5 : decode cX6_fightOn 5 = .ok (.invokevirtual 38, 3) := by decide +kernel
theorem dX6_fightOn_8 : decode cX6_fightOn 8 = .ok (.aload_n 0, 1) := by decide +kernel
theorem dX6_fightOn_9 : decode cX6_fightOn 9 = .ok (.getfield 12, 3) := by decide +kernel
theorem dX6_fightOn_12 : decode cX6_fightOn 12 = .ok (.iload_n 2, 1) := by decide +kernel
theorem dX6_fightOn_13 : decode cX6_fightOn 13 = .ok (.iload_n 3, 1) := by decide +kernel
theorem dX6_fightOn_14 : decode cX6_fightOn 14 = .ok (.iload 4, 2) := by decide +kernel
theorem dX6_fightOn_16 : decode cX6_fightOn 16 = .ok (.invokestatic 42, 3) := by decide +kernel
theorem dX6_fightOn_19 : decode cX6_fightOn 19 = .ok (.ireturn, 1) := by decide +kernel
theorem dX6_fight_0 : decode cX6_fight 0 = .ok (.iconst 1, 1) := by decide +kernel
theorem dX6_fight_1 : decode cX6_fight 1 = .ok (.istore 4, 2) := by decide +kernel
theorem dX6_fight_3 : decode cX6_fight 3 = .ok (.iload 4, 2) := by decide +kernel
theorem dX6_fight_5 : decode cX6_fight 5 = .ok (.bipush 60, 2) := by decide +kernel
theorem dX6_fight_7 : decode cX6_fight 7 = .ok (.if_icmp .gt 75, 3) := by decide +kernel
theorem dX6_fight_10 : decode cX6_fight 10 = .ok (.iload_n 3, 1) := by decide +kernel
theorem dX6_fight_11 : decode cX6_fight 11 = .ok (.ifCond .eq 14, 3) := by decide +kernel
theorem dX6_fight_14 : decode cX6_fight 14 = .ok (.iload 4, 2) := by decide +kernel
theorem dX6_fight_16 : decode cX6_fight 16 = .ok (.iconst 2, 1) := by decide +kernel
theorem dX6_fight_17 : decode cX6_fight 17 = .ok (.irem, 1) := by decide +kernel
theorem dX6_fight_18 : decode cX6_fight 18 = .ok (.ifCond .ne 7, 3) := by decide +kernel
theorem dX6_fight_21 : decode cX6_fight 21 = .ok (.iconst 1, 1) := by decide +kernel
theorem dX6_fight_22 : decode cX6_fight 22 = .ok (.goto 4, 3) := by decide +kernel
theorem dX6_fight_25 : decode cX6_fight 25 = .ok (.iconst 0, 1) := by decide +kernel
theorem dX6_fight_26 : decode cX6_fight 26 = .ok (.istore 5, 2) := by decide +kernel
theorem dX6_fight_28 : decode cX6_fight 28 = .ok (.iload 5, 2) := by decide +kernel
theorem dX6_fight_30 : decode cX6_fight 30 = .ok (.ifCond .eq 12, 3) := by decide +kernel
theorem dX6_fight_33 : decode cX6_fight 33 = .ok (.aload_n 0, 1) := by decide +kernel
theorem dX6_fight_34 : decode cX6_fight 34 = .ok (.iload_n 2, 1) := by decide +kernel
theorem dX6_fight_35 : decode cX6_fight 35 = .ok (.iload_n 1, 1) := by decide +kernel
theorem dX6_fight_36 : decode cX6_fight 36 = .ok (.invokevirtual 46, 3) := by decide +kernel
theorem dX6_fight_39 : decode cX6_fight 39 = .ok (.goto 9, 3) := by decide +kernel
theorem dX6_fight_42 : decode cX6_fight 42 = .ok (.aload_n 0, 1) := by decide +kernel
theorem dX6_fight_43 : decode cX6_fight 43 = .ok (.iload_n 1, 1) := by decide +kernel
theorem dX6_fight_44 : decode cX6_fight 44 = .ok (.iload_n 2, 1) := by decide +kernel
theorem dX6_fight_45 : decode cX6_fight 45 = .ok (.invokevirtual 46, 3) := by decide +kernel
theorem dX6_fight_48 : decode cX6_fight 48 = .ok (.istore 6, 2) := by decide +kernel
theorem dX6_fight_50 : decode cX6_fight 50 = .ok (.iload 6, 2) := by decide +kernel
theorem dX6_fight_52 : decode cX6_fight 52 = .ok (.ifCond .ne 5, 3) := by decide +kernel
theorem dX6_fight_55 : decode cX6_fight 55 = .ok (.iconst (-1), 1) := by decide +kernel
theorem dX6_fight_56 : decode cX6_fight 56 = .ok (.ireturn, 1) := by decide +kernel
theorem dX6_fight_57 : decode cX6_fight 57 = .ok (.aload_n 0, 1) := by decide +kernel
theorem dX6_fight_58 : decode cX6_fight 58 = .ok (.iload_n 1, 1) := by decide +kernel
theorem dX6_fight_59 : decode cX6_fight 59 = .ok (.invokevirtual 50, 3) := by decide +kernel
theorem dX6_fight_62 : decode cX6_fight 62 = .ok (.ifCond .ne 11, 3) := by decide +kernel
theorem dX6_fight_65 : decode cX6_fight 65 = .ok (.aload_n 0, 1) := by decide +kernel
theorem dX6_fight_66 : decode cX6_fight 66 = .ok (.iload_n 2, 1) := by decide +kernel
theorem dX6_fight_67 : decode cX6_fight 67 = .ok (.invokevirtual 50, 3) := by decide +kernel
theorem dX6_fight_70 : decode cX6_fight 70 = .ok (.ifCond .eq 6, 3) := by decide +kernel
theorem dX6_fight_73 : decode cX6_fight 73 = .ok (.iload 4, 2) := by decide +kernel
theorem dX6_fight_75 : decode cX6_fight 75 = .ok (.ireturn, 1) := by decide +kernel
theorem dX6_fight_76 : decode cX6_fight 76 = .ok (.iinc 4 1, 3) := by decide +kernel
theorem dX6_fight_79 : decode cX6_fight 79 = .ok (.goto (-76), 3) := by decide +kernel
theorem dX6_fight_82 : decode cX6_fight 82 = .ok (.iconst (-1), 1) := by decide +kernel
theorem dX6_fight_83 : decode cX6_fight 83 = .ok (.ireturn, 1) := by decide +kernel
theorem dX6_leastHard_0 : decode cX6_leastHard 0 = .ok (.iconst 0, 1) := by decide +kernel
theorem dX6_leastHard_1 : decode cX6_leastHard 1 = .ok (.istore 4, 2) := by decide +kernel
theorem dX6_leastHard_3 : decode cX6_leastHard 3 = .ok (.iload 4, 2) := by decide +kernel
theorem dX6_leastHard_5 : decode cX6_leastHard 5 = .ok (.bipush 10, 2) := by decide +kernel
theorem dX6_leastHard_7 : decode cX6_leastHard 7 = .ok (.if_icmp .ge 61, 3) := by decide +kernel
theorem dX6_leastHard_10 : decode cX6_leastHard 10 = .ok (.aload_n 0, 1) := by decide +kernel
theorem dX6_leastHard_11 : decode cX6_leastHard 11 = .ok (.getfield 12, 3) := by decide +kernel
theorem dX6_leastHard_14 : decode cX6_leastHard 14 = .ok (.aload_n 1, 1) := by decide +kernel
theorem dX6_leastHard_15 : decode cX6_leastHard 15 = .ok (.invokevirtual 38, 3) := by decide +kernel
theorem dX6_leastHard_18 : decode cX6_leastHard 18 = .ok (.aload_n 0, 1) := by decide +kernel
theorem dX6_leastHard_19 : decode cX6_leastHard 19 = .ok (.getfield 12, 3) := by decide +kernel
theorem dX6_leastHard_22 : decode cX6_leastHard 22 = .ok (.iload_n 2, 1) := by decide +kernel
theorem dX6_leastHard_23 : decode cX6_leastHard 23 = .ok (.iload 4, 2) := by decide +kernel
theorem dX6_leastHard_25 : decode cX6_leastHard 25 = .ok (.invokevirtual 54, 3) := by decide +kernel
theorem dX6_leastHard_28 : decode cX6_leastHard 28 = .ok (.aload_n 0, 1) := by decide +kernel
theorem dX6_leastHard_29 : decode cX6_leastHard 29 = .ok (.getfield 12, 3) := by decide +kernel
theorem dX6_leastHard_32 : decode cX6_leastHard 32 = .ok (.iload_n 2, 1) := by decide +kernel
theorem dX6_leastHard_33 : decode cX6_leastHard 33 = .ok (.iload_n 3, 1) := by decide +kernel
theorem dX6_leastHard_34 : decode cX6_leastHard 34 = .ok (.iconst 1, 1) := by decide +kernel
theorem dX6_leastHard_35 : decode cX6_leastHard 35 = .ok (.invokestatic 42, 3) := by decide +kernel
theorem dX6_leastHard_38 : decode cX6_leastHard 38 = .ok (.istore 5, 2) := by decide +kernel
theorem dX6_leastHard_40 : decode cX6_leastHard 40 = .ok (.iload 5, 2) := by decide +kernel
theorem dX6_leastHard_42 : decode cX6_leastHard 42 = .ok (.iconst (-1), 1) := by decide +kernel
theorem dX6_leastHard_43 : decode cX6_leastHard 43 = .ok (.if_icmp .eq 19, 3) := by decide +kernel
theorem dX6_leastHard_46 : decode cX6_leastHard 46 = .ok (.aload_n 0, 1) := by decide +kernel
theorem dX6_leastHard_47 : decode cX6_leastHard 47 = .ok (.getfield 12, 3) := by decide +kernel
theorem dX6_leastHard_50 : decode cX6_leastHard 50 = .ok (.iload_n 2, 1) := by decide +kernel
theorem dX6_leastHard_51 : decode cX6_leastHard 51 = .ok (.iload_n 3, 1) := by decide +kernel
theorem dX6_leastHard_52 : decode cX6_leastHard 52 = .ok (.invokevirtual 58, 3) := by decide +kernel
theorem dX6_leastHard_55 : decode cX6_leastHard 55 = .ok (.iload_n 2, 1) := by decide +kernel
theorem dX6_leastHard_56 : decode cX6_leastHard 56 = .ok (.if_icmp .ne 6, 3) := by decide +kernel
theorem dX6_leastHard_59 : decode cX6_leastHard 59 = .ok (.iload 4, 2) := by decide +kernel
theorem dX6_leastHard_61 : decode cX6_leastHard 61 = .ok (.ireturn, 1) := by decide +kernel
theorem dX6_leastHard_62 : decode cX6_leastHard 62 = .ok (.iinc 4 1, 3) := by decide +kernel
theorem dX6_leastHard_65 : decode cX6_leastHard 65 = .ok (.goto (-62), 3) := by decide +kernel
theorem dX6_leastHard_68 : decode cX6_leastHard 68 = .ok (.iconst (-1), 1) := by decide +kernel
theorem dX6_leastHard_69 : decode cX6_leastHard 69 = .ok (.ireturn, 1) := by decide +kernel
theorem dX6_bestMatch_0 : decode cX6_bestMatch 0 = .ok (.iconst (-1), 1) := by decide +kernel
theorem dX6_bestMatch_1 : decode cX6_bestMatch 1 = .ok (.istore_n 3, 1) := by decide +kernel
theorem dX6_bestMatch_2 : decode cX6_bestMatch 2 = .ok (.aload_n 0, 1) := by decide +kernel
theorem dX6_bestMatch_3 : decode cX6_bestMatch 3 = .ok (.iconst (-1), 1) := by decide +kernel
theorem dX6_bestMatch_4 : decode cX6_bestMatch 4 = .ok (.putfield 62, 3) := by decide +kernel
theorem dX6_bestMatch_7 : decode cX6_bestMatch 7 = .ok (.iconst 0, 1) := by decide +kernel
theorem dX6_bestMatch_8 : decode cX6_bestMatch 8 = .ok (.istore 4, 2) := by decide +kernel
theorem dX6_bestMatch_10 : decode cX6_bestMatch 10 = .ok (.iload 4, 2) := by decide +kernel
theorem dX6_bestMatch_12 : decode cX6_bestMatch 12 = .ok (.bipush 36, 2) := by decide +kernel
theorem dX6_bestMatch_14 : decode cX6_bestMatch 14 = .ok (.if_icmp .ge 113, 3) := by decide +kernel
theorem dX6_bestMatch_17 : decode cX6_bestMatch 17 = .ok (.iload 4, 2) := by decide +kernel
theorem dX6_bestMatch_19 : decode cX6_bestMatch 19 = .ok (.bipush 6, 2) := by decide +kernel
theorem dX6_bestMatch_21 : decode cX6_bestMatch 21 = .ok (.idiv, 1) := by decide +kernel
theorem dX6_bestMatch_22 : decode cX6_bestMatch 22 = .ok (.istore 5, 2) := by decide +kernel
theorem dX6_bestMatch_24 : decode cX6_bestMatch 24 = .ok (.iload 4, 2) := by decide +kernel
theorem dX6_bestMatch_26 : decode cX6_bestMatch 26 = .ok (.bipush 6, 2) := by decide +kernel
theorem dX6_bestMatch_28 : decode cX6_bestMatch 28 = .ok (.irem, 1) := by decide +kernel
theorem dX6_bestMatch_29 : decode cX6_bestMatch 29 = .ok (.istore 6, 2) := by decide +kernel
theorem dX6_bestMatch_31 : decode cX6_bestMatch 31 = .ok (.aload_n 1, 1) := by decide +kernel
theorem dX6_bestMatch_32 : decode cX6_bestMatch 32 = .ok (.iload 5, 2) := by decide +kernel
theorem dX6_bestMatch_34 : decode cX6_bestMatch 34 = .ok (.iload_n 2, 1) := by decide +kernel
theorem dX6_bestMatch_35 : decode cX6_bestMatch 35 = .ok (.invokevirtual 66, 3) := by decide +kernel
theorem dX6_bestMatch_38 : decode cX6_bestMatch 38 = .ok (.ifCond .eq 83, 3) := by decide +kernel
theorem dX6_bestMatch_41 : decode cX6_bestMatch 41 = .ok (.aload_n 1, 1) := by decide +kernel
theorem dX6_bestMatch_42 : decode cX6_bestMatch 42 = .ok (.iload 5, 2) := by decide +kernel
theorem dX6_bestMatch_44 : decode cX6_bestMatch 44 = .ok (.iload 6, 2) := by decide +kernel
theorem dX6_bestMatch_46 : decode cX6_bestMatch 46 = .ok (.invokevirtual 69, 3) := by decide +kernel
theorem dX6_bestMatch_49 : decode cX6_bestMatch 49 = .ok (.ifCond .ne 6, 3) := by decide +kernel
theorem dX6_bestMatch_52 : decode cX6_bestMatch 52 = .ok (.goto 69, 3) := by decide +kernel
theorem dX6_bestMatch_55 : decode cX6_bestMatch 55 = .ok (.aload_n 0, 1) := by decide +kernel
theorem dX6_bestMatch_56 : decode cX6_bestMatch 56 = .ok (.aload_n 1, 1) := by decide +kernel
theorem dX6_bestMatch_57 : decode cX6_bestMatch 57 = .ok (.iload 5, 2) := by decide +kernel
theorem dX6_bestMatch_59 : decode cX6_bestMatch 59 = .ok (.iload 6, 2) := by decide +kernel
theorem dX6_bestMatch_61 : decode cX6_bestMatch 61 = .ok (.iconst 1, 1) := by decide +kernel
theorem dX6_bestMatch_62 : decode cX6_bestMatch 62 = .ok (.invokevirtual 72, 3) := by decide +kernel
theorem dX6_bestMatch_65 : decode cX6_bestMatch 65 = .ok (.pop, 1) := by decide +kernel
theorem dX6_bestMatch_66 : decode cX6_bestMatch 66 = .ok (.aload_n 0, 1) := by decide +kernel
theorem dX6_bestMatch_67 : decode cX6_bestMatch 67 = .ok (.getfield 12, 3) := by decide +kernel
theorem dX6_bestMatch_70 : decode cX6_bestMatch 70 = .ok (.iload 5, 2) := by decide +kernel
theorem dX6_bestMatch_72 : decode cX6_bestMatch 72 = .ok (.iconst 5, 1) := by decide +kernel
theorem dX6_bestMatch_73 : decode cX6_bestMatch 73 = .ok (.invokevirtual 75, 3) := by decide +kernel
theorem dX6_bestMatch_76 : decode cX6_bestMatch 76 = .ok (.istore 7, 2) := by decide +kernel
theorem dX6_bestMatch_78 : decode cX6_bestMatch 78 = .ok (.aload_n 0, 1) := by decide +kernel
theorem dX6_bestMatch_79 : decode cX6_bestMatch 79 = .ok (.getfield 12, 3) := by decide +kernel
theorem dX6_bestMatch_82 : decode cX6_bestMatch 82 = .ok (.iload 5, 2) := by decide +kernel
theorem dX6_bestMatch_84 : decode cX6_bestMatch 84 = .ok (.iload 6, 2) := by decide +kernel
theorem dX6_bestMatch_86 : decode cX6_bestMatch 86 = .ok (.invokevirtual 58, 3) := by decide +kernel
theorem dX6_bestMatch_89 : decode cX6_bestMatch 89 = .ok (.iload 5, 2) := by decide +kernel
theorem dX6_bestMatch_91 : decode cX6_bestMatch 91 = .ok (.if_icmp .ne 30, 3) := by decide +kernel
theorem dX6_bestMatch_94 : decode cX6_bestMatch 94 = .ok (.iload 7, 2) := by decide +kernel
theorem dX6_bestMatch_96 : decode cX6_bestMatch 96 = .ok (.aload_n 0, 1) := by decide +kernel
theorem dX6_bestMatch_97 : decode cX6_bestMatch 97 = .ok (.getfield 62, 3) := by decide +kernel
theorem dX6_bestMatch_100 : decode cX6_bestMatch 100 = .ok (.if_icmp .gt 6, 3) := by decide +kernel
theorem dX6_bestMatch_103 : decode cX6_bestMatch 103 = .ok (.goto 18, 3) := by decide +kernel
theorem dX6_bestMatch_106 : decode cX6_bestMatch 106 = .ok (.bipush 10, 2) := by decide +kernel
theorem dX6_bestMatch_108 : decode cX6_bestMatch 108 = .ok (.iload 5, 2) := by decide +kernel
theorem dX6_bestMatch_110 : decode cX6_bestMatch 110 = .ok (.imul, 1) := by decide +kernel
theorem dX6_bestMatch_111 : decode cX6_bestMatch 111 = .ok (.iload 6, 2) := by decide +kernel
theorem dX6_bestMatch_113 : decode cX6_bestMatch 113 = .ok (.iadd, 1) := by decide +kernel
theorem dX6_bestMatch_114 : decode cX6_bestMatch 114 = .ok (.istore_n 3, 1) := by decide +kernel
theorem dX6_bestMatch_115 : decode cX6_bestMatch 115 = .ok (.aload_n 0, 1) := by decide +kernel
theorem dX6_bestMatch_116 : decode cX6_bestMatch 116 = .ok (.iload 7, 2) := by decide +kernel
theorem dX6_bestMatch_118 : decode cX6_bestMatch 118 = .ok (.putfield 62, 3) := by decide +kernel
theorem dX6_bestMatch_121 : decode cX6_bestMatch 121 = .ok (.iinc 4 1, 3) := by decide +kernel
theorem dX6_bestMatch_124 : decode cX6_bestMatch 124 = .ok (.goto (-114), 3) := by decide +kernel
theorem dX6_bestMatch_127 : decode cX6_bestMatch 127 = .ok (.iload_n 3, 1) := by decide +kernel
theorem dX6_bestMatch_128 : decode cX6_bestMatch 128 = .ok (.ireturn, 1) := by decide +kernel
theorem dX6_findOrder_0 : decode cX6_findOrder 0 = .ok (.aload_n 0, 1) := by decide +kernel
theorem dX6_findOrder_1 : decode cX6_findOrder 1 = .ok (.iconst (-1), 1) := by decide +kernel
theorem dX6_findOrder_2 : decode cX6_findOrder 2 = .ok (.putfield 62, 3) := by decide +kernel
theorem dX6_findOrder_5 : decode cX6_findOrder 5 = .ok (.aload_n 0, 1) := by decide +kernel
theorem dX6_findOrder_6 : decode cX6_findOrder 6 = .ok (.iconst (-1), 1) := by decide +kernel
theorem dX6_findOrder_7 : decode cX6_findOrder 7 = .ok (.putfield 78, 3) := by decide +kernel
theorem dX6_findOrder_10 : decode cX6_findOrder 10 = .ok (.iconst 0, 1) := by decide +kernel
theorem dX6_findOrder_11 : decode cX6_findOrder 11 = .ok (.istore_n 3, 1) := by decide +kernel
theorem dX6_findOrder_12 : decode cX6_findOrder 12 = .ok (.iload_n 3, 1) := by decide +kernel
theorem dX6_findOrder_13 : decode cX6_findOrder 13 = .ok (.bipush 6, 2) := by decide +kernel
theorem dX6_findOrder_15 : decode cX6_findOrder 15 = .ok (.if_icmp .ge 28, 3) := by decide +kernel
theorem dX6_findOrder_18 : decode cX6_findOrder 18 = .ok (.aload_n 0, 1) := by decide +kernel
theorem dX6_findOrder_19 : decode cX6_findOrder 19 = .ok (.getfield 18, 3) := by decide +kernel
theorem dX6_findOrder_22 : decode cX6_findOrder 22 = .ok (.iload_n 3, 1) := by decide +kernel
theorem dX6_findOrder_23 : decode cX6_findOrder 23 = .ok (.aaload, 1) := by decide +kernel
theorem dX6_findOrder_24 : decode cX6_findOrder 24 = .ok (.astore 4, 2) := by decide +kernel
theorem dX6_findOrder_26 : decode cX6_findOrder 26 = .ok (.aload 4, 2) := by decide +kernel
theorem dX6_findOrder_28 : decode cX6_findOrder 28 = .ok (.ifnull 9, 3) := by decide +kernel
theorem dX6_findOrder_31 : decode cX6_findOrder 31 = .ok (.aload 4, 2) := by decide +kernel
theorem dX6_findOrder_33 : decode cX6_findOrder 33 = .ok (.aload_n 1, 1) := by decide +kernel
theorem dX6_findOrder_34 : decode cX6_findOrder 34 = .ok (.invokevirtual 38, 3) := by decide +kernel
theorem dX6_findOrder_37 : decode cX6_findOrder 37 = .ok (.iinc 3 1, 3) := by decide +kernel
theorem dX6_findOrder_40 : decode cX6_findOrder 40 = .ok (.goto (-28), 3) := by decide +kernel
theorem dX6_findOrder_43 : decode cX6_findOrder 43 = .ok (.aload_n 1, 1) := by decide +kernel
theorem dX6_findOrder_44 : decode cX6_findOrder 44 = .ok (.iload_n 2, 1) := by decide +kernel
theorem dX6_findOrder_45 : decode cX6_findOrder 45 = .ok (.invokevirtual 81, 3) := by decide +kernel
theorem dX6_findOrder_48 : decode cX6_findOrder 48 = .ok (.istore_n 3, 1) := by decide +kernel
theorem dX6_findOrder_49 : decode cX6_findOrder 49 = .ok (.aload_n 0, 1) := by decide +kernel
theorem dX6_findOrder_50 : decode cX6_findOrder 50 = .ok (.iload_n 2, 1) := by decide +kernel
theorem dX6_findOrder_51 : decode cX6_findOrder 51 = .ok (.iload_n 3, 1) := by decide +kernel
theorem dX6_findOrder_52 : decode cX6_findOrder 52 = .ok (.iconst 0, 1) := by decide +kernel
theorem dX6_findOrder_53 : decode cX6_findOrder 53 = .ok (.invokevirtual 85, 3) := by decide +kernel
theorem dX6_findOrder_56 : decode cX6_findOrder 56 = .ok (.iload_n 3, 1) := by decide +kernel
theorem dX6_findOrder_57 : decode cX6_findOrder 57 = .ok (.invokestatic 89, 3) := by decide +kernel
theorem dX6_findOrder_60 : decode cX6_findOrder 60 = .ok (.ireturn, 1) := by decide +kernel
theorem dX6_inOrder_0 : decode cX6_inOrder 0 = .ok (.iload_n 1, 1) := by decide +kernel
theorem dX6_inOrder_1 : decode cX6_inOrder 1 = .ok (.iconst 0, 1) := by decide +kernel
theorem dX6_inOrder_2 : decode cX6_inOrder 2 = .ok (.iconst 5, 1) := by decide +kernel
theorem dX6_inOrder_3 : decode cX6_inOrder 3 = .ok (.invokestatic 94, 3) := by decide +kernel
theorem dX6_inOrder_6 : decode cX6_inOrder 6 = .ok (.ifCond .eq 12, 3) := by decide +kernel
theorem dX6_inOrder_9 : decode cX6_inOrder 9 = .ok (.aload_n 0, 1) := by decide +kernel
theorem dX6_inOrder_10 : decode cX6_inOrder 10 = .ok (.getfield 26, 3) := by decide +kernel
theorem dX6_inOrder_13 : decode cX6_inOrder 13 = .ok (.iload_n 1, 1) := by decide +kernel
theorem dX6_inOrder_14 : decode cX6_inOrder 14 = .ok (.iaload, 1) := by decide +kernel
theorem dX6_inOrder_15 : decode cX6_inOrder 15 = .ok (.goto 4, 3) := by decide +kernel
theorem dX6_inOrder_18 : decode cX6_inOrder 18 = .ok (.iconst (-1), 1) := by decide +kernel
theorem dX6_inOrder_19 : decode cX6_inOrder 19 = .ok (.ireturn, 1) := by decide +kernel
theorem dX6_meetRest_0 : decode cX6_meetRest 0 = .ok (.iload_n 3, 1) := by decide +kernel
theorem dX6_meetRest_1 : decode cX6_meetRest 1 = .ok (.iconst 0, 1) := by decide +kernel
theorem dX6_meetRest_2 : decode cX6_meetRest 2 = .ok (.iconst 5, 1) := by decide +kernel
theorem dX6_meetRest_3 : decode cX6_meetRest 3 = .ok (.invokestatic 94, 3) := by decide +kernel
theorem dX6_meetRest_6 : decode cX6_meetRest 6 = .ok (.ifCond .ne 4, 3) := by decide +kernel
theorem dX6_meetRest_9 : decode cX6_meetRest 9 = .ok (.return_, 1) := by decide +kernel
theorem dX6_meetRest_10 : decode cX6_meetRest 10 = .ok (.aload_n 0, 1) := by decide +kernel
theorem dX6_meetRest_11 : decode cX6_meetRest 11 = .ok (.getfield 18, 3) := by decide +kernel
theorem dX6_meetRest_14 : decode cX6_meetRest 14 = .ok (.iload_n 3, 1) := by decide +kernel
theorem dX6_meetRest_15 : decode cX6_meetRest 15 = .ok (.aaload, 1) := by decide +kernel
theorem dX6_meetRest_16 : decode cX6_meetRest 16 = .ok (.astore 4, 2) := by decide +kernel
theorem dX6_meetRest_18 : decode cX6_meetRest 18 = .ok (.aload 4, 2) := by decide +kernel
theorem dX6_meetRest_20 : decode cX6_meetRest 20 = .ok (.ifnonnull 4, 3) := by decide +kernel
theorem dX6_meetRest_23 : decode cX6_meetRest 23 = .ok (.return_, 1) := by decide +kernel
theorem dX6_meetRest_24 : decode cX6_meetRest 24 = .ok (.iload_n 2, 1) := by decide +kernel
theorem dX6_meetRest_25 : decode cX6_meetRest 25 = .ok (.ifCond .ne 22, 3) := by decide +kernel
theorem dX6_meetRest_28 : decode cX6_meetRest 28 = .ok (.aload_n 0, 1) := by decide +kernel
theorem dX6_meetRest_29 : decode cX6_meetRest 29 = .ok (.aload 4, 2) := by decide +kernel
theorem dX6_meetRest_31 : decode cX6_meetRest 31 = .ok (.iload_n 1, 1) := by decide +kernel
theorem dX6_meetRest_32 : decode cX6_meetRest 32 = .ok (.iconst 5, 1) := by decide +kernel
theorem dX6_meetRest_33 : decode cX6_meetRest 33 = .ok (.invokevirtual 75, 3) := by decide +kernel
theorem dX6_meetRest_36 : decode cX6_meetRest 36 = .ok (.aload 4, 2) := by decide +kernel
theorem dX6_meetRest_38 : decode cX6_meetRest 38 = .ok (.iload_n 1, 1) := by decide +kernel
theorem dX6_meetRest_39 : decode cX6_meetRest 39 = .ok (.iconst 4, 1) := by decide +kernel
theorem dX6_meetRest_40 : decode cX6_meetRest 40 = .ok (.invokevirtual 75, 3) := by decide +kernel
theorem dX6_meetRest_43 : decode cX6_meetRest 43 = .ok (.invokevirtual 98, 3) := by decide +kernel
theorem dX6_meetRest_46 : decode cX6_meetRest 46 = .ok (.return_, 1) := by decide +kernel
theorem dX6_meetRest_47 : decode cX6_meetRest 47 = .ok (.iload_n 3, 1) := by decide +kernel
theorem dX6_meetRest_48 : decode cX6_meetRest 48 = .ok (.iconst 1, 1) := by decide +kernel
theorem dX6_meetRest_49 : decode cX6_meetRest 49 = .ok (.iadd, 1) := by decide +kernel
theorem dX6_meetRest_50 : decode cX6_meetRest 50 = .ok (.bipush 6, 2) := by decide +kernel
theorem dX6_meetRest_52 : decode cX6_meetRest 52 = .ok (.if_icmp .ge 14, 3) := by decide +kernel
theorem dX6_meetRest_55 : decode cX6_meetRest 55 = .ok (.aload_n 0, 1) := by decide +kernel
theorem dX6_meetRest_56 : decode cX6_meetRest 56 = .ok (.getfield 18, 3) := by decide +kernel
theorem dX6_meetRest_59 : decode cX6_meetRest 59 = .ok (.iload_n 3, 1) := by decide +kernel
theorem dX6_meetRest_60 : decode cX6_meetRest 60 = .ok (.iconst 1, 1) := by decide +kernel
theorem dX6_meetRest_61 : decode cX6_meetRest 61 = .ok (.iadd, 1) := by decide +kernel
theorem dX6_meetRest_62 : decode cX6_meetRest 62 = .ok (.aaload, 1) := by decide +kernel
theorem dX6_meetRest_63 : decode cX6_meetRest 63 = .ok (.goto 4, 3) := by decide +kernel
theorem dX6_meetRest_66 : decode cX6_meetRest 66 = .ok (.aconst_null, 1) := by decide +kernel
theorem dX6_meetRest_67 : decode cX6_meetRest 67 = .ok (.astore 5, 2) := by decide +kernel
theorem dX6_meetRest_69 : decode cX6_meetRest 69 = .ok (.aload 5, 2) := by decide +kernel
theorem dX6_meetRest_71 : decode cX6_meetRest 71 = .ok (.ifnonnull 4, 3) := by decide +kernel
theorem dX6_meetRest_74 : decode cX6_meetRest 74 = .ok (.return_, 1) := by decide +kernel
theorem dX6_meetRest_75 : decode cX6_meetRest 75 = .ok (.iconst 0, 1) := by decide +kernel
theorem dX6_meetRest_76 : decode cX6_meetRest 76 = .ok (.istore 6, 2) := by decide +kernel
theorem dX6_meetRest_78 : decode cX6_meetRest 78 = .ok (.iload 6, 2) := by decide +kernel
theorem dX6_meetRest_80 : decode cX6_meetRest 80 = .ok (.bipush 6, 2) := by decide +kernel
theorem dX6_meetRest_82 : decode cX6_meetRest 82 = .ok (.if_icmp .ge 62, 3) := by decide +kernel
theorem dX6_meetRest_85 : decode cX6_meetRest 85 = .ok (.iload_n 2, 1) := by decide +kernel
theorem dX6_meetRest_86 : decode cX6_meetRest 86 = .ok (.iload 6, 2) := by decide +kernel
theorem dX6_meetRest_88 : decode cX6_meetRest 88 = .ok (.invokestatic 101, 3) := by decide +kernel
theorem dX6_meetRest_91 : decode cX6_meetRest 91 = .ok (.ifCond .ne 6, 3) := by decide +kernel
theorem dX6_meetRest_94 : decode cX6_meetRest 94 = .ok (.goto 44, 3) := by decide +kernel
theorem dX6_meetRest_97 : decode cX6_meetRest 97 = .ok (.aload_n 0, 1) := by decide +kernel
theorem dX6_meetRest_98 : decode cX6_meetRest 98 = .ok (.getfield 22, 3) := by decide +kernel
theorem dX6_meetRest_101 : decode cX6_meetRest 101 = .ok (.iload_n 3, 1) := by decide +kernel
theorem dX6_meetRest_102 : decode cX6_meetRest 102 = .ok (.iload 6, 2) := by decide +kernel
theorem dX6_meetRest_104 : decode cX6_meetRest 104 = .ok (.iastore, 1) := by decide +kernel
theorem dX6_meetRest_105 : decode cX6_meetRest 105 = .ok (.aload 5, 2) := by decide +kernel
theorem dX6_meetRest_107 : decode cX6_meetRest 107 = .ok (.aload 4, 2) := by decide +kernel
theorem dX6_meetRest_109 : decode cX6_meetRest 109 = .ok (.invokevirtual 104, 3) := by decide +kernel
theorem dX6_meetRest_112 : decode cX6_meetRest 112 = .ok (.aload 5, 2) := by decide +kernel
theorem dX6_meetRest_114 : decode cX6_meetRest 114 = .ok (.iload_n 1, 1) := by decide +kernel
theorem dX6_meetRest_115 : decode cX6_meetRest 115 = .ok (.iload 6, 2) := by decide +kernel
theorem dX6_meetRest_117 : decode cX6_meetRest 117 = .ok (.iconst 1, 1) := by decide +kernel
theorem dX6_meetRest_118 : decode cX6_meetRest 118 = .ok (.invokestatic 42, 3) := by decide +kernel
theorem dX6_meetRest_121 : decode cX6_meetRest 121 = .ok (.pop, 1) := by decide +kernel
theorem dX6_meetRest_122 : decode cX6_meetRest 122 = .ok (.aload_n 0, 1) := by decide +kernel
theorem dX6_meetRest_123 : decode cX6_meetRest 123 = .ok (.iload_n 1, 1) := by decide +kernel
theorem dX6_meetRest_124 : decode cX6_meetRest 124 = .ok (.iload_n 2, 1) := by decide +kernel
theorem dX6_meetRest_125 : decode cX6_meetRest 125 = .ok (.iconst 1, 1) := by decide +kernel
theorem dX6_meetRest_126 : decode cX6_meetRest 126 = .ok (.iload 6, 2) := by decide +kernel
theorem dX6_meetRest_128 : decode cX6_meetRest 128 = .ok (.ishl, 1) := by decide +kernel
theorem dX6_meetRest_129 : decode cX6_meetRest 129 = .ok (.iconst (-1), 1) := by decide +kernel
theorem dX6_meetRest_130 : decode cX6_meetRest 130 = .ok (.ixor, 1) := by decide +kernel
theorem dX6_meetRest_131 : decode cX6_meetRest 131 = .ok (.iand, 1) := by decide +kernel
theorem dX6_meetRest_132 : decode cX6_meetRest 132 = .ok (.iload_n 3, 1) := by decide +kernel
theorem dX6_meetRest_133 : decode cX6_meetRest 133 = .ok (.iconst 1, 1) := by decide +kernel
theorem dX6_meetRest_134 : decode cX6_meetRest 134 = .ok (.iadd, 1) := by decide +kernel
theorem dX6_meetRest_135 : decode cX6_meetRest 135 = .ok (.invokevirtual 85, 3) := by decide +kernel
theorem dX6_meetRest_138 : decode cX6_meetRest 138 = .ok (.iinc 6 1, 3) := by decide +kernel
theorem dX6_meetRest_141 : decode cX6_meetRest 141 = .ok (.goto (-63), 3) := by decide +kernel
theorem dX6_meetRest_144 : decode cX6_meetRest 144 = .ok (.return_, 1) := by decide +kernel
theorem dX6_keepIfBetter_0 : decode cX6_keepIfBetter 0 = .ok (.iload_n 1, 1) := by decide +kernel
theorem dX6_keepIfBetter_1 : decode cX6_keepIfBetter 1 = .ok (.aload_n 0, 1) := by decide +kernel
theorem dX6_keepIfBetter_2 : decode cX6_keepIfBetter 2 = .ok (.getfield 62, 3) := by decide +kernel
theorem dX6_keepIfBetter_5 : decode cX6_keepIfBetter 5 = .ok (.if_icmp .lt 19, 3) := by decide +kernel
theorem dX6_keepIfBetter_8 : decode cX6_keepIfBetter 8 = .ok (.iload_n 1, 1) := by decide +kernel
theorem dX6_keepIfBetter_9 : decode cX6_keepIfBetter 9 = .ok (.aload_n 0, 1) := by decide +kernel
theorem dX6_keepIfBetter_10 : decode cX6_keepIfBetter 10 = .ok (.getfield 62, 3) := by decide +kernel
theorem dX6_keepIfBetter_13 : decode cX6_keepIfBetter 13 = .ok (.if_icmp .ne 12, 3) := by decide +kernel
theorem dX6_keepIfBetter_16 : decode cX6_keepIfBetter 16 = .ok (.iload_n 2, 1) := by decide +kernel
theorem dX6_keepIfBetter_17 : decode cX6_keepIfBetter 17 = .ok (.aload_n 0, 1) := by decide +kernel
theorem dX6_keepIfBetter_18 : decode cX6_keepIfBetter 18 = .ok (.getfield 78, 3) := by decide +kernel
theorem dX6_keepIfBetter_21 : decode cX6_keepIfBetter 21 = .ok (.if_icmp .lt 4, 3) := by decide +kernel
theorem dX6_keepIfBetter_24 : decode cX6_keepIfBetter 24 = .ok (.return_, 1) := by decide +kernel
theorem dX6_keepIfBetter_25 : decode cX6_keepIfBetter 25 = .ok (.aload_n 0, 1) := by decide +kernel
theorem dX6_keepIfBetter_26 : decode cX6_keepIfBetter 26 = .ok (.iload_n 1, 1) := by decide +kernel
theorem dX6_keepIfBetter_27 : decode cX6_keepIfBetter 27 = .ok (.putfield 62, 3) := by decide +kernel
theorem dX6_keepIfBetter_30 : decode cX6_keepIfBetter 30 = .ok (.aload_n 0, 1) := by decide +kernel
theorem dX6_keepIfBetter_31 : decode cX6_keepIfBetter 31 = .ok (.iload_n 2, 1) := by decide +kernel
theorem dX6_keepIfBetter_32 : decode cX6_keepIfBetter 32 = .ok (.putfield 78, 3) := by decide +kernel
theorem dX6_keepIfBetter_35 : decode cX6_keepIfBetter 35 = .ok (.aload_n 0, 1) := by decide +kernel
theorem dX6_keepIfBetter_36 : decode cX6_keepIfBetter 36 = .ok (.getfield 22, 3) := by decide +kernel
theorem dX6_keepIfBetter_39 : decode cX6_keepIfBetter 39 = .ok (.iconst 0, 1) := by decide +kernel
theorem dX6_keepIfBetter_40 : decode cX6_keepIfBetter 40 = .ok (.aload_n 0, 1) := by decide +kernel
theorem dX6_keepIfBetter_41 : decode cX6_keepIfBetter 41 = .ok (.getfield 26, 3) := by decide +kernel
theorem dX6_keepIfBetter_44 : decode cX6_keepIfBetter 44 = .ok (.iconst 0, 1) := by decide +kernel
theorem dX6_keepIfBetter_45 : decode cX6_keepIfBetter 45 = .ok (.bipush 6, 2) := by decide +kernel
theorem dX6_keepIfBetter_47 : decode cX6_keepIfBetter 47 = .ok (.invokestatic 107, 3) := by decide +kernel
theorem dX6_keepIfBetter_50 : decode cX6_keepIfBetter 50 = .ok (.return_, 1) := by decide +kernel
theorem dX6_findResting_0 : decode cX6_findResting 0 = .ok (.iconst 0, 1) := by decide +kernel
theorem dX6_findResting_1 : decode cX6_findResting 1 = .ok (.istore 4, 2) := by decide +kernel
theorem dX6_findResting_3 : decode cX6_findResting 3 = .ok (.iload 4, 2) := by decide +kernel
theorem dX6_findResting_5 : decode cX6_findResting 5 = .ok (.bipush 36, 2) := by decide +kernel
theorem dX6_findResting_7 : decode cX6_findResting 7 = .ok (.if_icmp .ge 27, 3) := by decide +kernel
theorem dX6_findResting_10 : decode cX6_findResting 10 = .ok (.aload_n 1, 1) := by decide +kernel
theorem dX6_findResting_11 : decode cX6_findResting 11 = .ok (.iload_n 2, 1) := by decide +kernel
theorem dX6_findResting_12 : decode cX6_findResting 12 = .ok (.iload_n 3, 1) := by decide +kernel
theorem dX6_findResting_13 : decode cX6_findResting 13 = .ok (.iload 4, 2) := by decide +kernel
theorem dX6_findResting_15 : decode cX6_findResting 15 = .ok (.invokestatic 113, 3) := by decide +kernel
theorem dX6_findResting_18 : decode cX6_findResting 18 = .ok (.ifCond .eq 10, 3) := by decide +kernel
theorem dX6_findResting_21 : decode cX6_findResting 21 = .ok (.aload_n 0, 1) := by decide +kernel
theorem dX6_findResting_22 : decode cX6_findResting 22 = .ok (.aload_n 1, 1) := by decide +kernel
theorem dX6_findResting_23 : decode cX6_findResting 23 = .ok (.iload 4, 2) := by decide +kernel
theorem dX6_findResting_25 : decode cX6_findResting 25 = .ok (.invokevirtual 117, 3) := by decide +kernel
theorem dX6_findResting_28 : decode cX6_findResting 28 = .ok (.iinc 4 1, 3) := by decide +kernel
theorem dX6_findResting_31 : decode cX6_findResting 31 = .ok (.goto (-28), 3) := by decide +kernel
theorem dX6_findResting_34 : decode cX6_findResting 34 = .ok (.iconst 0, 1) := by decide +kernel
theorem dX6_findResting_35 : decode cX6_findResting 35 = .ok (.istore 4, 2) := by decide +kernel
theorem dX6_findResting_37 : decode cX6_findResting 37 = .ok (.iconst 0, 1) := by decide +kernel
theorem dX6_findResting_38 : decode cX6_findResting 38 = .ok (.istore 5, 2) := by decide +kernel
theorem dX6_findResting_40 : decode cX6_findResting 40 = .ok (.iload 5, 2) := by decide +kernel
theorem dX6_findResting_42 : decode cX6_findResting 42 = .ok (.bipush 36, 2) := by decide +kernel
theorem dX6_findResting_44 : decode cX6_findResting 44 = .ok (.if_icmp .ge 66, 3) := by decide +kernel
theorem dX6_findResting_47 : decode cX6_findResting 47 = .ok (.aload_n 1, 1) := by decide +kernel
theorem dX6_findResting_48 : decode cX6_findResting 48 = .ok (.iload_n 2, 1) := by decide +kernel
theorem dX6_findResting_49 : decode cX6_findResting 49 = .ok (.iload_n 3, 1) := by decide +kernel
theorem dX6_findResting_50 : decode cX6_findResting 50 = .ok (.iload 5, 2) := by decide +kernel
theorem dX6_findResting_52 : decode cX6_findResting 52 = .ok (.invokestatic 113, 3) := by decide +kernel
theorem dX6_findResting_55 : decode cX6_findResting 55 = .ok (.ifCond .eq 49, 3) := by decide +kernel
theorem dX6_findResting_58 : decode cX6_findResting 58 = .ok (.aload_n 0, 1) := by decide +kernel
theorem dX6_findResting_59 : decode cX6_findResting 59 = .ok (.aload_n 1, 1) := by decide +kernel
theorem dX6_findResting_60 : decode cX6_findResting 60 = .ok (.iload_n 2, 1) := by decide +kernel
theorem dX6_findResting_61 : decode cX6_findResting 61 = .ok (.iload_n 3, 1) := by decide +kernel
theorem dX6_findResting_62 : decode cX6_findResting 62 = .ok (.iload 5, 2) := by decide +kernel
theorem dX6_findResting_64 : decode cX6_findResting 64 = .ok (.invokevirtual 121, 3) := by decide +kernel
theorem dX6_findResting_67 : decode cX6_findResting 67 = .ok (.ifCond .ne 6, 3) := by decide +kernel
theorem dX6_findResting_70 : decode cX6_findResting 70 = .ok (.goto 34, 3) := by decide +kernel
theorem dX6_findResting_73 : decode cX6_findResting 73 = .ok (.iload 4, 2) := by decide +kernel
theorem dX6_findResting_75 : decode cX6_findResting 75 = .ok (.bipush 36, 2) := by decide +kernel
theorem dX6_findResting_77 : decode cX6_findResting 77 = .ok (.if_icmp .ge 27, 3) := by decide +kernel
theorem dX6_findResting_80 : decode cX6_findResting 80 = .ok (.aload_n 0, 1) := by decide +kernel
theorem dX6_findResting_81 : decode cX6_findResting 81 = .ok (.getfield 35, 3) := by decide +kernel
theorem dX6_findResting_84 : decode cX6_findResting 84 = .ok (.iload 4, 2) := by decide +kernel
theorem dX6_findResting_86 : decode cX6_findResting 86 = .ok (.iinc 4 1, 3) := by decide +kernel
theorem dX6_findResting_89 : decode cX6_findResting 89 = .ok (.bipush 10, 2) := by decide +kernel
theorem dX6_findResting_91 : decode cX6_findResting 91 = .ok (.iload 5, 2) := by decide +kernel
theorem dX6_findResting_93 : decode cX6_findResting 93 = .ok (.bipush 6, 2) := by decide +kernel
theorem dX6_findResting_95 : decode cX6_findResting 95 = .ok (.idiv, 1) := by decide +kernel
theorem dX6_findResting_96 : decode cX6_findResting 96 = .ok (.imul, 1) := by decide +kernel
theorem dX6_findResting_97 : decode cX6_findResting 97 = .ok (.iload 5, 2) := by decide +kernel
theorem dX6_findResting_99 : decode cX6_findResting 99 = .ok (.bipush 6, 2) := by decide +kernel
theorem dX6_findResting_101 : decode cX6_findResting 101 = .ok (.irem, 1) := by decide +kernel
theorem dX6_findResting_102 : decode cX6_findResting 102 = .ok (.iadd, 1) := by decide +kernel
theorem dX6_findResting_103 : decode cX6_findResting 103 = .ok (.iastore, 1) := by decide +kernel
theorem dX6_findResting_104 : decode cX6_findResting 104 = .ok (.iinc 5 1, 3) := by decide +kernel
theorem dX6_findResting_107 : decode cX6_findResting 107 = .ok (.goto (-67), 3) := by decide +kernel
theorem dX6_findResting_110 : decode cX6_findResting 110 = .ok (.iload 4, 2) := by decide +kernel
theorem dX6_findResting_112 : decode cX6_findResting 112 = .ok (.ireturn, 1) := by decide +kernel
theorem dX6_restingPair_0 : decode cX6_restingPair 0 = .ok (.iload_n 1, 1) := by decide +kernel
theorem dX6_restingPair_1 : decode cX6_restingPair 1 = .ok (.iconst 0, 1) := by decide +kernel
theorem dX6_restingPair_2 : decode cX6_restingPair 2 = .ok (.bipush 35, 2) := by decide +kernel
theorem dX6_restingPair_4 : decode cX6_restingPair 4 = .ok (.invokestatic 94, 3) := by decide +kernel
theorem dX6_restingPair_7 : decode cX6_restingPair 7 = .ok (.ifCond .eq 12, 3) := by decide +kernel
theorem dX6_restingPair_10 : decode cX6_restingPair 10 = .ok (.aload_n 0, 1) := by decide +kernel
theorem dX6_restingPair_11 : decode cX6_restingPair 11 = .ok (.getfield 35, 3) := by decide +kernel
theorem dX6_restingPair_14 : decode cX6_restingPair 14 = .ok (.iload_n 1, 1) := by decide +kernel
theorem dX6_restingPair_15 : decode cX6_restingPair 15 = .ok (.iaload, 1) := by decide +kernel
theorem dX6_restingPair_16 : decode cX6_restingPair 16 = .ok (.goto 4, 3) := by decide +kernel
theorem dX6_restingPair_19 : decode cX6_restingPair 19 = .ok (.iconst (-1), 1) := by decide +kernel
theorem dX6_restingPair_20 : decode cX6_restingPair 20 = .ok (.ireturn, 1) := by decide +kernel
theorem dX6_isChoice_0 : decode cX6_isChoice 0 = .ok (.aload_n 0, 1) := by decide +kernel
theorem dX6_isChoice_1 : decode cX6_isChoice 1 = .ok (.iload_n 3, 1) := by decide +kernel
theorem dX6_isChoice_2 : decode cX6_isChoice 2 = .ok (.bipush 6, 2) := by decide +kernel
theorem dX6_isChoice_4 : decode cX6_isChoice 4 = .ok (.idiv, 1) := by decide +kernel
theorem dX6_isChoice_5 : decode cX6_isChoice 5 = .ok (.iload_n 1, 1) := by decide +kernel
theorem dX6_isChoice_6 : decode cX6_isChoice 6 = .ok (.invokevirtual 66, 3) := by decide +kernel
theorem dX6_isChoice_9 : decode cX6_isChoice 9 = .ok (.ifCond .eq 19, 3) := by decide +kernel
theorem dX6_isChoice_12 : decode cX6_isChoice 12 = .ok (.aload_n 0, 1) := by decide +kernel
theorem dX6_isChoice_13 : decode cX6_isChoice 13 = .ok (.iload_n 3, 1) := by decide +kernel
theorem dX6_isChoice_14 : decode cX6_isChoice 14 = .ok (.bipush 6, 2) := by decide +kernel
theorem dX6_isChoice_16 : decode cX6_isChoice 16 = .ok (.irem, 1) := by decide +kernel
theorem dX6_isChoice_17 : decode cX6_isChoice 17 = .ok (.iload_n 2, 1) := by decide +kernel
theorem dX6_isChoice_18 : decode cX6_isChoice 18 = .ok (.invokevirtual 66, 3) := by decide +kernel
theorem dX6_isChoice_21 : decode cX6_isChoice 21 = .ok (.ifCond .eq 7, 3) := by decide +kernel
theorem dX6_isChoice_24 : decode cX6_isChoice 24 = .ok (.iconst 1, 1) := by decide +kernel
theorem dX6_isChoice_25 : decode cX6_isChoice 25 = .ok (.goto 4, 3) := by decide +kernel
theorem dX6_isChoice_28 : decode cX6_isChoice 28 = .ok (.iconst 0, 1) := by decide +kernel
theorem dX6_isChoice_29 : decode cX6_isChoice 29 = .ok (.ireturn, 1) := by decide +kernel
theorem dX6_weigh_0 : decode cX6_weigh 0 = .ok (.iload_n 2, 1) := by decide +kernel
theorem dX6_weigh_1 : decode cX6_weigh 1 = .ok (.iconst 0, 1) := by decide +kernel
theorem dX6_weigh_2 : decode cX6_weigh 2 = .ok (.bipush 35, 2) := by decide +kernel
theorem dX6_weigh_4 : decode cX6_weigh 4 = .ok (.invokestatic 94, 3) := by decide +kernel
theorem dX6_weigh_7 : decode cX6_weigh 7 = .ok (.ifCond .ne 4, 3) := by decide +kernel
theorem dX6_weigh_10 : decode cX6_weigh 10 = .ok (.return_, 1) := by decide +kernel
theorem dX6_weigh_11 : decode cX6_weigh 11 = .ok (.iload_n 2, 1) := by decide +kernel
theorem dX6_weigh_12 : decode cX6_weigh 12 = .ok (.bipush 6, 2) := by decide +kernel
theorem dX6_weigh_14 : decode cX6_weigh 14 = .ok (.idiv, 1) := by decide +kernel
theorem dX6_weigh_15 : decode cX6_weigh 15 = .ok (.istore_n 3, 1) := by decide +kernel
theorem dX6_weigh_16 : decode cX6_weigh 16 = .ok (.iload_n 2, 1) := by decide +kernel
theorem dX6_weigh_17 : decode cX6_weigh 17 = .ok (.bipush 6, 2) := by decide +kernel
theorem dX6_weigh_19 : decode cX6_weigh 19 = .ok (.irem, 1) := by decide +kernel
theorem dX6_weigh_20 : decode cX6_weigh 20 = .ok (.istore 4, 2) := by decide +kernel
theorem dX6_weigh_22 : decode cX6_weigh 22 = .ok (.aload_n 0, 1) := by decide +kernel
theorem dX6_weigh_23 : decode cX6_weigh 23 = .ok (.getfield 12, 3) := by decide +kernel
theorem dX6_weigh_26 : decode cX6_weigh 26 = .ok (.aload_n 1, 1) := by decide +kernel
theorem dX6_weigh_27 : decode cX6_weigh 27 = .ok (.invokevirtual 38, 3) := by decide +kernel
theorem dX6_weigh_30 : decode cX6_weigh 30 = .ok (.aload_n 0, 1) := by decide +kernel
theorem dX6_weigh_31 : decode cX6_weigh 31 = .ok (.getfield 12, 3) := by decide +kernel
theorem dX6_weigh_34 : decode cX6_weigh 34 = .ok (.iload_n 3, 1) := by decide +kernel
theorem dX6_weigh_35 : decode cX6_weigh 35 = .ok (.iload 4, 2) := by decide +kernel
theorem dX6_weigh_37 : decode cX6_weigh 37 = .ok (.iconst 1, 1) := by decide +kernel
theorem dX6_weigh_38 : decode cX6_weigh 38 = .ok (.invokestatic 42, 3) := by decide +kernel
theorem dX6_weigh_41 : decode cX6_weigh 41 = .ok (.pop, 1) := by decide +kernel
theorem dX6_weigh_42 : decode cX6_weigh 42 = .ok (.aload_n 0, 1) := by decide +kernel
theorem dX6_weigh_43 : decode cX6_weigh 43 = .ok (.getfield 29, 3) := by decide +kernel
theorem dX6_weigh_46 : decode cX6_weigh 46 = .ok (.iload_n 2, 1) := by decide +kernel
theorem dX6_weigh_47 : decode cX6_weigh 47 = .ok (.aload_n 0, 1) := by decide +kernel
theorem dX6_weigh_48 : decode cX6_weigh 48 = .ok (.aload_n 1, 1) := by decide +kernel
theorem dX6_weigh_49 : decode cX6_weigh 49 = .ok (.iload_n 3, 1) := by decide +kernel
theorem dX6_weigh_50 : decode cX6_weigh 50 = .ok (.invokevirtual 124, 3) := by decide +kernel
theorem dX6_weigh_53 : decode cX6_weigh 53 = .ok (.iastore, 1) := by decide +kernel
theorem dX6_weigh_54 : decode cX6_weigh 54 = .ok (.aload_n 0, 1) := by decide +kernel
theorem dX6_weigh_55 : decode cX6_weigh 55 = .ok (.getfield 32, 3) := by decide +kernel
theorem dX6_weigh_58 : decode cX6_weigh 58 = .ok (.iload_n 2, 1) := by decide +kernel
theorem dX6_weigh_59 : decode cX6_weigh 59 = .ok (.aload_n 0, 1) := by decide +kernel
theorem dX6_weigh_60 : decode cX6_weigh 60 = .ok (.aload_n 1, 1) := by decide +kernel
theorem dX6_weigh_61 : decode cX6_weigh 61 = .ok (.iload 4, 2) := by decide +kernel
theorem dX6_weigh_63 : decode cX6_weigh 63 = .ok (.invokevirtual 124, 3) := by decide +kernel
theorem dX6_weigh_66 : decode cX6_weigh 66 = .ok (.iastore, 1) := by decide +kernel
theorem dX6_weigh_67 : decode cX6_weigh 67 = .ok (.return_, 1) := by decide +kernel
theorem dX6_getsBy_0 : decode cX6_getsBy 0 = .ok (.aload_n 0, 1) := by decide +kernel
theorem dX6_getsBy_1 : decode cX6_getsBy 1 = .ok (.getfield 12, 3) := by decide +kernel
theorem dX6_getsBy_4 : decode cX6_getsBy 4 = .ok (.iload_n 2, 1) := by decide +kernel
theorem dX6_getsBy_5 : decode cX6_getsBy 5 = .ok (.iconst 5, 1) := by decide +kernel
theorem dX6_getsBy_6 : decode cX6_getsBy 6 = .ok (.invokevirtual 75, 3) := by decide +kernel
theorem dX6_getsBy_9 : decode cX6_getsBy 9 = .ok (.aload_n 1, 1) := by decide +kernel
theorem dX6_getsBy_10 : decode cX6_getsBy 10 = .ok (.iload_n 2, 1) := by decide +kernel
theorem dX6_getsBy_11 : decode cX6_getsBy 11 = .ok (.iconst 5, 1) := by decide +kernel
theorem dX6_getsBy_12 : decode cX6_getsBy 12 = .ok (.invokevirtual 75, 3) := by decide +kernel
theorem dX6_getsBy_15 : decode cX6_getsBy 15 = .ok (.isub, 1) := by decide +kernel
theorem dX6_getsBy_16 : decode cX6_getsBy 16 = .ok (.istore_n 3, 1) := by decide +kernel
theorem dX6_getsBy_17 : decode cX6_getsBy 17 = .ok (.aload_n 0, 1) := by decide +kernel
theorem dX6_getsBy_18 : decode cX6_getsBy 18 = .ok (.getfield 12, 3) := by decide +kernel
theorem dX6_getsBy_21 : decode cX6_getsBy 21 = .ok (.iload_n 2, 1) := by decide +kernel
theorem dX6_getsBy_22 : decode cX6_getsBy 22 = .ok (.iconst 4, 1) := by decide +kernel
theorem dX6_getsBy_23 : decode cX6_getsBy 23 = .ok (.invokevirtual 75, 3) := by decide +kernel
theorem dX6_getsBy_26 : decode cX6_getsBy 26 = .ok (.aload_n 1, 1) := by decide +kernel
theorem dX6_getsBy_27 : decode cX6_getsBy 27 = .ok (.iload_n 2, 1) := by decide +kernel
theorem dX6_getsBy_28 : decode cX6_getsBy 28 = .ok (.iconst 4, 1) := by decide +kernel
theorem dX6_getsBy_29 : decode cX6_getsBy 29 = .ok (.invokevirtual 75, 3) := by decide +kernel
theorem dX6_getsBy_32 : decode cX6_getsBy 32 = .ok (.isub, 1) := by decide +kernel
theorem dX6_getsBy_33 : decode cX6_getsBy 33 = .ok (.istore 4, 2) := by decide +kernel
theorem dX6_getsBy_35 : decode cX6_getsBy 35 = .ok (.iconst 3, 1) := by decide +kernel
theorem dX6_getsBy_36 : decode cX6_getsBy 36 = .ok (.iload_n 3, 1) := by decide +kernel
theorem dX6_getsBy_37 : decode cX6_getsBy 37 = .ok (.imul, 1) := by decide +kernel
theorem dX6_getsBy_38 : decode cX6_getsBy 38 = .ok (.iload 4, 2) := by decide +kernel
theorem dX6_getsBy_40 : decode cX6_getsBy 40 = .ok (.isub, 1) := by decide +kernel
theorem dX6_getsBy_41 : decode cX6_getsBy 41 = .ok (.ireturn, 1) := by decide +kernel
theorem dX6_rests_0 : decode cX6_rests 0 = .ok (.iload 4, 2) := by decide +kernel
theorem dX6_rests_2 : decode cX6_rests 2 = .ok (.iconst 0, 1) := by decide +kernel
theorem dX6_rests_3 : decode cX6_rests 3 = .ok (.bipush 35, 2) := by decide +kernel
theorem dX6_rests_5 : decode cX6_rests 5 = .ok (.invokestatic 94, 3) := by decide +kernel
theorem dX6_rests_8 : decode cX6_rests 8 = .ok (.ifCond .ne 5, 3) := by decide +kernel
theorem dX6_rests_11 : decode cX6_rests 11 = .ok (.iconst 0, 1) := by decide +kernel
theorem dX6_rests_12 : decode cX6_rests 12 = .ok (.ireturn, 1) := by decide +kernel
theorem dX6_rests_13 : decode cX6_rests 13 = .ok (.iload 4, 2) := by decide +kernel
theorem dX6_rests_15 : decode cX6_rests 15 = .ok (.bipush 6, 2) := by decide +kernel
theorem dX6_rests_17 : decode cX6_rests 17 = .ok (.idiv, 1) := by decide +kernel
theorem dX6_rests_18 : decode cX6_rests 18 = .ok (.istore 5, 2) := by decide +kernel
theorem dX6_rests_20 : decode cX6_rests 20 = .ok (.iload 4, 2) := by decide +kernel
theorem dX6_rests_22 : decode cX6_rests 22 = .ok (.bipush 6, 2) := by decide +kernel
theorem dX6_rests_24 : decode cX6_rests 24 = .ok (.irem, 1) := by decide +kernel
theorem dX6_rests_25 : decode cX6_rests 25 = .ok (.istore 6, 2) := by decide +kernel
theorem dX6_rests_27 : decode cX6_rests 27 = .ok (.iconst 0, 1) := by decide +kernel
theorem dX6_rests_28 : decode cX6_rests 28 = .ok (.istore 7, 2) := by decide +kernel
theorem dX6_rests_30 : decode cX6_rests 30 = .ok (.iload 7, 2) := by decide +kernel
theorem dX6_rests_32 : decode cX6_rests 32 = .ok (.bipush 6, 2) := by decide +kernel
theorem dX6_rests_34 : decode cX6_rests 34 = .ok (.if_icmp .ge 87, 3) := by decide +kernel
theorem dX6_rests_37 : decode cX6_rests 37 = .ok (.bipush 6, 2) := by decide +kernel
theorem dX6_rests_39 : decode cX6_rests 39 = .ok (.iload 7, 2) := by decide +kernel
theorem dX6_rests_41 : decode cX6_rests 41 = .ok (.imul, 1) := by decide +kernel
theorem dX6_rests_42 : decode cX6_rests 42 = .ok (.iload 6, 2) := by decide +kernel
theorem dX6_rests_44 : decode cX6_rests 44 = .ok (.iadd, 1) := by decide +kernel
theorem dX6_rests_45 : decode cX6_rests 45 = .ok (.istore 8, 2) := by decide +kernel
theorem dX6_rests_47 : decode cX6_rests 47 = .ok (.bipush 6, 2) := by decide +kernel
theorem dX6_rests_49 : decode cX6_rests 49 = .ok (.iload 5, 2) := by decide +kernel
theorem dX6_rests_51 : decode cX6_rests 51 = .ok (.imul, 1) := by decide +kernel
theorem dX6_rests_52 : decode cX6_rests 52 = .ok (.iload 7, 2) := by decide +kernel
theorem dX6_rests_54 : decode cX6_rests 54 = .ok (.iadd, 1) := by decide +kernel
theorem dX6_rests_55 : decode cX6_rests 55 = .ok (.istore 9, 2) := by decide +kernel
theorem dX6_rests_57 : decode cX6_rests 57 = .ok (.aload_n 1, 1) := by decide +kernel
theorem dX6_rests_58 : decode cX6_rests 58 = .ok (.iload 7, 2) := by decide +kernel
theorem dX6_rests_60 : decode cX6_rests 60 = .ok (.iload_n 2, 1) := by decide +kernel
theorem dX6_rests_61 : decode cX6_rests 61 = .ok (.invokevirtual 66, 3) := by decide +kernel
theorem dX6_rests_64 : decode cX6_rests 64 = .ok (.ifCond .eq 22, 3) := by decide +kernel
theorem dX6_rests_67 : decode cX6_rests 67 = .ok (.aload_n 0, 1) := by decide +kernel
theorem dX6_rests_68 : decode cX6_rests 68 = .ok (.getfield 29, 3) := by decide +kernel
theorem dX6_rests_71 : decode cX6_rests 71 = .ok (.iload 8, 2) := by decide +kernel
theorem dX6_rests_73 : decode cX6_rests 73 = .ok (.iaload, 1) := by decide +kernel
theorem dX6_rests_74 : decode cX6_rests 74 = .ok (.aload_n 0, 1) := by decide +kernel
theorem dX6_rests_75 : decode cX6_rests 75 = .ok (.getfield 29, 3) := by decide +kernel
theorem dX6_rests_78 : decode cX6_rests 78 = .ok (.iload 4, 2) := by decide +kernel
theorem dX6_rests_80 : decode cX6_rests 80 = .ok (.iaload, 1) := by decide +kernel
theorem dX6_rests_81 : decode cX6_rests 81 = .ok (.if_icmp .le 5, 3) := by decide +kernel
theorem dX6_rests_84 : decode cX6_rests 84 = .ok (.iconst 0, 1) := by decide +kernel
theorem dX6_rests_85 : decode cX6_rests 85 = .ok (.ireturn, 1) := by decide +kernel
theorem dX6_rests_86 : decode cX6_rests 86 = .ok (.aload_n 1, 1) := by decide +kernel
theorem dX6_rests_87 : decode cX6_rests 87 = .ok (.iload 7, 2) := by decide +kernel
theorem dX6_rests_89 : decode cX6_rests 89 = .ok (.iload_n 3, 1) := by decide +kernel
theorem dX6_rests_90 : decode cX6_rests 90 = .ok (.invokevirtual 66, 3) := by decide +kernel
theorem dX6_rests_93 : decode cX6_rests 93 = .ok (.ifCond .eq 22, 3) := by decide +kernel
theorem dX6_rests_96 : decode cX6_rests 96 = .ok (.aload_n 0, 1) := by decide +kernel
theorem dX6_rests_97 : decode cX6_rests 97 = .ok (.getfield 32, 3) := by decide +kernel
theorem dX6_rests_100 : decode cX6_rests 100 = .ok (.iload 9, 2) := by decide +kernel
theorem dX6_rests_102 : decode cX6_rests 102 = .ok (.iaload, 1) := by decide +kernel
theorem dX6_rests_103 : decode cX6_rests 103 = .ok (.aload_n 0, 1) := by decide +kernel
theorem dX6_rests_104 : decode cX6_rests 104 = .ok (.getfield 32, 3) := by decide +kernel
theorem dX6_rests_107 : decode cX6_rests 107 = .ok (.iload 4, 2) := by decide +kernel
theorem dX6_rests_109 : decode cX6_rests 109 = .ok (.iaload, 1) := by decide +kernel
theorem dX6_rests_110 : decode cX6_rests 110 = .ok (.if_icmp .le 5, 3) := by decide +kernel
theorem dX6_rests_113 : decode cX6_rests 113 = .ok (.iconst 0, 1) := by decide +kernel
theorem dX6_rests_114 : decode cX6_rests 114 = .ok (.ireturn, 1) := by decide +kernel
theorem dX6_rests_115 : decode cX6_rests 115 = .ok (.iinc 7 1, 3) := by decide +kernel
theorem dX6_rests_118 : decode cX6_rests 118 = .ok (.goto (-88), 3) := by decide +kernel
theorem dX6_rests_121 : decode cX6_rests 121 = .ok (.iconst 1, 1) := by decide +kernel
theorem dX6_rests_122 : decode cX6_rests 122 = .ok (.ireturn, 1) := by decide +kernel
theorem dX6_waysToBreak_0 : decode cX6_waysToBreak 0 = .ok (.lconst 0, 1) := by decide +kernel
theorem dX6_waysToBreak_1 : decode cX6_waysToBreak 1 = .ok (.lstore 6, 2) := by decide +kernel
theorem dX6_waysToBreak_3 : decode cX6_waysToBreak 3 = .ok (.iload 4, 2) := by decide +kernel
theorem dX6_waysToBreak_5 : decode cX6_waysToBreak 5 = .ok (.iconst 0, 1) := by decide +kernel
theorem dX6_waysToBreak_6 : decode cX6_waysToBreak 6 = .ok (.bipush 6, 2) := by decide +kernel
theorem dX6_waysToBreak_8 : decode cX6_waysToBreak 8 = .ok (.invokestatic 94, 3) := by decide +kernel
theorem dX6_waysToBreak_11 : decode cX6_waysToBreak 11 = .ok (.ifCond .ne 6, 3) := by decide +kernel
theorem dX6_waysToBreak_14 : decode cX6_waysToBreak 14 = .ok (.lload 6, 2) := by decide +kernel
theorem dX6_waysToBreak_16 : decode cX6_waysToBreak 16 = .ok (.lreturn, 1) := by decide +kernel
theorem dX6_waysToBreak_17 : decode cX6_waysToBreak 17 = .ok (.iconst 0, 1) := by decide +kernel
theorem dX6_waysToBreak_18 : decode cX6_waysToBreak 18 = .ok (.istore 8, 2) := by decide +kernel
theorem dX6_waysToBreak_20 : decode cX6_waysToBreak 20 = .ok (.iload 8, 2) := by decide +kernel
theorem dX6_waysToBreak_22 : decode cX6_waysToBreak 22 = .ok (.iconst 1, 1) := by decide +kernel
theorem dX6_waysToBreak_23 : decode cX6_waysToBreak 23 = .ok (.iload 4, 2) := by decide +kernel
theorem dX6_waysToBreak_25 : decode cX6_waysToBreak 25 = .ok (.ishl, 1) := by decide +kernel
theorem dX6_waysToBreak_26 : decode cX6_waysToBreak 26 = .ok (.if_icmp .ge 60, 3) := by decide +kernel
theorem dX6_waysToBreak_29 : decode cX6_waysToBreak 29 = .ok (.aload_n 0, 1) := by decide +kernel
theorem dX6_waysToBreak_30 : decode cX6_waysToBreak 30 = .ok (.getfield 12, 3) := by decide +kernel
theorem dX6_waysToBreak_33 : decode cX6_waysToBreak 33 = .ok (.aload_n 1, 1) := by decide +kernel
theorem dX6_waysToBreak_34 : decode cX6_waysToBreak 34 = .ok (.invokevirtual 38, 3) := by decide +kernel
theorem dX6_waysToBreak_37 : decode cX6_waysToBreak 37 = .ok (.aload_n 0, 1) := by decide +kernel
theorem dX6_waysToBreak_38 : decode cX6_waysToBreak 38 = .ok (.iload_n 2, 1) := by decide +kernel
theorem dX6_waysToBreak_39 : decode cX6_waysToBreak 39 = .ok (.iload_n 3, 1) := by decide +kernel
theorem dX6_waysToBreak_40 : decode cX6_waysToBreak 40 = .ok (.iload 4, 2) := by decide +kernel
theorem dX6_waysToBreak_42 : decode cX6_waysToBreak 42 = .ok (.iload 5, 2) := by decide +kernel
theorem dX6_waysToBreak_44 : decode cX6_waysToBreak 44 = .ok (.iload 8, 2) := by decide +kernel
theorem dX6_waysToBreak_46 : decode cX6_waysToBreak 46 = .ok (.invokevirtual 128, 3) := by decide +kernel
theorem dX6_waysToBreak_49 : decode cX6_waysToBreak 49 = .ok (.lstore 9, 2) := by decide +kernel
theorem dX6_waysToBreak_51 : decode cX6_waysToBreak 51 = .ok (.aload_n 0, 1) := by decide +kernel
theorem dX6_waysToBreak_52 : decode cX6_waysToBreak 52 = .ok (.getfield 12, 3) := by decide +kernel
theorem dX6_waysToBreak_55 : decode cX6_waysToBreak 55 = .ok (.iload_n 3, 1) := by decide +kernel
theorem dX6_waysToBreak_56 : decode cX6_waysToBreak 56 = .ok (.invokevirtual 50, 3) := by decide +kernel
theorem dX6_waysToBreak_59 : decode cX6_waysToBreak 59 = .ok (.ifCond .eq 21, 3) := by decide +kernel
theorem dX6_waysToBreak_62 : decode cX6_waysToBreak 62 = .ok (.aload_n 0, 1) := by decide +kernel
theorem dX6_waysToBreak_63 : decode cX6_waysToBreak 63 = .ok (.getfield 12, 3) := by decide +kernel
theorem dX6_waysToBreak_66 : decode cX6_waysToBreak 66 = .ok (.iload_n 2, 1) := by decide +kernel
theorem dX6_waysToBreak_67 : decode cX6_waysToBreak 67 = .ok (.invokevirtual 132, 3) := by decide +kernel
theorem dX6_waysToBreak_70 : decode cX6_waysToBreak 70 = .ok (.ifCond .eq 10, 3) := by decide +kernel
theorem dX6_waysToBreak_73 : decode cX6_waysToBreak 73 = .ok (.lload 6, 2) := by decide +kernel
theorem dX6_waysToBreak_75 : decode cX6_waysToBreak 75 = .ok (.lload 9, 2) := by decide +kernel
theorem dX6_waysToBreak_77 : decode cX6_waysToBreak 77 = .ok (.ladd, 1) := by decide +kernel
theorem dX6_waysToBreak_78 : decode cX6_waysToBreak 78 = .ok (.lstore 6, 2) := by decide +kernel
theorem dX6_waysToBreak_80 : decode cX6_waysToBreak 80 = .ok (.iinc 8 1, 3) := by decide +kernel
theorem dX6_waysToBreak_83 : decode cX6_waysToBreak 83 = .ok (.goto (-63), 3) := by decide +kernel
theorem dX6_waysToBreak_86 : decode cX6_waysToBreak 86 = .ok (.lload 6, 2) := by decide +kernel
theorem dX6_waysToBreak_88 : decode cX6_waysToBreak 88 = .ok (.lreturn, 1) := by decide +kernel
theorem dX6_strikeWithMisses_0 : decode cX6_strikeWithMisses 0 = .ok (.lconst 1, 1) := by decide +kernel
theorem dX6_strikeWithMisses_1 : decode cX6_strikeWithMisses 1 = .ok (.lstore 6, 2) := by decide +kernel
theorem dX6_strikeWithMisses_3 : decode cX6_strikeWithMisses 3 = .ok (.iconst 0, 1) := by decide +kernel
theorem dX6_strikeWithMisses_4 : decode cX6_strikeWithMisses 4 = .ok (.istore 8, 2) := by decide +kernel
theorem dX6_strikeWithMisses_6 : decode cX6_strikeWithMisses 6 = .ok (.iload 8, 2) := by decide +kernel
theorem dX6_strikeWithMisses_8 : decode cX6_strikeWithMisses 8 = .ok (.iload_n 3, 1) := by decide +kernel
theorem dX6_strikeWithMisses_9 : decode cX6_strikeWithMisses 9 = .ok (.if_icmp .ge 65, 3) := by decide +kernel
theorem dX6_strikeWithMisses_12 : decode cX6_strikeWithMisses 12 = .ok (.iload 5, 2) := by decide +kernel
theorem dX6_strikeWithMisses_14 : decode cX6_strikeWithMisses 14 = .ok (.iload 8, 2) := by decide +kernel
theorem dX6_strikeWithMisses_16 : decode cX6_strikeWithMisses 16 = .ok (.invokestatic 101, 3) := by decide +kernel
theorem dX6_strikeWithMisses_19 : decode cX6_strikeWithMisses 19 = .ok (.istore 9, 2) := by decide +kernel
theorem dX6_strikeWithMisses_21 : decode cX6_strikeWithMisses 21 = .ok (.lload 6, 2) := by decide +kernel
theorem dX6_strikeWithMisses_23 : decode cX6_strikeWithMisses 23 = .ok (.iload 9, 2) := by decide +kernel
theorem dX6_strikeWithMisses_25 : decode cX6_strikeWithMisses 25 = .ok (.ifCond .eq 12, 3) := by decide +kernel
theorem dX6_strikeWithMisses_28 : decode cX6_strikeWithMisses 28 = .ok (.bipush 10, 2) := by decide +kernel
theorem dX6_strikeWithMisses_30 : decode cX6_strikeWithMisses 30 = .ok (.iload 4, 2) := by decide +kernel
theorem dX6_strikeWithMisses_32 : decode cX6_strikeWithMisses 32 = .ok (.isub, 1) := by decide +kernel
theorem dX6_strikeWithMisses_33 : decode cX6_strikeWithMisses 33 = .ok (.i2l, 1) := by decide +kernel
theorem dX6_strikeWithMisses_34 : decode cX6_strikeWithMisses 34 = .ok (.goto 6, 3) := by decide +kernel
theorem dX6_strikeWithMisses_37 : decode cX6_strikeWithMisses 37 = .ok (.iload 4, 2) := by decide +kernel
theorem dX6_strikeWithMisses_39 : decode cX6_strikeWithMisses 39 = .ok (.i2l, 1) := by decide +kernel
theorem dX6_strikeWithMisses_40 : decode cX6_strikeWithMisses 40 = .ok (.lmul, 1) := by decide +kernel
theorem dX6_strikeWithMisses_41 : decode cX6_strikeWithMisses 41 = .ok (.lstore 6, 2) := by decide +kernel
theorem dX6_strikeWithMisses_43 : decode cX6_strikeWithMisses 43 = .ok (.iload 9, 2) := by decide +kernel
theorem dX6_strikeWithMisses_45 : decode cX6_strikeWithMisses 45 = .ok (.ifCond .eq 15, 3) := by decide +kernel
theorem dX6_strikeWithMisses_48 : decode cX6_strikeWithMisses 48 = .ok (.aload_n 0, 1) := by decide +kernel
theorem dX6_strikeWithMisses_49 : decode cX6_strikeWithMisses 49 = .ok (.getfield 12, 3) := by decide +kernel
theorem dX6_strikeWithMisses_52 : decode cX6_strikeWithMisses 52 = .ok (.iload_n 1, 1) := by decide +kernel
theorem dX6_strikeWithMisses_53 : decode cX6_strikeWithMisses 53 = .ok (.iload_n 2, 1) := by decide +kernel
theorem dX6_strikeWithMisses_54 : decode cX6_strikeWithMisses 54 = .ok (.invokevirtual 46, 3) := by decide +kernel
theorem dX6_strikeWithMisses_57 : decode cX6_strikeWithMisses 57 = .ok (.ifCond .ne 11, 3) := by decide +kernel
theorem dX6_strikeWithMisses_60 : decode cX6_strikeWithMisses 60 = .ok (.aload_n 0, 1) := by decide +kernel
theorem dX6_strikeWithMisses_61 : decode cX6_strikeWithMisses 61 = .ok (.getfield 12, 3) := by decide +kernel
theorem dX6_strikeWithMisses_64 : decode cX6_strikeWithMisses 64 = .ok (.iconst 1, 1) := by decide +kernel
theorem dX6_strikeWithMisses_65 : decode cX6_strikeWithMisses 65 = .ok (.invokevirtual 135, 3) := by decide +kernel
theorem dX6_strikeWithMisses_68 : decode cX6_strikeWithMisses 68 = .ok (.iinc 8 1, 3) := by decide +kernel
theorem dX6_strikeWithMisses_71 : decode cX6_strikeWithMisses 71 = .ok (.goto (-65), 3) := by decide +kernel
theorem dX6_strikeWithMisses_74 : decode cX6_strikeWithMisses 74 = .ok (.lload 6, 2) := by decide +kernel
theorem dX6_strikeWithMisses_76 : decode cX6_strikeWithMisses 76 = .ok (.lreturn, 1) := by decide +kernel
theorem dX6_brokenBehindDays_0 : decode cX6_brokenBehindDays 0 = .ok (.aload_n 0, 1) := by decide +kernel
theorem dX6_brokenBehindDays_1 : decode cX6_brokenBehindDays 1 = .ok (.getfield 12, 3) := by decide +kernel
theorem dX6_brokenBehindDays_4 : decode cX6_brokenBehindDays 4 = .ok (.aload_n 1, 1) := by decide +kernel
theorem dX6_brokenBehindDays_5 : decode cX6_brokenBehindDays 5 = .ok (.invokevirtual 38, 3) := by decide +kernel
theorem dX6_brokenBehindDays_8 : decode cX6_brokenBehindDays 8 = .ok (.iload_n 2, 1) := by decide +kernel
theorem dX6_brokenBehindDays_9 : decode cX6_brokenBehindDays 9 = .ok (.i2l, 1) := by decide +kernel
theorem dX6_brokenBehindDays_10 : decode cX6_brokenBehindDays 10 = .ok (.lstore 4, 2) := by decide +kernel
theorem dX6_brokenBehindDays_12 : decode cX6_brokenBehindDays 12 = .ok (.iconst 0, 1) := by decide +kernel
theorem dX6_brokenBehindDays_13 : decode cX6_brokenBehindDays 13 = .ok (.istore 6, 2) := by decide +kernel
theorem dX6_brokenBehindDays_15 : decode cX6_brokenBehindDays 15 = .ok (.iload 6, 2) := by decide +kernel
theorem dX6_brokenBehindDays_17 : decode cX6_brokenBehindDays 17 = .ok (.iload_n 3, 1) := by decide +kernel
theorem dX6_brokenBehindDays_18 : decode cX6_brokenBehindDays 18 = .ok (.if_icmp .ge 73, 3) := by decide +kernel
theorem dX6_brokenBehindDays_21 : decode cX6_brokenBehindDays 21 = .ok (.lload 4, 2) := by decide +kernel
theorem dX6_brokenBehindDays_23 : decode cX6_brokenBehindDays 23 = .ok (.ldc2_w 139, 3) := by decide +kernel
theorem dX6_brokenBehindDays_26 : decode cX6_brokenBehindDays 26 = .ok (.lmul, 1) := by decide +kernel
theorem dX6_brokenBehindDays_27 : decode cX6_brokenBehindDays 27 = .ok (.ldc2_w 141, 3) := by decide +kernel
theorem dX6_brokenBehindDays_30 : decode cX6_brokenBehindDays 30 = .ok (.ladd, 1) := by decide +kernel
theorem dX6_brokenBehindDays_31 : decode cX6_brokenBehindDays 31 = .ok (.ldc2_w 143, 3) := by decide +kernel
theorem dX6_brokenBehindDays_34 : decode cX6_brokenBehindDays 34 = .ok (.lrem, 1) := by decide +kernel
theorem dX6_brokenBehindDays_35 : decode cX6_brokenBehindDays 35 = .ok (.lstore 4, 2) := by decide +kernel
theorem dX6_brokenBehindDays_37 : decode cX6_brokenBehindDays 37 = .ok (.lload 4, 2) := by decide +kernel
theorem dX6_brokenBehindDays_39 : decode cX6_brokenBehindDays 39 = .ok (.ldc2_w 145, 3) := by decide +kernel
theorem dX6_brokenBehindDays_42 : decode cX6_brokenBehindDays 42 = .ok (.ldiv, 1) := by decide +kernel
theorem dX6_brokenBehindDays_43 : decode cX6_brokenBehindDays 43 = .ok (.ldc2_w 147, 3) := by decide +kernel
theorem dX6_brokenBehindDays_46 : decode cX6_brokenBehindDays 46 = .ok (.lrem, 1) := by decide +kernel
theorem dX6_brokenBehindDays_47 : decode cX6_brokenBehindDays 47 = .ok (.l2i, 1) := by decide +kernel
theorem dX6_brokenBehindDays_48 : decode cX6_brokenBehindDays 48 = .ok (.istore 7, 2) := by decide +kernel
theorem dX6_brokenBehindDays_50 : decode cX6_brokenBehindDays 50 = .ok (.lload 4, 2) := by decide +kernel
theorem dX6_brokenBehindDays_52 : decode cX6_brokenBehindDays 52 = .ok (.ldc2_w 149, 3) := by decide +kernel
theorem dX6_brokenBehindDays_55 : decode cX6_brokenBehindDays 55 = .ok (.ldiv, 1) := by decide +kernel
theorem dX6_brokenBehindDays_56 : decode cX6_brokenBehindDays 56 = .ok (.ldc2_w 147, 3) := by decide +kernel
theorem dX6_brokenBehindDays_59 : decode cX6_brokenBehindDays 59 = .ok (.lrem, 1) := by decide +kernel
theorem dX6_brokenBehindDays_60 : decode cX6_brokenBehindDays 60 = .ok (.l2i, 1) := by decide +kernel
theorem dX6_brokenBehindDays_61 : decode cX6_brokenBehindDays 61 = .ok (.istore 8, 2) := by decide +kernel
theorem dX6_brokenBehindDays_63 : decode cX6_brokenBehindDays 63 = .ok (.aload_n 0, 1) := by decide +kernel
theorem dX6_brokenBehindDays_64 : decode cX6_brokenBehindDays 64 = .ok (.getfield 12, 3) := by decide +kernel
theorem dX6_brokenBehindDays_67 : decode cX6_brokenBehindDays 67 = .ok (.iload 7, 2) := by decide +kernel
theorem dX6_brokenBehindDays_69 : decode cX6_brokenBehindDays 69 = .ok (.iload 8, 2) := by decide +kernel
theorem dX6_brokenBehindDays_71 : decode cX6_brokenBehindDays 71 = .ok (.invokevirtual 46, 3) := by decide +kernel
theorem dX6_brokenBehindDays_74 : decode cX6_brokenBehindDays 74 = .ok (.ifCond .ne 11, 3) := by decide +kernel
theorem dX6_brokenBehindDays_77 : decode cX6_brokenBehindDays 77 = .ok (.aload_n 0, 1) := by decide +kernel
theorem dX6_brokenBehindDays_78 : decode cX6_brokenBehindDays 78 = .ok (.getfield 12, 3) := by decide +kernel
theorem dX6_brokenBehindDays_81 : decode cX6_brokenBehindDays 81 = .ok (.iconst 1, 1) := by decide +kernel
theorem dX6_brokenBehindDays_82 : decode cX6_brokenBehindDays 82 = .ok (.invokevirtual 135, 3) := by decide +kernel
theorem dX6_brokenBehindDays_85 : decode cX6_brokenBehindDays 85 = .ok (.iinc 6 1, 3) := by decide +kernel
theorem dX6_brokenBehindDays_88 : decode cX6_brokenBehindDays 88 = .ok (.goto (-73), 3) := by decide +kernel
theorem dX6_brokenBehindDays_91 : decode cX6_brokenBehindDays 91 = .ok (.aload_n 0, 1) := by decide +kernel
theorem dX6_brokenBehindDays_92 : decode cX6_brokenBehindDays 92 = .ok (.getfield 12, 3) := by decide +kernel
theorem dX6_brokenBehindDays_95 : decode cX6_brokenBehindDays 95 = .ok (.invokevirtual 151, 3) := by decide +kernel
theorem dX6_brokenBehindDays_98 : decode cX6_brokenBehindDays 98 = .ok (.invokestatic 89, 3) := by decide +kernel
theorem dX6_brokenBehindDays_101 : decode cX6_brokenBehindDays 101 = .ok (.ireturn, 1) := by decide +kernel
theorem dX7_init_0 : decode cX7_init 0 = .ok (.aload_n 0, 1) := by decide +kernel
theorem dX7_init_1 : decode cX7_init 1 = .ok (.invokespecial 3, 3) := by decide +kernel
theorem dX7_init_4 : decode cX7_init 4 = .ok (.aload_n 0, 1) := by decide +kernel
theorem dX7_init_5 : decode cX7_init 5 = .ok (.iconst 3, 1) := by decide +kernel
theorem dX7_init_6 : decode cX7_init 6 = .ok (.newarray .int, 2) := by decide +kernel
theorem dX7_init_8 : decode cX7_init 8 = .ok (.putfield 9, 3) := by decide +kernel
theorem dX7_init_11 : decode cX7_init 11 = .ok (.aload_n 0, 1) := by decide +kernel
theorem dX7_init_12 : decode cX7_init 12 = .ok (.iconst 3, 1) := by decide +kernel
theorem dX7_init_13 : decode cX7_init 13 = .ok (.newarray .int, 2) := by decide +kernel
theorem dX7_init_15 : decode cX7_init 15 = .ok (.putfield 15, 3) := by decide +kernel
theorem dX7_init_18 : decode cX7_init 18 = .ok (.aload_n 0, 1) := by decide +kernel
theorem dX7_init_19 : decode cX7_init 19 = .ok (.bipush 6, 2) := by decide +kernel
theorem dX7_init_21 : decode cX7_init 21 = .ok (.newarray .int, 2) := by decide +kernel
theorem dX7_init_23 : decode cX7_init 23 = .ok (.putfield 18, 3) := by decide +kernel
theorem dX7_init_26 : decode cX7_init 26 = .ok (.aload_n 0, 1) := by decide +kernel
theorem dX7_init_27 : decode cX7_init 27 = .ok (.bipush 6, 2) := by decide +kernel
theorem dX7_init_29 : decode cX7_init 29 = .ok (.newarray .int, 2) := by decide +kernel
theorem dX7_init_31 : decode cX7_init 31 = .ok (.putfield 21, 3) := by decide +kernel
theorem dX7_init_34 : decode cX7_init 34 = .ok (.aload_n 0, 1) := by decide +kernel
theorem dX7_init_35 : decode cX7_init 35 = .ok (.bipush 6, 2) := by decide +kernel
theorem dX7_init_37 : decode cX7_init 37 = .ok (.newarray .int, 2) := by decide +kernel
theorem dX7_init_39 : decode cX7_init 39 = .ok (.putfield 24, 3) := by decide +kernel
theorem dX7_init_42 : decode cX7_init 42 = .ok (.aload_n 0, 1) := by decide +kernel
theorem dX7_init_43 : decode cX7_init 43 = .ok (.bipush 6, 2) := by decide +kernel
theorem dX7_init_45 : decode cX7_init 45 = .ok (.newarray .int, 2) := by decide +kernel
theorem dX7_init_47 : decode cX7_init 47 = .ok (.putfield 27, 3) := by decide +kernel
theorem dX7_init_50 : decode cX7_init 50 = .ok (.aload_n 0, 1) := by decide +kernel
theorem dX7_init_51 : decode cX7_init 51 = .ok (.bipush 6, 2) := by decide +kernel
theorem dX7_init_53 : decode cX7_init 53 = .ok (.newarray .int, 2) := by decide +kernel
theorem dX7_init_55 : decode cX7_init 55 = .ok (.putfield 30, 3) := by decide +kernel
theorem dX7_init_58 : decode cX7_init 58 = .ok (.aload_n 0, 1) := by decide +kernel
theorem dX7_init_59 : decode cX7_init 59 = .ok (.bipush 6, 2) := by decide +kernel
theorem dX7_init_61 : decode cX7_init 61 = .ok (.newarray .int, 2) := by decide +kernel
theorem dX7_init_63 : decode cX7_init 63 = .ok (.putfield 33, 3) := by decide +kernel
theorem dX7_init_66 : decode cX7_init 66 = .ok (.return_, 1) := by decide +kernel
theorem dX7_restart_0 : decode cX7_restart 0 = .ok (.aload_n 0, 1) := by decide +kernel
theorem dX7_restart_1 : decode cX7_restart 1 = .ok (.iconst 0, 1) := by decide +kernel
theorem dX7_restart_2 : decode cX7_restart 2 = .ok (.putfield 36, 3) := by decide +kernel
theorem dX7_restart_5 : decode cX7_restart 5 = .ok (.aload_n 0, 1) := by decide +kernel
theorem dX7_restart_6 : decode cX7_restart 6 = .ok (.iconst 0, 1) := by decide +kernel
theorem dX7_restart_7 : decode cX7_restart 7 = .ok (.putfield 40, 3) := by decide +kernel
theorem dX7_restart_10 : decode cX7_restart 10 = .ok (.aload_n 0, 1) := by decide +kernel
theorem dX7_restart_11 : decode cX7_restart 11 = .ok (.iload_n 1, 1) := by decide +kernel
theorem dX7_restart_12 : decode cX7_restart 12 = .ok (.putfield 43, 3) := by decide +kernel
theorem dX7_restart_15 : decode cX7_restart 15 = .ok (.return_, 1) := by decide +kernel
theorem dX7_copyOf_0 : decode cX7_copyOf 0 = .ok (.aload_n 0, 1) := by decide +kernel
theorem dX7_copyOf_1 : decode cX7_copyOf 1 = .ok (.aload_n 1, 1) := by decide +kernel
theorem dX7_copyOf_2 : decode cX7_copyOf 2 = .ok (.getfield 36, 3) := by decide +kernel
theorem dX7_copyOf_5 : decode cX7_copyOf 5 = .ok (.putfield 36, 3) := by decide +kernel
theorem dX7_copyOf_8 : decode cX7_copyOf 8 = .ok (.aload_n 0, 1) := by decide +kernel
theorem dX7_copyOf_9 : decode cX7_copyOf 9 = .ok (.aload_n 1, 1) := by decide +kernel
theorem dX7_copyOf_10 : decode cX7_copyOf 10 = .ok (.getfield 40, 3) := by decide +kernel
theorem dX7_copyOf_13 : decode cX7_copyOf 13 = .ok (.putfield 40, 3) := by decide +kernel
theorem dX7_copyOf_16 : decode cX7_copyOf 16 = .ok (.aload_n 1, 1) := by decide +kernel
theorem dX7_copyOf_17 : decode cX7_copyOf 17 = .ok (.getfield 9, 3) := by decide +kernel
theorem dX7_copyOf_20 : decode cX7_copyOf 20 = .ok (.iconst 0, 1) := by decide +kernel
theorem dX7_copyOf_21 : decode cX7_copyOf 21 = .ok (.aload_n 0, 1) := by decide +kernel
theorem dX7_copyOf_22 : decode cX7_copyOf 22 = .ok (.getfield 9, 3) := by decide +kernel
theorem dX7_copyOf_25 : decode cX7_copyOf 25 = .ok (.iconst 0, 1) := by decide +kernel
theorem dX7_copyOf_26 : decode cX7_copyOf 26 = .ok (.iconst 3, 1) := by decide +kernel
theorem dX7_copyOf_27 : decode cX7_copyOf 27 = .ok (.invokestatic 46, 3) := by decide +kernel
theorem dX7_copyOf_30 : decode cX7_copyOf 30 = .ok (.aload_n 1, 1) := by decide +kernel
theorem dX7_copyOf_31 : decode cX7_copyOf 31 = .ok (.getfield 15, 3) := by decide +kernel
theorem dX7_copyOf_34 : decode cX7_copyOf 34 = .ok (.iconst 0, 1) := by decide +kernel
theorem dX7_copyOf_35 : decode cX7_copyOf 35 = .ok (.aload_n 0, 1) := by decide +kernel
theorem dX7_copyOf_36 : decode cX7_copyOf 36 = .ok (.getfield 15, 3) := by decide +kernel
theorem dX7_copyOf_39 : decode cX7_copyOf 39 = .ok (.iconst 0, 1) := by decide +kernel
theorem dX7_copyOf_40 : decode cX7_copyOf 40 = .ok (.iconst 3, 1) := by decide +kernel
theorem dX7_copyOf_41 : decode cX7_copyOf 41 = .ok (.invokestatic 46, 3) := by decide +kernel
theorem dX7_copyOf_44 : decode cX7_copyOf 44 = .ok (.aload_n 1, 1) := by decide +kernel
theorem dX7_copyOf_45 : decode cX7_copyOf 45 = .ok (.getfield 18, 3) := by decide +kernel
theorem dX7_copyOf_48 : decode cX7_copyOf 48 = .ok (.iconst 0, 1) := by decide +kernel
theorem dX7_copyOf_49 : decode cX7_copyOf 49 = .ok (.aload_n 0, 1) := by decide +kernel
theorem dX7_copyOf_50 : decode cX7_copyOf 50 = .ok (.getfield 18, 3) := by decide +kernel
theorem dX7_copyOf_53 : decode cX7_copyOf 53 = .ok (.iconst 0, 1) := by decide +kernel
theorem dX7_copyOf_54 : decode cX7_copyOf 54 = .ok (.bipush 6, 2) := by decide +kernel
theorem dX7_copyOf_56 : decode cX7_copyOf 56 = .ok (.invokestatic 46, 3) := by decide +kernel
theorem dX7_copyOf_59 : decode cX7_copyOf 59 = .ok (.aload_n 1, 1) := by decide +kernel
theorem dX7_copyOf_60 : decode cX7_copyOf 60 = .ok (.getfield 21, 3) := by decide +kernel
theorem dX7_copyOf_63 : decode cX7_copyOf 63 = .ok (.iconst 0, 1) := by decide +kernel
theorem dX7_copyOf_64 : decode cX7_copyOf 64 = .ok (.aload_n 0, 1) := by decide +kernel
theorem dX7_copyOf_65 : decode cX7_copyOf 65 = .ok (.getfield 21, 3) := by decide +kernel
theorem dX7_copyOf_68 : decode cX7_copyOf 68 = .ok (.iconst 0, 1) := by decide +kernel
theorem dX7_copyOf_69 : decode cX7_copyOf 69 = .ok (.bipush 6, 2) := by decide +kernel
theorem dX7_copyOf_71 : decode cX7_copyOf 71 = .ok (.invokestatic 46, 3) := by decide +kernel
theorem dX7_copyOf_74 : decode cX7_copyOf 74 = .ok (.aload_n 1, 1) := by decide +kernel
theorem dX7_copyOf_75 : decode cX7_copyOf 75 = .ok (.getfield 24, 3) := by decide +kernel
theorem dX7_copyOf_78 : decode cX7_copyOf 78 = .ok (.iconst 0, 1) := by decide +kernel
theorem dX7_copyOf_79 : decode cX7_copyOf 79 = .ok (.aload_n 0, 1) := by decide +kernel
theorem dX7_copyOf_80 : decode cX7_copyOf 80 = .ok (.getfield 24, 3) := by decide +kernel
theorem dX7_copyOf_83 : decode cX7_copyOf 83 = .ok (.iconst 0, 1) := by decide +kernel
theorem dX7_copyOf_84 : decode cX7_copyOf 84 = .ok (.bipush 6, 2) := by decide +kernel
theorem dX7_copyOf_86 : decode cX7_copyOf 86 = .ok (.invokestatic 46, 3) := by decide +kernel
theorem dX7_copyOf_89 : decode cX7_copyOf 89 = .ok (.aload_n 1, 1) := by decide +kernel
theorem dX7_copyOf_90 : decode cX7_copyOf 90 = .ok (.getfield 27, 3) := by decide +kernel
theorem dX7_copyOf_93 : decode cX7_copyOf 93 = .ok (.iconst 0, 1) := by decide +kernel
theorem dX7_copyOf_94 : decode cX7_copyOf 94 = .ok (.aload_n 0, 1) := by decide +kernel
theorem dX7_copyOf_95 : decode cX7_copyOf 95 = .ok (.getfield 27, 3) := by decide +kernel
theorem dX7_copyOf_98 : decode cX7_copyOf 98 = .ok (.iconst 0, 1) := by decide +kernel
theorem dX7_copyOf_99 : decode cX7_copyOf 99 = .ok (.bipush 6, 2) := by decide +kernel
theorem dX7_copyOf_101 : decode cX7_copyOf 101 = .ok (.invokestatic 46, 3) := by decide +kernel
theorem dX7_copyOf_104 : decode cX7_copyOf 104 = .ok (.aload_n 0, 1) := by decide +kernel
theorem dX7_copyOf_105 : decode cX7_copyOf 105 = .ok (.aload_n 1, 1) := by decide +kernel
theorem dX7_copyOf_106 : decode cX7_copyOf 106 = .ok (.invokevirtual 52, 3) := by decide +kernel
theorem dX7_copyOf_109 : decode cX7_copyOf 109 = .ok (.return_, 1) := by decide +kernel
theorem dX7_copyChangesOf_0 : decode cX7_copyChangesOf 0 = .ok (.aload_n 0, 1) := by decide +kernel
theorem dX7_copyChangesOf_1 : decode cX7_copyChangesOf 1 = .ok (.aload_n 1, 1) := by decide +kernel
theorem dX7_copyChangesOf_2 : decode cX7_copyChangesOf 2 = .ok (.getfield 43, 3) := by decide +kernel
theorem dX7_copyChangesOf_5 : decode cX7_copyChangesOf 5 = .ok (.putfield 43, 3) := by decide +kernel
theorem dX7_copyChangesOf_8 : decode cX7_copyChangesOf 8 = .ok (.aload_n 1, 1) := by decide +kernel
theorem dX7_copyChangesOf_9 : decode cX7_copyChangesOf 9 = .ok (.getfield 30, 3) := by decide +kernel
theorem dX7_copyChangesOf_12 : decode cX7_copyChangesOf 12 = .ok (.iconst 0, 1) := by decide +kernel
theorem dX7_copyChangesOf_13 : decode cX7_copyChangesOf 13 = .ok (.aload_n 0, 1) := by decide +kernel
theorem dX7_copyChangesOf_14 : decode cX7_copyChangesOf 14 = .ok (.getfield 30, 3) := by decide +kernel
theorem dX7_copyChangesOf_17 : decode cX7_copyChangesOf 17 = .ok (.iconst 0, 1) := by decide +kernel
theorem dX7_copyChangesOf_18 : decode cX7_copyChangesOf 18 = .ok (.bipush 6, 2) := by decide +kernel
theorem dX7_copyChangesOf_20 : decode cX7_copyChangesOf 20 = .ok (.invokestatic 46, 3) := by decide +kernel
theorem dX7_copyChangesOf_23 : decode cX7_copyChangesOf 23 = .ok (.aload_n 1, 1) := by decide +kernel
theorem dX7_copyChangesOf_24 : decode cX7_copyChangesOf 24 = .ok (.getfield 33, 3) := by decide +kernel
theorem dX7_copyChangesOf_27 : decode cX7_copyChangesOf 27 = .ok (.iconst 0, 1) := by decide +kernel
theorem dX7_copyChangesOf_28 : decode cX7_copyChangesOf 28 = .ok (.aload_n 0, 1) := by decide +kernel
theorem dX7_copyChangesOf_29 : decode cX7_copyChangesOf 29 = .ok (.getfield 33, 3) := by decide +kernel
theorem dX7_copyChangesOf_32 : decode cX7_copyChangesOf 32 = .ok (.iconst 0, 1) := by decide +kernel
theorem dX7_copyChangesOf_33 : decode cX7_copyChangesOf 33 = .ok (.bipush 6, 2) := by decide +kernel
theorem dX7_copyChangesOf_35 : decode cX7_copyChangesOf 35 = .ok (.invokestatic 46, 3) := by decide +kernel
theorem dX7_copyChangesOf_38 : decode cX7_copyChangesOf 38 = .ok (.return_, 1) := by decide +kernel
theorem dX7_addPlayer_0 : decode cX7_addPlayer 0 = .ok (.aload_n 0, 1) := by decide +kernel
theorem dX7_addPlayer_1 : decode cX7_addPlayer 1 = .ok (.getfield 36, 3) := by decide +kernel
theorem dX7_addPlayer_4 : decode cX7_addPlayer 4 = .ok (.ifCond .lt 11, 3) := by decide +kernel
theorem dX7_addPlayer_7 : decode cX7_addPlayer 7 = .ok (.aload_n 0, 1) := by decide +kernel
theorem dX7_addPlayer_8 : decode cX7_addPlayer 8 = .ok (.getfield 36, 3) := by decide +kernel
theorem dX7_addPlayer_11 : decode cX7_addPlayer 11 = .ok (.iconst 3, 1) := by decide +kernel
theorem dX7_addPlayer_12 : decode cX7_addPlayer 12 = .ok (.if_icmp .lt 6, 3) := by decide +kernel
theorem dX7_addPlayer_15 : decode cX7_addPlayer 15 = .ok (.bipush (-4), 2) := by decide +kernel
theorem dX7_addPlayer_17 : decode cX7_addPlayer 17 = .ok (.ireturn, 1) := by decide +kernel
theorem dX7_addPlayer_18 : decode cX7_addPlayer 18 = .ok (.aload_n 0, 1) := by decide +kernel
theorem dX7_addPlayer_19 : decode cX7_addPlayer 19 = .ok (.getfield 9, 3) := by decide +kernel
theorem dX7_addPlayer_22 : decode cX7_addPlayer 22 = .ok (.aload_n 0, 1) := by decide +kernel
theorem dX7_addPlayer_23 : decode cX7_addPlayer 23 = .ok (.getfield 36, 3) := by decide +kernel
theorem dX7_addPlayer_26 : decode cX7_addPlayer 26 = .ok (.iload_n 1, 1) := by decide +kernel
theorem dX7_addPlayer_27 : decode cX7_addPlayer 27 = .ok (.iastore, 1) := by decide +kernel
theorem dX7_addPlayer_28 : decode cX7_addPlayer 28 = .ok (.aload_n 0, 1) := by decide +kernel
theorem dX7_addPlayer_29 : decode cX7_addPlayer 29 = .ok (.getfield 15, 3) := by decide +kernel
theorem dX7_addPlayer_32 : decode cX7_addPlayer 32 = .ok (.aload_n 0, 1) := by decide +kernel
theorem dX7_addPlayer_33 : decode cX7_addPlayer 33 = .ok (.getfield 36, 3) := by decide +kernel
theorem dX7_addPlayer_36 : decode cX7_addPlayer 36 = .ok (.iload_n 2, 1) := by decide +kernel
theorem dX7_addPlayer_37 : decode cX7_addPlayer 37 = .ok (.iastore, 1) := by decide +kernel
theorem dX7_addPlayer_38 : decode cX7_addPlayer 38 = .ok (.aload_n 0, 1) := by decide +kernel
theorem dX7_addPlayer_39 : decode cX7_addPlayer 39 = .ok (.dup, 1) := by decide +kernel
theorem dX7_addPlayer_40 : decode cX7_addPlayer 40 = .ok (.getfield 36, 3) := by decide +kernel
theorem dX7_addPlayer_43 : decode cX7_addPlayer 43 = .ok (.dup_x1, 1) := by decide +kernel
theorem dX7_addPlayer_44 : decode cX7_addPlayer 44 = .ok (.iconst 1, 1) := by decide +kernel
theorem dX7_addPlayer_45 : decode cX7_addPlayer 45 = .ok (.iadd, 1) := by decide +kernel
theorem dX7_addPlayer_46 : decode cX7_addPlayer 46 = .ok (.putfield 36, 3) := by decide +kernel
theorem dX7_addPlayer_49 : decode cX7_addPlayer 49 = .ok (.ireturn, 1) := by decide +kernel
theorem dX7_addNut_0 : decode cX7_addNut 0 = .ok (.aload_n 0, 1) := by decide +kernel
theorem dX7_addNut_1 : decode cX7_addNut 1 = .ok (.getfield 40, 3) := by decide +kernel
theorem dX7_addNut_4 : decode cX7_addNut 4 = .ok (.ifCond .lt 12, 3) := by decide +kernel
theorem dX7_addNut_7 : decode cX7_addNut 7 = .ok (.aload_n 0, 1) := by decide +kernel
theorem dX7_addNut_8 : decode cX7_addNut 8 = .ok (.getfield 40, 3) := by decide +kernel
theorem dX7_addNut_11 : decode cX7_addNut 11 = .ok (.bipush 6, 2) := by decide +kernel
theorem dX7_addNut_13 : decode cX7_addNut 13 = .ok (.if_icmp .lt 6, 3) := by decide +kernel
theorem dX7_addNut_16 : decode cX7_addNut 16 = .ok (.bipush (-4), 2) := by decide +kernel
theorem dX7_addNut_18 : decode cX7_addNut 18 = .ok (.ireturn, 1) := by decide +kernel
theorem dX7_addNut_19 : decode cX7_addNut 19 = .ok (.aload_n 0, 1) := by decide +kernel
theorem dX7_addNut_20 : decode cX7_addNut 20 = .ok (.getfield 18, 3) := by decide +kernel
theorem dX7_addNut_23 : decode cX7_addNut 23 = .ok (.aload_n 0, 1) := by decide +kernel
theorem dX7_addNut_24 : decode cX7_addNut 24 = .ok (.getfield 40, 3) := by decide +kernel
theorem dX7_addNut_27 : decode cX7_addNut 27 = .ok (.iload_n 1, 1) := by decide +kernel
theorem dX7_addNut_28 : decode cX7_addNut 28 = .ok (.iastore, 1) := by decide +kernel
theorem dX7_addNut_29 : decode cX7_addNut 29 = .ok (.aload_n 0, 1) := by decide +kernel
theorem dX7_addNut_30 : decode cX7_addNut 30 = .ok (.getfield 21, 3) := by decide +kernel
theorem dX7_addNut_33 : decode cX7_addNut 33 = .ok (.aload_n 0, 1) := by decide +kernel
theorem dX7_addNut_34 : decode cX7_addNut 34 = .ok (.getfield 40, 3) := by decide +kernel
theorem dX7_addNut_37 : decode cX7_addNut 37 = .ok (.iload_n 2, 1) := by decide +kernel
theorem dX7_addNut_38 : decode cX7_addNut 38 = .ok (.iastore, 1) := by decide +kernel
theorem dX7_addNut_39 : decode cX7_addNut 39 = .ok (.aload_n 0, 1) := by decide +kernel
theorem dX7_addNut_40 : decode cX7_addNut 40 = .ok (.getfield 24, 3) := by decide +kernel
theorem dX7_addNut_43 : decode cX7_addNut 43 = .ok (.aload_n 0, 1) := by decide +kernel
theorem dX7_addNut_44 : decode cX7_addNut 44 = .ok (.getfield 40, 3) := by decide +kernel
theorem dX7_addNut_47 : decode cX7_addNut 47 = .ok (.iload_n 3, 1) := by decide +kernel
theorem dX7_addNut_48 : decode cX7_addNut 48 = .ok (.iastore, 1) := by decide +kernel
theorem dX7_addNut_49 : decode cX7_addNut 49 = .ok (.aload_n 0, 1) := by decide +kernel
theorem dX7_addNut_50 : decode cX7_addNut 50 = .ok (.getfield 27, 3) := by decide +kernel
theorem dX7_addNut_53 : decode cX7_addNut 53 = .ok (.aload_n 0, 1) := by decide +kernel
theorem dX7_addNut_54 : decode cX7_addNut 54 = .ok (.getfield 40, 3) := by decide +kernel
theorem dX7_addNut_57 : decode cX7_addNut 57 = .ok (.iload 4, 2) := by decide +kernel
theorem dX7_addNut_59 : decode cX7_addNut 59 = .ok (.iastore, 1) := by decide +kernel
theorem dX7_addNut_60 : decode cX7_addNut 60 = .ok (.aload_n 0, 1) := by decide +kernel
theorem dX7_addNut_61 : decode cX7_addNut 61 = .ok (.getfield 30, 3) := by decide +kernel
theorem dX7_addNut_64 : decode cX7_addNut 64 = .ok (.aload_n 0, 1) := by decide +kernel
theorem dX7_addNut_65 : decode cX7_addNut 65 = .ok (.getfield 40, 3) := by decide +kernel
theorem dX7_addNut_68 : decode cX7_addNut 68 = .ok (.iconst 0, 1) := by decide +kernel
theorem dX7_addNut_69 : decode cX7_addNut 69 = .ok (.iastore, 1) := by decide +kernel
theorem dX7_addNut_70 : decode cX7_addNut 70 = .ok (.aload_n 0, 1) := by decide +kernel
theorem dX7_addNut_71 : decode cX7_addNut 71 = .ok (.getfield 33, 3) := by decide +kernel
theorem dX7_addNut_74 : decode cX7_addNut 74 = .ok (.aload_n 0, 1) := by decide +kernel
theorem dX7_addNut_75 : decode cX7_addNut 75 = .ok (.getfield 40, 3) := by decide +kernel
theorem dX7_addNut_78 : decode cX7_addNut 78 = .ok (.iconst 1, 1) := by decide +kernel
theorem dX7_addNut_79 : decode cX7_addNut 79 = .ok (.iastore, 1) := by decide +kernel
theorem dX7_addNut_80 : decode cX7_addNut 80 = .ok (.aload_n 0, 1) := by decide +kernel
theorem dX7_addNut_81 : decode cX7_addNut 81 = .ok (.dup, 1) := by decide +kernel
theorem dX7_addNut_82 : decode cX7_addNut 82 = .ok (.getfield 40, 3) := by decide +kernel
theorem dX7_addNut_85 : decode cX7_addNut 85 = .ok (.dup_x1, 1) := by decide +kernel
theorem dX7_addNut_86 : decode cX7_addNut 86 = .ok (.iconst 1, 1) := by decide +kernel
theorem dX7_addNut_87 : decode cX7_addNut 87 = .ok (.iadd, 1) := by decide +kernel
theorem dX7_addNut_88 : decode cX7_addNut 88 = .ok (.putfield 40, 3) := by decide +kernel
theorem dX7_addNut_91 : decode cX7_addNut 91 = .ok (.ireturn, 1) := by decide +kernel
theorem dX7_isPlayer_0 : decode cX7_isPlayer 0 = .ok (.iconst 0, 1) := by decide +kernel
theorem dX7_isPlayer_1 : decode cX7_isPlayer 1 = .ok (.iload_n 1, 1) := by decide +kernel
theorem dX7_isPlayer_2 : decode cX7_isPlayer 2 = .ok (.if_icmp .gt 15, 3) := by decide +kernel
theorem dX7_isPlayer_5 : decode cX7_isPlayer 5 = .ok (.iload_n 1, 1) := by decide +kernel
theorem dX7_isPlayer_6 : decode cX7_isPlayer 6 = .ok (.aload_n 0, 1) := by decide +kernel
theorem dX7_isPlayer_7 : decode cX7_isPlayer 7 = .ok (.getfield 36, 3) := by decide +kernel
theorem dX7_isPlayer_10 : decode cX7_isPlayer 10 = .ok (.if_icmp .ge 7, 3) := by decide +kernel
theorem dX7_isPlayer_13 : decode cX7_isPlayer 13 = .ok (.iconst 1, 1) := by decide +kernel
theorem dX7_isPlayer_14 : decode cX7_isPlayer 14 = .ok (.goto 4, 3) := by decide +kernel
theorem dX7_isPlayer_17 : decode cX7_isPlayer 17 = .ok (.iconst 0, 1) := by decide +kernel
theorem dX7_isPlayer_18 : decode cX7_isPlayer 18 = .ok (.ireturn, 1) := by decide +kernel
theorem dX7_isNut_0 : decode cX7_isNut 0 = .ok (.iconst 0, 1) := by decide +kernel
theorem dX7_isNut_1 : decode cX7_isNut 1 = .ok (.iload_n 1, 1) := by decide +kernel
theorem dX7_isNut_2 : decode cX7_isNut 2 = .ok (.if_icmp .gt 15, 3) := by decide +kernel
theorem dX7_isNut_5 : decode cX7_isNut 5 = .ok (.iload_n 1, 1) := by decide +kernel
theorem dX7_isNut_6 : decode cX7_isNut 6 = .ok (.aload_n 0, 1) := by decide +kernel
theorem dX7_isNut_7 : decode cX7_isNut 7 = .ok (.getfield 40, 3) := by decide +kernel
theorem dX7_isNut_10 : decode cX7_isNut 10 = .ok (.if_icmp .ge 7, 3) := by decide +kernel
theorem dX7_isNut_13 : decode cX7_isNut 13 = .ok (.iconst 1, 1) := by decide +kernel
theorem dX7_isNut_14 : decode cX7_isNut 14 = .ok (.goto 4, 3) := by decide +kernel
theorem dX7_isNut_17 : decode cX7_isNut 17 = .ok (.iconst 0, 1) := by decide +kernel
theorem dX7_isNut_18 : decode cX7_isNut 18 = .ok (.ireturn, 1) := by decide +kernel
theorem dX7_isBroken_0 : decode cX7_isBroken 0 = .ok (.aload_n 0, 1) := by decide +kernel
theorem dX7_isBroken_1 : decode cX7_isBroken 1 = .ok (.iload_n 1, 1) := by decide +kernel
theorem dX7_isBroken_2 : decode cX7_isBroken 2 = .ok (.invokevirtual 56, 3) := by decide +kernel
theorem dX7_isBroken_5 : decode cX7_isBroken 5 = .ok (.ifCond .eq 18, 3) := by decide +kernel
theorem dX7_isBroken_8 : decode cX7_isBroken 8 = .ok (.aload_n 0, 1) := by decide +kernel
theorem dX7_isBroken_9 : decode cX7_isBroken 9 = .ok (.getfield 30, 3) := by decide +kernel
theorem dX7_isBroken_12 : decode cX7_isBroken 12 = .ok (.iload_n 1, 1) := by decide +kernel
theorem dX7_isBroken_13 : decode cX7_isBroken 13 = .ok (.iaload, 1) := by decide +kernel
theorem dX7_isBroken_14 : decode cX7_isBroken 14 = .ok (.bipush 10, 2) := by decide +kernel
theorem dX7_isBroken_16 : decode cX7_isBroken 16 = .ok (.if_icmp .lt 7, 3) := by decide +kernel
theorem dX7_isBroken_19 : decode cX7_isBroken 19 = .ok (.iconst 1, 1) := by decide +kernel
theorem dX7_isBroken_20 : decode cX7_isBroken 20 = .ok (.goto 4, 3) := by decide +kernel
theorem dX7_isBroken_23 : decode cX7_isBroken 23 = .ok (.iconst 0, 1) := by decide +kernel
theorem dX7_isBroken_24 : decode cX7_isBroken 24 = .ok (.ireturn, 1) := by decide +kernel
theorem dX7_isWhole_0 : decode cX7_isWhole 0 = .ok (.aload_n 0, 1) := by decide +kernel
theorem dX7_isWhole_1 : decode cX7_isWhole 1 = .ok (.iload_n 1, 1) := by decide +kernel
theorem dX7_isWhole_2 : decode cX7_isWhole 2 = .ok (.invokevirtual 56, 3) := by decide +kernel
theorem dX7_isWhole_5 : decode cX7_isWhole 5 = .ok (.ifCond .eq 18, 3) := by decide +kernel
theorem dX7_isWhole_8 : decode cX7_isWhole 8 = .ok (.aload_n 0, 1) := by decide +kernel
theorem dX7_isWhole_9 : decode cX7_isWhole 9 = .ok (.getfield 30, 3) := by decide +kernel
theorem dX7_isWhole_12 : decode cX7_isWhole 12 = .ok (.iload_n 1, 1) := by decide +kernel
theorem dX7_isWhole_13 : decode cX7_isWhole 13 = .ok (.iaload, 1) := by decide +kernel
theorem dX7_isWhole_14 : decode cX7_isWhole 14 = .ok (.bipush 10, 2) := by decide +kernel
theorem dX7_isWhole_16 : decode cX7_isWhole 16 = .ok (.if_icmp .ge 7, 3) := by decide +kernel
theorem dX7_isWhole_19 : decode cX7_isWhole 19 = .ok (.iconst 1, 1) := by decide +kernel
theorem dX7_isWhole_20 : decode cX7_isWhole 20 = .ok (.goto 4, 3) := by decide +kernel
theorem dX7_isWhole_23 : decode cX7_isWhole 23 = .ok (.iconst 0, 1) := by decide +kernel
theorem dX7_isWhole_24 : decode cX7_isWhole 24 = .ok (.ireturn, 1) := by decide +kernel
theorem dX7_isWholeOf_0 : decode cX7_isWholeOf 0 = .ok (.aload_n 0, 1) := by decide +kernel
theorem dX7_isWholeOf_1 : decode cX7_isWholeOf 1 = .ok (.iload_n 1, 1) := by decide +kernel
theorem dX7_isWholeOf_2 : decode cX7_isWholeOf 2 = .ok (.invokevirtual 60, 3) := by decide +kernel
theorem dX7_isWholeOf_5 : decode cX7_isWholeOf 5 = .ok (.ifCond .eq 17, 3) := by decide +kernel
theorem dX7_isWholeOf_8 : decode cX7_isWholeOf 8 = .ok (.aload_n 0, 1) := by decide +kernel
theorem dX7_isWholeOf_9 : decode cX7_isWholeOf 9 = .ok (.getfield 18, 3) := by decide +kernel
theorem dX7_isWholeOf_12 : decode cX7_isWholeOf 12 = .ok (.iload_n 1, 1) := by decide +kernel
theorem dX7_isWholeOf_13 : decode cX7_isWholeOf 13 = .ok (.iaload, 1) := by decide +kernel
theorem dX7_isWholeOf_14 : decode cX7_isWholeOf 14 = .ok (.iload_n 2, 1) := by decide +kernel
theorem dX7_isWholeOf_15 : decode cX7_isWholeOf 15 = .ok (.if_icmp .ne 7, 3) := by decide +kernel
theorem dX7_isWholeOf_18 : decode cX7_isWholeOf 18 = .ok (.iconst 1, 1) := by decide +kernel
theorem dX7_isWholeOf_19 : decode cX7_isWholeOf 19 = .ok (.goto 4, 3) := by decide +kernel
theorem dX7_isWholeOf_22 : decode cX7_isWholeOf 22 = .ok (.iconst 0, 1) := by decide +kernel
theorem dX7_isWholeOf_23 : decode cX7_isWholeOf 23 = .ok (.ireturn, 1) := by decide +kernel
theorem dX7_canStrike_0 : decode cX7_canStrike 0 = .ok (.aload_n 0, 1) := by decide +kernel
theorem dX7_canStrike_1 : decode cX7_canStrike 1 = .ok (.iload_n 1, 1) := by decide +kernel
theorem dX7_canStrike_2 : decode cX7_canStrike 2 = .ok (.invokevirtual 56, 3) := by decide +kernel
theorem dX7_canStrike_5 : decode cX7_canStrike 5 = .ok (.ifCond .eq 26, 3) := by decide +kernel
theorem dX7_canStrike_8 : decode cX7_canStrike 8 = .ok (.aload_n 0, 1) := by decide +kernel
theorem dX7_canStrike_9 : decode cX7_canStrike 9 = .ok (.iload_n 2, 1) := by decide +kernel
theorem dX7_canStrike_10 : decode cX7_canStrike 10 = .ok (.invokevirtual 56, 3) := by decide +kernel
theorem dX7_canStrike_13 : decode cX7_canStrike 13 = .ok (.ifCond .eq 18, 3) := by decide +kernel
theorem dX7_canStrike_16 : decode cX7_canStrike 16 = .ok (.aload_n 0, 1) := by decide +kernel
theorem dX7_canStrike_17 : decode cX7_canStrike 17 = .ok (.getfield 18, 3) := by decide +kernel
theorem dX7_canStrike_20 : decode cX7_canStrike 20 = .ok (.iload_n 1, 1) := by decide +kernel
theorem dX7_canStrike_21 : decode cX7_canStrike 21 = .ok (.iaload, 1) := by decide +kernel
theorem dX7_canStrike_22 : decode cX7_canStrike 22 = .ok (.aload_n 0, 1) := by decide +kernel
theorem dX7_canStrike_23 : decode cX7_canStrike 23 = .ok (.getfield 18, 3) := by decide +kernel
theorem dX7_canStrike_26 : decode cX7_canStrike 26 = .ok (.iload_n 2, 1) := by decide +kernel
theorem dX7_canStrike_27 : decode cX7_canStrike 27 = .ok (.iaload, 1) := by decide +kernel
theorem dX7_canStrike_28 : decode cX7_canStrike 28 = .ok (.if_icmp .ne 5, 3) := by decide +kernel
theorem dX7_canStrike_31 : decode cX7_canStrike 31 = .ok (.iconst 0, 1) := by decide +kernel
theorem dX7_canStrike_32 : decode cX7_canStrike 32 = .ok (.ireturn, 1) := by decide +kernel
theorem dX7_canStrike_33 : decode cX7_canStrike 33 = .ok (.aload_n 0, 1) := by decide +kernel
theorem dX7_canStrike_34 : decode cX7_canStrike 34 = .ok (.getfield 30, 3) := by decide +kernel
theorem dX7_canStrike_37 : decode cX7_canStrike 37 = .ok (.iload_n 1, 1) := by decide +kernel
theorem dX7_canStrike_38 : decode cX7_canStrike 38 = .ok (.iaload, 1) := by decide +kernel
theorem dX7_canStrike_39 : decode cX7_canStrike 39 = .ok (.bipush 10, 2) := by decide +kernel
theorem dX7_canStrike_41 : decode cX7_canStrike 41 = .ok (.if_icmp .ge 18, 3) := by decide +kernel
theorem dX7_canStrike_44 : decode cX7_canStrike 44 = .ok (.aload_n 0, 1) := by decide +kernel
theorem dX7_canStrike_45 : decode cX7_canStrike 45 = .ok (.getfield 30, 3) := by decide +kernel
theorem dX7_canStrike_48 : decode cX7_canStrike 48 = .ok (.iload_n 2, 1) := by decide +kernel
theorem dX7_canStrike_49 : decode cX7_canStrike 49 = .ok (.iaload, 1) := by decide +kernel
theorem dX7_canStrike_50 : decode cX7_canStrike 50 = .ok (.bipush 10, 2) := by decide +kernel
theorem dX7_canStrike_52 : decode cX7_canStrike 52 = .ok (.if_icmp .ge 7, 3) := by decide +kernel
theorem dX7_canStrike_55 : decode cX7_canStrike 55 = .ok (.iconst 1, 1) := by decide +kernel
theorem dX7_canStrike_56 : decode cX7_canStrike 56 = .ok (.goto 4, 3) := by decide +kernel
theorem dX7_canStrike_59 : decode cX7_canStrike 59 = .ok (.iconst 0, 1) := by decide +kernel
theorem dX7_canStrike_60 : decode cX7_canStrike 60 = .ok (.ireturn, 1) := by decide +kernel
theorem dX7_nextNumber_0 : decode cX7_nextNumber 0 = .ok (.sipush 9999, 3) := by decide +kernel
theorem dX7_nextNumber_3 : decode cX7_nextNumber 3 = .ok (.aload_n 0, 1) := by decide +kernel
theorem dX7_nextNumber_4 : decode cX7_nextNumber 4 = .ok (.getfield 43, 3) := by decide +kernel
theorem dX7_nextNumber_7 : decode cX7_nextNumber 7 = .ok (.iconst 1, 1) := by decide +kernel
theorem dX7_nextNumber_8 : decode cX7_nextNumber 8 = .ok (.iadd, 1) := by decide +kernel
theorem dX7_nextNumber_9 : decode cX7_nextNumber 9 = .ok (.invokestatic 63, 3) := by decide +kernel
theorem dX7_nextNumber_12 : decode cX7_nextNumber 12 = .ok (.ireturn, 1) := by decide +kernel
theorem dX7_pass_0 : decode cX7_pass 0 = .ok (.aload_n 0, 1) := by decide +kernel
theorem dX7_pass_1 : decode cX7_pass 1 = .ok (.sipush 9999, 3) := by decide +kernel
theorem dX7_pass_4 : decode cX7_pass 4 = .ok (.aload_n 0, 1) := by decide +kernel
theorem dX7_pass_5 : decode cX7_pass 5 = .ok (.getfield 43, 3) := by decide +kernel
theorem dX7_pass_8 : decode cX7_pass 8 = .ok (.iload_n 1, 1) := by decide +kernel
theorem dX7_pass_9 : decode cX7_pass 9 = .ok (.iadd, 1) := by decide +kernel
theorem dX7_pass_10 : decode cX7_pass 10 = .ok (.invokestatic 63, 3) := by decide +kernel
theorem dX7_pass_13 : decode cX7_pass 13 = .ok (.putfield 43, 3) := by decide +kernel
theorem dX7_pass_16 : decode cX7_pass 16 = .ok (.return_, 1) := by decide +kernel
theorem dX7_handOver_0 : decode cX7_handOver 0 = .ok (.aload_n 0, 1) := by decide +kernel
theorem dX7_handOver_1 : decode cX7_handOver 1 = .ok (.iload_n 1, 1) := by decide +kernel
theorem dX7_handOver_2 : decode cX7_handOver 2 = .ok (.invokevirtual 56, 3) := by decide +kernel
theorem dX7_handOver_5 : decode cX7_handOver 5 = .ok (.ifCond .eq 18, 3) := by decide +kernel
theorem dX7_handOver_8 : decode cX7_handOver 8 = .ok (.aload_n 0, 1) := by decide +kernel
theorem dX7_handOver_9 : decode cX7_handOver 9 = .ok (.iload_n 2, 1) := by decide +kernel
theorem dX7_handOver_10 : decode cX7_handOver 10 = .ok (.invokevirtual 69, 3) := by decide +kernel
theorem dX7_handOver_13 : decode cX7_handOver 13 = .ok (.ifCond .eq 10, 3) := by decide +kernel
theorem dX7_handOver_16 : decode cX7_handOver 16 = .ok (.aload_n 0, 1) := by decide +kernel
theorem dX7_handOver_17 : decode cX7_handOver 17 = .ok (.getfield 18, 3) := by decide +kernel
theorem dX7_handOver_20 : decode cX7_handOver 20 = .ok (.iload_n 1, 1) := by decide +kernel
theorem dX7_handOver_21 : decode cX7_handOver 21 = .ok (.iload_n 2, 1) := by decide +kernel
theorem dX7_handOver_22 : decode cX7_handOver 22 = .ok (.iastore, 1) := by decide +kernel
theorem dX7_handOver_23 : decode cX7_handOver 23 = .ok (.return_, 1) := by decide +kernel
theorem dX7_makeHard_0 : decode cX7_makeHard 0 = .ok (.aload_n 0, 1) := by decide +kernel
theorem dX7_makeHard_1 : decode cX7_makeHard 1 = .ok (.iload_n 1, 1) := by decide +kernel
theorem dX7_makeHard_2 : decode cX7_makeHard 2 = .ok (.invokevirtual 56, 3) := by decide +kernel
theorem dX7_makeHard_5 : decode cX7_makeHard 5 = .ok (.ifCond .eq 10, 3) := by decide +kernel
theorem dX7_makeHard_8 : decode cX7_makeHard 8 = .ok (.aload_n 0, 1) := by decide +kernel
theorem dX7_makeHard_9 : decode cX7_makeHard 9 = .ok (.getfield 24, 3) := by decide +kernel
theorem dX7_makeHard_12 : decode cX7_makeHard 12 = .ok (.iload_n 1, 1) := by decide +kernel
theorem dX7_makeHard_13 : decode cX7_makeHard 13 = .ok (.iload_n 2, 1) := by decide +kernel
theorem dX7_makeHard_14 : decode cX7_makeHard 14 = .ok (.iastore, 1) := by decide +kernel
theorem dX7_makeHard_15 : decode cX7_makeHard 15 = .ok (.return_, 1) := by decide +kernel
theorem dX7_strike_0 : decode cX7_strike 0 = .ok (.aload_n 0, 1) := by decide +kernel
theorem dX7_strike_1 : decode cX7_strike 1 = .ok (.iload_n 1, 1) := by decide +kernel
theorem dX7_strike_2 : decode cX7_strike 2 = .ok (.iload_n 2, 1) := by decide +kernel
theorem dX7_strike_3 : decode cX7_strike 3 = .ok (.invokevirtual 72, 3) := by decide +kernel
theorem dX7_strike_6 : decode cX7_strike 6 = .ok (.ifCond .ne 5, 3) := by decide +kernel
theorem dX7_strike_9 : decode cX7_strike 9 = .ok (.iconst 0, 1) := by decide +kernel
theorem dX7_strike_10 : decode cX7_strike 10 = .ok (.ireturn, 1) := by decide +kernel

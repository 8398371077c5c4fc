theorem dX9_player_6 : decode cX9_player 6 = .ok (.ifCond .eq 13, 3) := by decide +kernel
theorem dX9_player_9 : decode cX9_player 9 = .ok (.iload_n 2, 1) := by decide +kernel
theorem dX9_player_10 : decode cX9_player 10 = .ok (.iconst 1, 1) := by decide +kernel
theorem dX9_player_11 : decode cX9_player 11 = .ok (.bipush 9, 2) := by decide +kernel
theorem dX9_player_13 : decode cX9_player 13 = .ok (.invokestatic 57, 3) := by decide +kernel
theorem dX9_player_16 : decode cX9_player 16 = .ok (.ifCond .ne 10, 3) := by decide +kernel
theorem dX9_player_19 : decode cX9_player 19 = .ok (.aload_n 0, 1) := by decide +kernel
theorem dX9_player_20 : decode cX9_player 20 = .ok (.bipush (-2), 2) := by decide +kernel
theorem dX9_player_22 : decode cX9_player 22 = .ok (.invokevirtual 61, 3) := by decide +kernel
theorem dX9_player_25 : decode cX9_player 25 = .ok (.ireturn, 1) := by decide +kernel
theorem dX9_player_26 : decode cX9_player 26 = .ok (.aload_n 0, 1) := by decide +kernel
theorem dX9_player_27 : decode cX9_player 27 = .ok (.getfield 17, 3) := by decide +kernel
theorem dX9_player_30 : decode cX9_player 30 = .ok (.iconst 1, 1) := by decide +kernel
theorem dX9_player_31 : decode cX9_player 31 = .ok (.iaload, 1) := by decide +kernel
theorem dX9_player_32 : decode cX9_player 32 = .ok (.iconst 3, 1) := by decide +kernel
theorem dX9_player_33 : decode cX9_player 33 = .ok (.if_icmp .ne 8, 3) := by decide +kernel
theorem dX9_player_36 : decode cX9_player 36 = .ok (.aload_n 0, 1) := by decide +kernel
theorem dX9_player_37 : decode cX9_player 37 = .ok (.invokevirtual 114, 3) := by decide +kernel
theorem dX9_player_40 : decode cX9_player 40 = .ok (.ireturn, 1) := by decide +kernel
theorem dX9_player_41 : decode cX9_player 41 = .ok (.aload_n 0, 1) := by decide +kernel
theorem dX9_player_42 : decode cX9_player 42 = .ok (.iconst 0, 1) := by decide +kernel
theorem dX9_player_43 : decode cX9_player 43 = .ok (.putfield 103, 3) := by decide +kernel
theorem dX9_player_46 : decode cX9_player 46 = .ok (.aload_n 0, 1) := by decide +kernel
theorem dX9_player_47 : decode cX9_player 47 = .ok (.getfield 17, 3) := by decide +kernel
theorem dX9_player_50 : decode cX9_player 50 = .ok (.iload_n 1, 1) := by decide +kernel
theorem dX9_player_51 : decode cX9_player 51 = .ok (.iload_n 2, 1) := by decide +kernel
theorem dX9_player_52 : decode cX9_player 52 = .ok (.invokestatic 118, 3) := by decide +kernel
theorem dX9_player_55 : decode cX9_player 55 = .ok (.ireturn, 1) := by decide +kernel
theorem dX9_comes_0 : decode cX9_comes 0 = .ok (.aload_n 0, 1) := by decide +kernel
theorem dX9_comes_1 : decode cX9_comes 1 = .ok (.iconst 2, 1) := by decide +kernel
theorem dX9_comes_2 : decode cX9_comes 2 = .ok (.iaload, 1) := by decide +kernel
theorem dX9_comes_3 : decode cX9_comes 3 = .ok (.istore 5, 2) := by decide +kernel
theorem dX9_comes_5 : decode cX9_comes 5 = .ok (.aload_n 0, 1) := by decide +kernel
theorem dX9_comes_6 : decode cX9_comes 6 = .ok (.bipush 9, 2) := by decide +kernel
theorem dX9_comes_8 : decode cX9_comes 8 = .ok (.iload 5, 2) := by decide +kernel
theorem dX9_comes_10 : decode cX9_comes 10 = .ok (.iadd, 1) := by decide +kernel
theorem dX9_comes_11 : decode cX9_comes 11 = .ok (.iload_n 1, 1) := by decide +kernel
theorem dX9_comes_12 : decode cX9_comes 12 = .ok (.iastore, 1) := by decide +kernel
theorem dX9_comes_13 : decode cX9_comes 13 = .ok (.aload_n 0, 1) := by decide +kernel
theorem dX9_comes_14 : decode cX9_comes 14 = .ok (.bipush 15, 2) := by decide +kernel
theorem dX9_comes_16 : decode cX9_comes 16 = .ok (.iload 5, 2) := by decide +kernel
theorem dX9_comes_18 : decode cX9_comes 18 = .ok (.iadd, 1) := by decide +kernel
theorem dX9_comes_19 : decode cX9_comes 19 = .ok (.iload_n 2, 1) := by decide +kernel
theorem dX9_comes_20 : decode cX9_comes 20 = .ok (.iastore, 1) := by decide +kernel
theorem dX9_comes_21 : decode cX9_comes 21 = .ok (.aload_n 0, 1) := by decide +kernel
theorem dX9_comes_22 : decode cX9_comes 22 = .ok (.bipush 21, 2) := by decide +kernel
theorem dX9_comes_24 : decode cX9_comes 24 = .ok (.iload 5, 2) := by decide +kernel
theorem dX9_comes_26 : decode cX9_comes 26 = .ok (.iadd, 1) := by decide +kernel
theorem dX9_comes_27 : decode cX9_comes 27 = .ok (.iload_n 3, 1) := by decide +kernel
theorem dX9_comes_28 : decode cX9_comes 28 = .ok (.iastore, 1) := by decide +kernel
theorem dX9_comes_29 : decode cX9_comes 29 = .ok (.aload_n 0, 1) := by decide +kernel
theorem dX9_comes_30 : decode cX9_comes 30 = .ok (.bipush 27, 2) := by decide +kernel
theorem dX9_comes_32 : decode cX9_comes 32 = .ok (.iload 5, 2) := by decide +kernel
theorem dX9_comes_34 : decode cX9_comes 34 = .ok (.iadd, 1) := by decide +kernel
theorem dX9_comes_35 : decode cX9_comes 35 = .ok (.iload 4, 2) := by decide +kernel
theorem dX9_comes_37 : decode cX9_comes 37 = .ok (.iastore, 1) := by decide +kernel
theorem dX9_comes_38 : decode cX9_comes 38 = .ok (.aload_n 0, 1) := by decide +kernel
theorem dX9_comes_39 : decode cX9_comes 39 = .ok (.bipush 33, 2) := by decide +kernel
theorem dX9_comes_41 : decode cX9_comes 41 = .ok (.iload 5, 2) := by decide +kernel
theorem dX9_comes_43 : decode cX9_comes 43 = .ok (.iadd, 1) := by decide +kernel
theorem dX9_comes_44 : decode cX9_comes 44 = .ok (.iconst 0, 1) := by decide +kernel
theorem dX9_comes_45 : decode cX9_comes 45 = .ok (.iastore, 1) := by decide +kernel
theorem dX9_comes_46 : decode cX9_comes 46 = .ok (.aload_n 0, 1) := by decide +kernel
theorem dX9_comes_47 : decode cX9_comes 47 = .ok (.bipush 39, 2) := by decide +kernel
theorem dX9_comes_49 : decode cX9_comes 49 = .ok (.iload 5, 2) := by decide +kernel
theorem dX9_comes_51 : decode cX9_comes 51 = .ok (.iadd, 1) := by decide +kernel
theorem dX9_comes_52 : decode cX9_comes 52 = .ok (.iconst 1, 1) := by decide +kernel
theorem dX9_comes_53 : decode cX9_comes 53 = .ok (.iastore, 1) := by decide +kernel
theorem dX9_comes_54 : decode cX9_comes 54 = .ok (.aload_n 0, 1) := by decide +kernel
theorem dX9_comes_55 : decode cX9_comes 55 = .ok (.iconst 2, 1) := by decide +kernel
theorem dX9_comes_56 : decode cX9_comes 56 = .ok (.dup2, 1) := by decide +kernel
theorem dX9_comes_57 : decode cX9_comes 57 = .ok (.iaload, 1) := by decide +kernel
theorem dX9_comes_58 : decode cX9_comes 58 = .ok (.iconst 1, 1) := by decide +kernel
theorem dX9_comes_59 : decode cX9_comes 59 = .ok (.iadd, 1) := by decide +kernel
theorem dX9_comes_60 : decode cX9_comes 60 = .ok (.iastore, 1) := by decide +kernel
theorem dX9_comes_61 : decode cX9_comes 61 = .ok (.iload 5, 2) := by decide +kernel
theorem dX9_comes_63 : decode cX9_comes 63 = .ok (.ireturn, 1) := by decide +kernel
theorem dX9_nut_0 : decode cX9_nut 0 = .ok (.iload_n 1, 1) := by decide +kernel
theorem dX9_nut_1 : decode cX9_nut 1 = .ok (.iconst 0, 1) := by decide +kernel
theorem dX9_nut_2 : decode cX9_nut 2 = .ok (.aload_n 0, 1) := by decide +kernel
theorem dX9_nut_3 : decode cX9_nut 3 = .ok (.getfield 17, 3) := by decide +kernel
theorem dX9_nut_6 : decode cX9_nut 6 = .ok (.iconst 1, 1) := by decide +kernel
theorem dX9_nut_7 : decode cX9_nut 7 = .ok (.iaload, 1) := by decide +kernel
theorem dX9_nut_8 : decode cX9_nut 8 = .ok (.iconst 1, 1) := by decide +kernel
theorem dX9_nut_9 : decode cX9_nut 9 = .ok (.isub, 1) := by decide +kernel
theorem dX9_nut_10 : decode cX9_nut 10 = .ok (.invokestatic 57, 3) := by decide +kernel
theorem dX9_nut_13 : decode cX9_nut 13 = .ok (.ifCond .eq 33, 3) := by decide +kernel
theorem dX9_nut_16 : decode cX9_nut 16 = .ok (.iload_n 2, 1) := by decide +kernel
theorem dX9_nut_17 : decode cX9_nut 17 = .ok (.iconst 0, 1) := by decide +kernel
theorem dX9_nut_18 : decode cX9_nut 18 = .ok (.iconst 5, 1) := by decide +kernel
theorem dX9_nut_19 : decode cX9_nut 19 = .ok (.invokestatic 57, 3) := by decide +kernel
theorem dX9_nut_22 : decode cX9_nut 22 = .ok (.ifCond .eq 24, 3) := by decide +kernel
theorem dX9_nut_25 : decode cX9_nut 25 = .ok (.iload_n 3, 1) := by decide +kernel
theorem dX9_nut_26 : decode cX9_nut 26 = .ok (.iconst 0, 1) := by decide +kernel
theorem dX9_nut_27 : decode cX9_nut 27 = .ok (.bipush 9, 2) := by decide +kernel
theorem dX9_nut_29 : decode cX9_nut 29 = .ok (.invokestatic 57, 3) := by decide +kernel
theorem dX9_nut_32 : decode cX9_nut 32 = .ok (.ifCond .eq 14, 3) := by decide +kernel
theorem dX9_nut_35 : decode cX9_nut 35 = .ok (.iload 4, 2) := by decide +kernel
theorem dX9_nut_37 : decode cX9_nut 37 = .ok (.iconst 1, 1) := by decide +kernel
theorem dX9_nut_38 : decode cX9_nut 38 = .ok (.bipush 9, 2) := by decide +kernel
theorem dX9_nut_40 : decode cX9_nut 40 = .ok (.invokestatic 57, 3) := by decide +kernel
theorem dX9_nut_43 : decode cX9_nut 43 = .ok (.ifCond .ne 10, 3) := by decide +kernel
theorem dX9_nut_46 : decode cX9_nut 46 = .ok (.aload_n 0, 1) := by decide +kernel
theorem dX9_nut_47 : decode cX9_nut 47 = .ok (.bipush (-2), 2) := by decide +kernel
theorem dX9_nut_49 : decode cX9_nut 49 = .ok (.invokevirtual 61, 3) := by decide +kernel
theorem dX9_nut_52 : decode cX9_nut 52 = .ok (.ireturn, 1) := by decide +kernel
theorem dX9_nut_53 : decode cX9_nut 53 = .ok (.aload_n 0, 1) := by decide +kernel
theorem dX9_nut_54 : decode cX9_nut 54 = .ok (.getfield 17, 3) := by decide +kernel
theorem dX9_nut_57 : decode cX9_nut 57 = .ok (.iconst 2, 1) := by decide +kernel
theorem dX9_nut_58 : decode cX9_nut 58 = .ok (.iaload, 1) := by decide +kernel
theorem dX9_nut_59 : decode cX9_nut 59 = .ok (.bipush 6, 2) := by decide +kernel
theorem dX9_nut_61 : decode cX9_nut 61 = .ok (.if_icmp .ne 8, 3) := by decide +kernel
theorem dX9_nut_64 : decode cX9_nut 64 = .ok (.aload_n 0, 1) := by decide +kernel
theorem dX9_nut_65 : decode cX9_nut 65 = .ok (.invokevirtual 114, 3) := by decide +kernel
theorem dX9_nut_68 : decode cX9_nut 68 = .ok (.ireturn, 1) := by decide +kernel
theorem dX9_nut_69 : decode cX9_nut 69 = .ok (.aload_n 0, 1) := by decide +kernel
theorem dX9_nut_70 : decode cX9_nut 70 = .ok (.iconst 0, 1) := by decide +kernel
theorem dX9_nut_71 : decode cX9_nut 71 = .ok (.putfield 103, 3) := by decide +kernel
theorem dX9_nut_74 : decode cX9_nut 74 = .ok (.aload_n 0, 1) := by decide +kernel
theorem dX9_nut_75 : decode cX9_nut 75 = .ok (.getfield 17, 3) := by decide +kernel
theorem dX9_nut_78 : decode cX9_nut 78 = .ok (.iload_n 1, 1) := by decide +kernel
theorem dX9_nut_79 : decode cX9_nut 79 = .ok (.iload_n 2, 1) := by decide +kernel
theorem dX9_nut_80 : decode cX9_nut 80 = .ok (.iload_n 3, 1) := by decide +kernel
theorem dX9_nut_81 : decode cX9_nut 81 = .ok (.iload 4, 2) := by decide +kernel
theorem dX9_nut_83 : decode cX9_nut 83 = .ok (.invokestatic 121, 3) := by decide +kernel
theorem dX9_nut_86 : decode cX9_nut 86 = .ok (.ireturn, 1) := by decide +kernel
theorem dX9_type_0 : decode cX9_type 0 = .ok (.iload_n 1, 1) := by decide +kernel
theorem dX9_type_1 : decode cX9_type 1 = .ok (.iconst 0, 1) := by decide +kernel
theorem dX9_type_2 : decode cX9_type 2 = .ok (.bipush 127, 2) := by decide +kernel
theorem dX9_type_4 : decode cX9_type 4 = .ok (.invokestatic 57, 3) := by decide +kernel
theorem dX9_type_7 : decode cX9_type 7 = .ok (.ifCond .ne 10, 3) := by decide +kernel
theorem dX9_type_10 : decode cX9_type 10 = .ok (.aload_n 0, 1) := by decide +kernel
theorem dX9_type_11 : decode cX9_type 11 = .ok (.bipush (-2), 2) := by decide +kernel
theorem dX9_type_13 : decode cX9_type 13 = .ok (.invokevirtual 61, 3) := by decide +kernel
theorem dX9_type_16 : decode cX9_type 16 = .ok (.ireturn, 1) := by decide +kernel
theorem dX9_type_17 : decode cX9_type 17 = .ok (.aload_n 0, 1) := by decide +kernel
theorem dX9_type_18 : decode cX9_type 18 = .ok (.getfield 125, 3) := by decide +kernel
theorem dX9_type_21 : decode cX9_type 21 = .ok (.sipush 150, 3) := by decide +kernel
theorem dX9_type_24 : decode cX9_type 24 = .ok (.if_icmp .ne 8, 3) := by decide +kernel
theorem dX9_type_27 : decode cX9_type 27 = .ok (.aload_n 0, 1) := by decide +kernel
theorem dX9_type_28 : decode cX9_type 28 = .ok (.invokevirtual 114, 3) := by decide +kernel
theorem dX9_type_31 : decode cX9_type 31 = .ok (.ireturn, 1) := by decide +kernel
theorem dX9_type_32 : decode cX9_type 32 = .ok (.aload_n 0, 1) := by decide +kernel
theorem dX9_type_33 : decode cX9_type 33 = .ok (.getfield 29, 3) := by decide +kernel
theorem dX9_type_36 : decode cX9_type 36 = .ok (.aload_n 0, 1) := by decide +kernel
theorem dX9_type_37 : decode cX9_type 37 = .ok (.getfield 125, 3) := by decide +kernel
theorem dX9_type_40 : decode cX9_type 40 = .ok (.iload_n 1, 1) := by decide +kernel
theorem dX9_type_41 : decode cX9_type 41 = .ok (.iastore, 1) := by decide +kernel
theorem dX9_type_42 : decode cX9_type 42 = .ok (.aload_n 0, 1) := by decide +kernel
theorem dX9_type_43 : decode cX9_type 43 = .ok (.dup, 1) := by decide +kernel
theorem dX9_type_44 : decode cX9_type 44 = .ok (.getfield 125, 3) := by decide +kernel
theorem dX9_type_47 : decode cX9_type 47 = .ok (.iconst 1, 1) := by decide +kernel
theorem dX9_type_48 : decode cX9_type 48 = .ok (.iadd, 1) := by decide +kernel
theorem dX9_type_49 : decode cX9_type 49 = .ok (.putfield 125, 3) := by decide +kernel
theorem dX9_type_52 : decode cX9_type 52 = .ok (.aload_n 0, 1) := by decide +kernel
theorem dX9_type_53 : decode cX9_type 53 = .ok (.getfield 125, 3) := by decide +kernel
theorem dX9_type_56 : decode cX9_type 56 = .ok (.ireturn, 1) := by decide +kernel
theorem dX9_clear_0 : decode cX9_clear 0 = .ok (.aload_n 0, 1) := by decide +kernel
theorem dX9_clear_1 : decode cX9_clear 1 = .ok (.getfield 125, 3) := by decide +kernel
theorem dX9_clear_4 : decode cX9_clear 4 = .ok (.istore_n 1, 1) := by decide +kernel
theorem dX9_clear_5 : decode cX9_clear 5 = .ok (.aload_n 0, 1) := by decide +kernel
theorem dX9_clear_6 : decode cX9_clear 6 = .ok (.iconst 0, 1) := by decide +kernel
theorem dX9_clear_7 : decode cX9_clear 7 = .ok (.putfield 125, 3) := by decide +kernel
theorem dX9_clear_10 : decode cX9_clear 10 = .ok (.iload_n 1, 1) := by decide +kernel
theorem dX9_clear_11 : decode cX9_clear 11 = .ok (.ireturn, 1) := by decide +kernel
theorem dX9_isHere_0 : decode cX9_isHere 0 = .ok (.aload_n 0, 1) := by decide +kernel
theorem dX9_isHere_1 : decode cX9_isHere 1 = .ok (.getfield 128, 3) := by decide +kernel
theorem dX9_isHere_4 : decode cX9_isHere 4 = .ok (.aload_n 0, 1) := by decide +kernel
theorem dX9_isHere_5 : decode cX9_isHere 5 = .ok (.getfield 125, 3) := by decide +kernel
theorem dX9_isHere_8 : decode cX9_isHere 8 = .ok (.if_icmp .ge 24, 3) := by decide +kernel
theorem dX9_isHere_11 : decode cX9_isHere 11 = .ok (.aload_n 0, 1) := by decide +kernel
theorem dX9_isHere_12 : decode cX9_isHere 12 = .ok (.getfield 29, 3) := by decide +kernel
theorem dX9_isHere_15 : decode cX9_isHere 15 = .ok (.aload_n 0, 1) := by decide +kernel
theorem dX9_isHere_16 : decode cX9_isHere 16 = .ok (.getfield 128, 3) := by decide +kernel
theorem dX9_isHere_19 : decode cX9_isHere 19 = .ok (.iaload, 1) := by decide +kernel
theorem dX9_isHere_20 : decode cX9_isHere 20 = .ok (.iload_n 1, 1) := by decide +kernel
theorem dX9_isHere_21 : decode cX9_isHere 21 = .ok (.iload_n 2, 1) := by decide +kernel
theorem dX9_isHere_22 : decode cX9_isHere 22 = .ok (.invokestatic 57, 3) := by decide +kernel
theorem dX9_isHere_25 : decode cX9_isHere 25 = .ok (.ifCond .eq 7, 3) := by decide +kernel
theorem dX9_isHere_28 : decode cX9_isHere 28 = .ok (.iconst 1, 1) := by decide +kernel
theorem dX9_isHere_29 : decode cX9_isHere 29 = .ok (.goto 4, 3) := by decide +kernel
theorem dX9_isHere_32 : decode cX9_isHere 32 = .ok (.iconst 0, 1) := by decide +kernel
theorem dX9_isHere_33 : decode cX9_isHere 33 = .ok (.ireturn, 1) := by decide +kernel
theorem dX9_next_0 : decode cX9_next 0 = .ok (.aload_n 0, 1) := by decide +kernel
theorem dX9_next_1 : decode cX9_next 1 = .ok (.bipush 32, 2) := by decide +kernel
theorem dX9_next_3 : decode cX9_next 3 = .ok (.bipush 32, 2) := by decide +kernel
theorem dX9_next_5 : decode cX9_next 5 = .ok (.invokevirtual 131, 3) := by decide +kernel
theorem dX9_next_8 : decode cX9_next 8 = .ok (.ifCond .eq 16, 3) := by decide +kernel
theorem dX9_next_11 : decode cX9_next 11 = .ok (.aload_n 0, 1) := by decide +kernel
theorem dX9_next_12 : decode cX9_next 12 = .ok (.dup, 1) := by decide +kernel
theorem dX9_next_13 : decode cX9_next 13 = .ok (.getfield 128, 3) := by decide +kernel
theorem dX9_next_16 : decode cX9_next 16 = .ok (.iconst 1, 1) := by decide +kernel
theorem dX9_next_17 : decode cX9_next 17 = .ok (.iadd, 1) := by decide +kernel
theorem dX9_next_18 : decode cX9_next 18 = .ok (.putfield 128, 3) := by decide +kernel
theorem dX9_next_21 : decode cX9_next 21 = .ok (.goto (-21), 3) := by decide +kernel
theorem dX9_next_24 : decode cX9_next 24 = .ok (.aload_n 0, 1) := by decide +kernel
theorem dX9_next_25 : decode cX9_next 25 = .ok (.aload_n 0, 1) := by decide +kernel
theorem dX9_next_26 : decode cX9_next 26 = .ok (.getfield 128, 3) := by decide +kernel
theorem dX9_next_29 : decode cX9_next 29 = .ok (.putfield 135, 3) := by decide +kernel
theorem dX9_next_32 : decode cX9_next 32 = .ok (.aload_n 0, 1) := by decide +kernel
theorem dX9_next_33 : decode cX9_next 33 = .ok (.getfield 128, 3) := by decide +kernel
theorem dX9_next_36 : decode cX9_next 36 = .ok (.aload_n 0, 1) := by decide +kernel
theorem dX9_next_37 : decode cX9_next 37 = .ok (.getfield 125, 3) := by decide +kernel
theorem dX9_next_40 : decode cX9_next 40 = .ok (.if_icmp .ne 11, 3) := by decide +kernel
theorem dX9_next_43 : decode cX9_next 43 = .ok (.aload_n 0, 1) := by decide +kernel
theorem dX9_next_44 : decode cX9_next 44 = .ok (.iconst (-1), 1) := by decide +kernel
theorem dX9_next_45 : decode cX9_next 45 = .ok (.putfield 138, 3) := by decide +kernel
theorem dX9_next_48 : decode cX9_next 48 = .ok (.goto 190, 3) := by decide +kernel
theorem dX9_next_51 : decode cX9_next 51 = .ok (.aload_n 0, 1) := by decide +kernel
theorem dX9_next_52 : decode cX9_next 52 = .ok (.bipush 97, 2) := by decide +kernel
theorem dX9_next_54 : decode cX9_next 54 = .ok (.bipush 122, 2) := by decide +kernel
theorem dX9_next_56 : decode cX9_next 56 = .ok (.invokevirtual 131, 3) := by decide +kernel
theorem dX9_next_59 : decode cX9_next 59 = .ok (.ifCond .eq 103, 3) := by decide +kernel
theorem dX9_next_62 : decode cX9_next 62 = .ok (.aload_n 0, 1) := by decide +kernel
theorem dX9_next_63 : decode cX9_next 63 = .ok (.iconst 0, 1) := by decide +kernel
theorem dX9_next_64 : decode cX9_next 64 = .ok (.putfield 138, 3) := by decide +kernel
theorem dX9_next_67 : decode cX9_next 67 = .ok (.aload_n 0, 1) := by decide +kernel
theorem dX9_next_68 : decode cX9_next 68 = .ok (.bipush 97, 2) := by decide +kernel
theorem dX9_next_70 : decode cX9_next 70 = .ok (.bipush 122, 2) := by decide +kernel
theorem dX9_next_72 : decode cX9_next 72 = .ok (.invokevirtual 131, 3) := by decide +kernel
theorem dX9_next_75 : decode cX9_next 75 = .ok (.ifCond .eq 58, 3) := by decide +kernel
theorem dX9_next_78 : decode cX9_next 78 = .ok (.aload_n 0, 1) := by decide +kernel
theorem dX9_next_79 : decode cX9_next 79 = .ok (.aload_n 0, 1) := by decide +kernel
theorem dX9_next_80 : decode cX9_next 80 = .ok (.getfield 128, 3) := by decide +kernel
theorem dX9_next_83 : decode cX9_next 83 = .ok (.aload_n 0, 1) := by decide +kernel
theorem dX9_next_84 : decode cX9_next 84 = .ok (.getfield 135, 3) := by decide +kernel
theorem dX9_next_87 : decode cX9_next 87 = .ok (.isub, 1) := by decide +kernel
theorem dX9_next_88 : decode cX9_next 88 = .ok (.bipush 6, 2) := by decide +kernel
theorem dX9_next_90 : decode cX9_next 90 = .ok (.if_icmp .ge 26, 3) := by decide +kernel
theorem dX9_next_93 : decode cX9_next 93 = .ok (.bipush 27, 2) := by decide +kernel
theorem dX9_next_95 : decode cX9_next 95 = .ok (.aload_n 0, 1) := by decide +kernel
theorem dX9_next_96 : decode cX9_next 96 = .ok (.getfield 138, 3) := by decide +kernel
theorem dX9_next_99 : decode cX9_next 99 = .ok (.imul, 1) := by decide +kernel
theorem dX9_next_100 : decode cX9_next 100 = .ok (.aload_n 0, 1) := by decide +kernel
theorem dX9_next_101 : decode cX9_next 101 = .ok (.getfield 29, 3) := by decide +kernel
theorem dX9_next_104 : decode cX9_next 104 = .ok (.aload_n 0, 1) := by decide +kernel
theorem dX9_next_105 : decode cX9_next 105 = .ok (.getfield 128, 3) := by decide +kernel
theorem dX9_next_108 : decode cX9_next 108 = .ok (.iaload, 1) := by decide +kernel
theorem dX9_next_109 : decode cX9_next 109 = .ok (.iadd, 1) := by decide +kernel
theorem dX9_next_110 : decode cX9_next 110 = .ok (.bipush 96, 2) := by decide +kernel
theorem dX9_next_112 : decode cX9_next 112 = .ok (.isub, 1) := by decide +kernel
theorem dX9_next_113 : decode cX9_next 113 = .ok (.goto 4, 3) := by decide +kernel
theorem dX9_next_116 : decode cX9_next 116 = .ok (.iconst 0, 1) := by decide +kernel
theorem dX9_next_117 : decode cX9_next 117 = .ok (.putfield 138, 3) := by decide +kernel
theorem dX9_next_120 : decode cX9_next 120 = .ok (.aload_n 0, 1) := by decide +kernel
theorem dX9_next_121 : decode cX9_next 121 = .ok (.dup, 1) := by decide +kernel
theorem dX9_next_122 : decode cX9_next 122 = .ok (.getfield 128, 3) := by decide +kernel
theorem dX9_next_125 : decode cX9_next 125 = .ok (.iconst 1, 1) := by decide +kernel
theorem dX9_next_126 : decode cX9_next 126 = .ok (.iadd, 1) := by decide +kernel
theorem dX9_next_127 : decode cX9_next 127 = .ok (.putfield 128, 3) := by decide +kernel
theorem dX9_next_130 : decode cX9_next 130 = .ok (.goto (-63), 3) := by decide +kernel
theorem dX9_next_133 : decode cX9_next 133 = .ok (.aload_n 0, 1) := by decide +kernel
theorem dX9_next_134 : decode cX9_next 134 = .ok (.aload_n 0, 1) := by decide +kernel
theorem dX9_next_135 : decode cX9_next 135 = .ok (.getfield 128, 3) := by decide +kernel
theorem dX9_next_138 : decode cX9_next 138 = .ok (.aload_n 0, 1) := by decide +kernel
theorem dX9_next_139 : decode cX9_next 139 = .ok (.getfield 135, 3) := by decide +kernel
theorem dX9_next_142 : decode cX9_next 142 = .ok (.isub, 1) := by decide +kernel
theorem dX9_next_143 : decode cX9_next 143 = .ok (.bipush 6, 2) := by decide +kernel
theorem dX9_next_145 : decode cX9_next 145 = .ok (.if_icmp .le 7, 3) := by decide +kernel
theorem dX9_next_148 : decode cX9_next 148 = .ok (.iconst 0, 1) := by decide +kernel
theorem dX9_next_149 : decode cX9_next 149 = .ok (.goto 7, 3) := by decide +kernel
theorem dX9_next_152 : decode cX9_next 152 = .ok (.aload_n 0, 1) := by decide +kernel
theorem dX9_next_153 : decode cX9_next 153 = .ok (.getfield 138, 3) := by decide +kernel
theorem dX9_next_156 : decode cX9_next 156 = .ok (.putfield 138, 3) := by decide +kernel
theorem dX9_next_159 : decode cX9_next 159 = .ok (.goto 79, 3) := by decide +kernel
theorem dX9_next_162 : decode cX9_next 162 = .ok (.aload_n 0, 1) := by decide +kernel
theorem dX9_next_163 : decode cX9_next 163 = .ok (.bipush 48, 2) := by decide +kernel
theorem dX9_next_165 : decode cX9_next 165 = .ok (.bipush 57, 2) := by decide +kernel
theorem dX9_next_167 : decode cX9_next 167 = .ok (.invokevirtual 131, 3) := by decide +kernel
theorem dX9_next_170 : decode cX9_next 170 = .ok (.ifCond .eq 33, 3) := by decide +kernel
theorem dX9_next_173 : decode cX9_next 173 = .ok (.aload_n 0, 1) := by decide +kernel
theorem dX9_next_174 : decode cX9_next 174 = .ok (.bipush (-2), 2) := by decide +kernel
theorem dX9_next_176 : decode cX9_next 176 = .ok (.putfield 138, 3) := by decide +kernel
theorem dX9_next_179 : decode cX9_next 179 = .ok (.aload_n 0, 1) := by decide +kernel
theorem dX9_next_180 : decode cX9_next 180 = .ok (.bipush 48, 2) := by decide +kernel
theorem dX9_next_182 : decode cX9_next 182 = .ok (.bipush 57, 2) := by decide +kernel
theorem dX9_next_184 : decode cX9_next 184 = .ok (.invokevirtual 131, 3) := by decide +kernel
theorem dX9_next_187 : decode cX9_next 187 = .ok (.ifCond .eq 51, 3) := by decide +kernel
theorem dX9_next_190 : decode cX9_next 190 = .ok (.aload_n 0, 1) := by decide +kernel
theorem dX9_next_191 : decode cX9_next 191 = .ok (.dup, 1) := by decide +kernel
theorem dX9_next_192 : decode cX9_next 192 = .ok (.getfield 128, 3) := by decide +kernel
theorem dX9_next_195 : decode cX9_next 195 = .ok (.iconst 1, 1) := by decide +kernel
theorem dX9_next_196 : decode cX9_next 196 = .ok (.iadd, 1) := by decide +kernel
theorem dX9_next_197 : decode cX9_next 197 = .ok (.putfield 128, 3) := by decide +kernel
theorem dX9_next_200 : decode cX9_next 200 = .ok (.goto (-21), 3) := by decide +kernel
theorem dX9_next_203 : decode cX9_next 203 = .ok (.aload_n 0, 1) := by decide +kernel
theorem dX9_next_204 : decode cX9_next 204 = .ok (.aload_n 0, 1) := by decide +kernel
theorem dX9_next_205 : decode cX9_next 205 = .ok (.getfield 29, 3) := by decide +kernel
theorem dX9_next_208 : decode cX9_next 208 = .ok (.aload_n 0, 1) := by decide +kernel
theorem dX9_next_209 : decode cX9_next 209 = .ok (.getfield 128, 3) := by decide +kernel
theorem dX9_next_212 : decode cX9_next 212 = .ok (.iaload, 1) := by decide +kernel
theorem dX9_next_213 : decode cX9_next 213 = .ok (.bipush 59, 2) := by decide +kernel
theorem dX9_next_215 : decode cX9_next 215 = .ok (.if_icmp .ne 8, 3) := by decide +kernel
theorem dX9_next_218 : decode cX9_next 218 = .ok (.bipush (-3), 2) := by decide +kernel
theorem dX9_next_220 : decode cX9_next 220 = .ok (.goto 5, 3) := by decide +kernel
theorem dX9_next_223 : decode cX9_next 223 = .ok (.bipush (-4), 2) := by decide +kernel
theorem dX9_next_225 : decode cX9_next 225 = .ok (.putfield 138, 3) := by decide +kernel
theorem dX9_next_228 : decode cX9_next 228 = .ok (.aload_n 0, 1) := by decide +kernel
theorem dX9_next_229 : decode cX9_next 229 = .ok (.dup, 1) := by decide +kernel
theorem dX9_next_230 : decode cX9_next 230 = .ok (.getfield 128, 3) := by decide +kernel
theorem dX9_next_233 : decode cX9_next 233 = .ok (.iconst 1, 1) := by decide +kernel
theorem dX9_next_234 : decode cX9_next 234 = .ok (.iadd, 1) := by decide +kernel
theorem dX9_next_235 : decode cX9_next 235 = .ok (.putfield 128, 3) := by decide +kernel
theorem dX9_next_238 : decode cX9_next 238 = .ok (.return_, 1) := by decide +kernel
theorem dX9_fails_0 : decode cX9_fails 0 = .ok (.aload_n 0, 1) := by decide +kernel
theorem dX9_fails_1 : decode cX9_fails 1 = .ok (.aload_n 0, 1) := by decide +kernel
theorem dX9_fails_2 : decode cX9_fails 2 = .ok (.getfield 135, 3) := by decide +kernel
theorem dX9_fails_5 : decode cX9_fails 5 = .ok (.putfield 141, 3) := by decide +kernel
theorem dX9_fails_8 : decode cX9_fails 8 = .ok (.iconst (-1), 1) := by decide +kernel
theorem dX9_fails_9 : decode cX9_fails 9 = .ok (.ireturn, 1) := by decide +kernel
theorem dX9_number_0 : decode cX9_number 0 = .ok (.aload_n 0, 1) := by decide +kernel
theorem dX9_number_1 : decode cX9_number 1 = .ok (.invokevirtual 144, 3) := by decide +kernel
theorem dX9_number_4 : decode cX9_number 4 = .ok (.aload_n 0, 1) := by decide +kernel
theorem dX9_number_5 : decode cX9_number 5 = .ok (.getfield 138, 3) := by decide +kernel
theorem dX9_number_8 : decode cX9_number 8 = .ok (.bipush (-2), 2) := by decide +kernel
theorem dX9_number_10 : decode cX9_number 10 = .ok (.if_icmp .ne 16, 3) := by decide +kernel
theorem dX9_number_13 : decode cX9_number 13 = .ok (.aload_n 0, 1) := by decide +kernel
theorem dX9_number_14 : decode cX9_number 14 = .ok (.getfield 128, 3) := by decide +kernel
theorem dX9_number_17 : decode cX9_number 17 = .ok (.aload_n 0, 1) := by decide +kernel
theorem dX9_number_18 : decode cX9_number 18 = .ok (.getfield 135, 3) := by decide +kernel
theorem dX9_number_21 : decode cX9_number 21 = .ok (.isub, 1) := by decide +kernel
theorem dX9_number_22 : decode cX9_number 22 = .ok (.iconst 2, 1) := by decide +kernel
theorem dX9_number_23 : decode cX9_number 23 = .ok (.if_icmp .le 8, 3) := by decide +kernel
theorem dX9_number_26 : decode cX9_number 26 = .ok (.aload_n 0, 1) := by decide +kernel
theorem dX9_number_27 : decode cX9_number 27 = .ok (.invokevirtual 147, 3) := by decide +kernel
theorem dX9_number_30 : decode cX9_number 30 = .ok (.ireturn, 1) := by decide +kernel
theorem dX9_number_31 : decode cX9_number 31 = .ok (.aload_n 0, 1) := by decide +kernel
theorem dX9_number_32 : decode cX9_number 32 = .ok (.getfield 29, 3) := by decide +kernel
theorem dX9_number_35 : decode cX9_number 35 = .ok (.aload_n 0, 1) := by decide +kernel
theorem dX9_number_36 : decode cX9_number 36 = .ok (.getfield 135, 3) := by decide +kernel
theorem dX9_number_39 : decode cX9_number 39 = .ok (.iaload, 1) := by decide +kernel
theorem dX9_number_40 : decode cX9_number 40 = .ok (.bipush 48, 2) := by decide +kernel
theorem dX9_number_42 : decode cX9_number 42 = .ok (.isub, 1) := by decide +kernel
theorem dX9_number_43 : decode cX9_number 43 = .ok (.istore_n 3, 1) := by decide +kernel
theorem dX9_number_44 : decode cX9_number 44 = .ok (.aload_n 0, 1) := by decide +kernel
theorem dX9_number_45 : decode cX9_number 45 = .ok (.getfield 128, 3) := by decide +kernel
theorem dX9_number_48 : decode cX9_number 48 = .ok (.aload_n 0, 1) := by decide +kernel
theorem dX9_number_49 : decode cX9_number 49 = .ok (.getfield 135, 3) := by decide +kernel
theorem dX9_number_52 : decode cX9_number 52 = .ok (.isub, 1) := by decide +kernel
theorem dX9_number_53 : decode cX9_number 53 = .ok (.iconst 2, 1) := by decide +kernel
theorem dX9_number_54 : decode cX9_number 54 = .ok (.if_icmp .ne 25, 3) := by decide +kernel
theorem dX9_number_57 : decode cX9_number 57 = .ok (.bipush 10, 2) := by decide +kernel
theorem dX9_number_59 : decode cX9_number 59 = .ok (.iload_n 3, 1) := by decide +kernel
theorem dX9_number_60 : decode cX9_number 60 = .ok (.imul, 1) := by decide +kernel
theorem dX9_number_61 : decode cX9_number 61 = .ok (.aload_n 0, 1) := by decide +kernel
theorem dX9_number_62 : decode cX9_number 62 = .ok (.getfield 29, 3) := by decide +kernel
theorem dX9_number_65 : decode cX9_number 65 = .ok (.aload_n 0, 1) := by decide +kernel
theorem dX9_number_66 : decode cX9_number 66 = .ok (.getfield 135, 3) := by decide +kernel
theorem dX9_number_69 : decode cX9_number 69 = .ok (.iconst 1, 1) := by decide +kernel
theorem dX9_number_70 : decode cX9_number 70 = .ok (.iadd, 1) := by decide +kernel
theorem dX9_number_71 : decode cX9_number 71 = .ok (.iaload, 1) := by decide +kernel
theorem dX9_number_72 : decode cX9_number 72 = .ok (.iadd, 1) := by decide +kernel
theorem dX9_number_73 : decode cX9_number 73 = .ok (.bipush 48, 2) := by decide +kernel
theorem dX9_number_75 : decode cX9_number 75 = .ok (.isub, 1) := by decide +kernel
theorem dX9_number_76 : decode cX9_number 76 = .ok (.goto 4, 3) := by decide +kernel
theorem dX9_number_79 : decode cX9_number 79 = .ok (.iload_n 3, 1) := by decide +kernel
theorem dX9_number_80 : decode cX9_number 80 = .ok (.istore_n 3, 1) := by decide +kernel
theorem dX9_number_81 : decode cX9_number 81 = .ok (.iload_n 3, 1) := by decide +kernel
theorem dX9_number_82 : decode cX9_number 82 = .ok (.iload_n 1, 1) := by decide +kernel
theorem dX9_number_83 : decode cX9_number 83 = .ok (.iload_n 2, 1) := by decide +kernel
theorem dX9_number_84 : decode cX9_number 84 = .ok (.invokestatic 57, 3) := by decide +kernel
theorem dX9_number_87 : decode cX9_number 87 = .ok (.ifCond .eq 7, 3) := by decide +kernel
theorem dX9_number_90 : decode cX9_number 90 = .ok (.iload_n 3, 1) := by decide +kernel
theorem dX9_number_91 : decode cX9_number 91 = .ok (.goto 7, 3) := by decide +kernel
theorem dX9_number_94 : decode cX9_number 94 = .ok (.aload_n 0, 1) := by decide +kernel
theorem dX9_number_95 : decode cX9_number 95 = .ok (.invokevirtual 147, 3) := by decide +kernel
theorem dX9_number_98 : decode cX9_number 98 = .ok (.ireturn, 1) := by decide +kernel
theorem dX9_ends_0 : decode cX9_ends 0 = .ok (.aload_n 0, 1) := by decide +kernel
theorem dX9_ends_1 : decode cX9_ends 1 = .ok (.invokevirtual 144, 3) := by decide +kernel
theorem dX9_ends_4 : decode cX9_ends 4 = .ok (.aload_n 0, 1) := by decide +kernel
theorem dX9_ends_5 : decode cX9_ends 5 = .ok (.getfield 138, 3) := by decide +kernel
theorem dX9_ends_8 : decode cX9_ends 8 = .ok (.bipush (-3), 2) := by decide +kernel
theorem dX9_ends_10 : decode cX9_ends 10 = .ok (.if_icmp .eq 8, 3) := by decide +kernel
theorem dX9_ends_13 : decode cX9_ends 13 = .ok (.aload_n 0, 1) := by decide +kernel
theorem dX9_ends_14 : decode cX9_ends 14 = .ok (.invokevirtual 147, 3) := by decide +kernel
theorem dX9_ends_17 : decode cX9_ends 17 = .ok (.pop, 1) := by decide +kernel
theorem dX9_ends_18 : decode cX9_ends 18 = .ok (.aload_n 0, 1) := by decide +kernel
theorem dX9_ends_19 : decode cX9_ends 19 = .ok (.getfield 138, 3) := by decide +kernel
theorem dX9_ends_22 : decode cX9_ends 22 = .ok (.bipush (-3), 2) := by decide +kernel
theorem dX9_ends_24 : decode cX9_ends 24 = .ok (.if_icmp .ne 7, 3) := by decide +kernel
theorem dX9_ends_27 : decode cX9_ends 27 = .ok (.iconst 1, 1) := by decide +kernel
theorem dX9_ends_28 : decode cX9_ends 28 = .ok (.goto 4, 3) := by decide +kernel
theorem dX9_ends_31 : decode cX9_ends 31 = .ok (.iconst 0, 1) := by decide +kernel
theorem dX9_ends_32 : decode cX9_ends 32 = .ok (.ireturn, 1) := by decide +kernel
theorem dX9_readsYard_0 : decode cX9_readsYard 0 = .ok (.aload_n 0, 1) := by decide +kernel
theorem dX9_readsYard_1 : decode cX9_readsYard 1 = .ok (.iconst 0, 1) := by decide +kernel
theorem dX9_readsYard_2 : decode cX9_readsYard 2 = .ok (.bipush 99, 2) := by decide +kernel
theorem dX9_readsYard_4 : decode cX9_readsYard 4 = .ok (.invokevirtual 150, 3) := by decide +kernel
theorem dX9_readsYard_7 : decode cX9_readsYard 7 = .ok (.istore_n 1, 1) := by decide +kernel
theorem dX9_readsYard_8 : decode cX9_readsYard 8 = .ok (.iload_n 1, 1) := by decide +kernel
theorem dX9_readsYard_9 : decode cX9_readsYard 9 = .ok (.iconst (-1), 1) := by decide +kernel
theorem dX9_readsYard_10 : decode cX9_readsYard 10 = .ok (.if_icmp .eq 10, 3) := by decide +kernel
theorem dX9_readsYard_13 : decode cX9_readsYard 13 = .ok (.aload_n 0, 1) := by decide +kernel
theorem dX9_readsYard_14 : decode cX9_readsYard 14 = .ok (.invokevirtual 154, 3) := by decide +kernel
theorem dX9_readsYard_17 : decode cX9_readsYard 17 = .ok (.ifCond .ne 5, 3) := by decide +kernel
theorem dX9_readsYard_20 : decode cX9_readsYard 20 = .ok (.iconst 0, 1) := by decide +kernel
theorem dX9_readsYard_21 : decode cX9_readsYard 21 = .ok (.ireturn, 1) := by decide +kernel
theorem dX9_readsYard_22 : decode cX9_readsYard 22 = .ok (.aload_n 0, 1) := by decide +kernel
theorem dX9_readsYard_23 : decode cX9_readsYard 23 = .ok (.getfield 23, 3) := by decide +kernel
theorem dX9_readsYard_26 : decode cX9_readsYard 26 = .ok (.iload_n 1, 1) := by decide +kernel
theorem dX9_readsYard_27 : decode cX9_readsYard 27 = .ok (.invokestatic 107, 3) := by decide +kernel
theorem dX9_readsYard_30 : decode cX9_readsYard 30 = .ok (.iconst 1, 1) := by decide +kernel
theorem dX9_readsYard_31 : decode cX9_readsYard 31 = .ok (.ireturn, 1) := by decide +kernel
theorem dX9_readsPlayer_0 : decode cX9_readsPlayer 0 = .ok (.aload_n 0, 1) := by decide +kernel
theorem dX9_readsPlayer_1 : decode cX9_readsPlayer 1 = .ok (.getfield 23, 3) := by decide +kernel
theorem dX9_readsPlayer_4 : decode cX9_readsPlayer 4 = .ok (.iconst 1, 1) := by decide +kernel
theorem dX9_readsPlayer_5 : decode cX9_readsPlayer 5 = .ok (.iaload, 1) := by decide +kernel
theorem dX9_readsPlayer_6 : decode cX9_readsPlayer 6 = .ok (.iconst 3, 1) := by decide +kernel
theorem dX9_readsPlayer_7 : decode cX9_readsPlayer 7 = .ok (.if_icmp .ne 10, 3) := by decide +kernel
theorem dX9_readsPlayer_10 : decode cX9_readsPlayer 10 = .ok (.aload_n 0, 1) := by decide +kernel
theorem dX9_readsPlayer_11 : decode cX9_readsPlayer 11 = .ok (.invokevirtual 147, 3) := by decide +kernel
theorem dX9_readsPlayer_14 : decode cX9_readsPlayer 14 = .ok (.pop, 1) := by decide +kernel
theorem dX9_readsPlayer_15 : decode cX9_readsPlayer 15 = .ok (.iconst 0, 1) := by decide +kernel
theorem dX9_readsPlayer_16 : decode cX9_readsPlayer 16 = .ok (.ireturn, 1) := by decide +kernel
theorem dX9_readsPlayer_17 : decode cX9_readsPlayer 17 = .ok (.aload_n 0, 1) := by decide +kernel
theorem dX9_readsPlayer_18 : decode cX9_readsPlayer 18 = .ok (.iconst 0, 1) := by decide +kernel
theorem dX9_readsPlayer_19 : decode cX9_readsPlayer 19 = .ok (.iconst 5, 1) := by decide +kernel
theorem dX9_readsPlayer_20 : decode cX9_readsPlayer 20 = .ok (.invokevirtual 150, 3) := by decide +kernel
theorem dX9_readsPlayer_23 : decode cX9_readsPlayer 23 = .ok (.istore_n 1, 1) := by decide +kernel
theorem dX9_readsPlayer_24 : decode cX9_readsPlayer 24 = .ok (.iload_n 1, 1) := by decide +kernel
theorem dX9_readsPlayer_25 : decode cX9_readsPlayer 25 = .ok (.iconst (-1), 1) := by decide +kernel
theorem dX9_readsPlayer_26 : decode cX9_readsPlayer 26 = .ok (.if_icmp .ne 7, 3) := by decide +kernel
theorem dX9_readsPlayer_29 : decode cX9_readsPlayer 29 = .ok (.iconst (-1), 1) := by decide +kernel
theorem dX9_readsPlayer_30 : decode cX9_readsPlayer 30 = .ok (.goto 10, 3) := by decide +kernel
theorem dX9_readsPlayer_33 : decode cX9_readsPlayer 33 = .ok (.aload_n 0, 1) := by decide +kernel
theorem dX9_readsPlayer_34 : decode cX9_readsPlayer 34 = .ok (.iconst 1, 1) := by decide +kernel
theorem dX9_readsPlayer_35 : decode cX9_readsPlayer 35 = .ok (.bipush 9, 2) := by decide +kernel
theorem dX9_readsPlayer_37 : decode cX9_readsPlayer 37 = .ok (.invokevirtual 150, 3) := by decide +kernel
theorem dX9_readsPlayer_40 : decode cX9_readsPlayer 40 = .ok (.istore_n 2, 1) := by decide +kernel
theorem dX9_readsPlayer_41 : decode cX9_readsPlayer 41 = .ok (.iload_n 2, 1) := by decide +kernel
theorem dX9_readsPlayer_42 : decode cX9_readsPlayer 42 = .ok (.iconst (-1), 1) := by decide +kernel
theorem dX9_readsPlayer_43 : decode cX9_readsPlayer 43 = .ok (.if_icmp .eq 10, 3) := by decide +kernel
theorem dX9_readsPlayer_46 : decode cX9_readsPlayer 46 = .ok (.aload_n 0, 1) := by decide +kernel
theorem dX9_readsPlayer_47 : decode cX9_readsPlayer 47 = .ok (.invokevirtual 154, 3) := by decide +kernel
theorem dX9_readsPlayer_50 : decode cX9_readsPlayer 50 = .ok (.ifCond .ne 5, 3) := by decide +kernel
theorem dX9_readsPlayer_53 : decode cX9_readsPlayer 53 = .ok (.iconst 0, 1) := by decide +kernel
theorem dX9_readsPlayer_54 : decode cX9_readsPlayer 54 = .ok (.ireturn, 1) := by decide +kernel
theorem dX9_readsPlayer_55 : decode cX9_readsPlayer 55 = .ok (.aload_n 0, 1) := by decide +kernel
theorem dX9_readsPlayer_56 : decode cX9_readsPlayer 56 = .ok (.getfield 23, 3) := by decide +kernel
theorem dX9_readsPlayer_59 : decode cX9_readsPlayer 59 = .ok (.iload_n 1, 1) := by decide +kernel
theorem dX9_readsPlayer_60 : decode cX9_readsPlayer 60 = .ok (.iload_n 2, 1) := by decide +kernel
theorem dX9_readsPlayer_61 : decode cX9_readsPlayer 61 = .ok (.invokestatic 118, 3) := by decide +kernel
theorem dX9_readsPlayer_64 : decode cX9_readsPlayer 64 = .ok (.pop, 1) := by decide +kernel
theorem dX9_readsPlayer_65 : decode cX9_readsPlayer 65 = .ok (.iconst 1, 1) := by decide +kernel
theorem dX9_readsPlayer_66 : decode cX9_readsPlayer 66 = .ok (.ireturn, 1) := by decide +kernel
theorem dX9_readsNut_0 : decode cX9_readsNut 0 = .ok (.aload_n 0, 1) := by decide +kernel
theorem dX9_readsNut_1 : decode cX9_readsNut 1 = .ok (.getfield 23, 3) := by decide +kernel
theorem dX9_readsNut_4 : decode cX9_readsNut 4 = .ok (.iconst 2, 1) := by decide +kernel
theorem dX9_readsNut_5 : decode cX9_readsNut 5 = .ok (.iaload, 1) := by decide +kernel
theorem dX9_readsNut_6 : decode cX9_readsNut 6 = .ok (.bipush 6, 2) := by decide +kernel
theorem dX9_readsNut_8 : decode cX9_readsNut 8 = .ok (.if_icmp .ne 10, 3) := by decide +kernel
theorem dX9_readsNut_11 : decode cX9_readsNut 11 = .ok (.aload_n 0, 1) := by decide +kernel
theorem dX9_readsNut_12 : decode cX9_readsNut 12 = .ok (.invokevirtual 147, 3) := by decide +kernel
theorem dX9_readsNut_15 : decode cX9_readsNut 15 = .ok (.pop, 1) := by decide +kernel
theorem dX9_readsNut_16 : decode cX9_readsNut 16 = .ok (.iconst 0, 1) := by decide +kernel
theorem dX9_readsNut_17 : decode cX9_readsNut 17 = .ok (.ireturn, 1) := by decide +kernel
theorem dX9_readsNut_18 : decode cX9_readsNut 18 = .ok (.aload_n 0, 1) := by decide +kernel
theorem dX9_readsNut_19 : decode cX9_readsNut 19 = .ok (.iconst 0, 1) := by decide +kernel
theorem dX9_readsNut_20 : decode cX9_readsNut 20 = .ok (.aload_n 0, 1) := by decide +kernel
theorem dX9_readsNut_21 : decode cX9_readsNut 21 = .ok (.getfield 23, 3) := by decide +kernel
theorem dX9_readsNut_24 : decode cX9_readsNut 24 = .ok (.iconst 1, 1) := by decide +kernel
theorem dX9_readsNut_25 : decode cX9_readsNut 25 = .ok (.iaload, 1) := by decide +kernel
theorem dX9_readsNut_26 : decode cX9_readsNut 26 = .ok (.iconst 1, 1) := by decide +kernel
theorem dX9_readsNut_27 : decode cX9_readsNut 27 = .ok (.isub, 1) := by decide +kernel
theorem dX9_readsNut_28 : decode cX9_readsNut 28 = .ok (.invokevirtual 150, 3) := by decide +kernel
theorem dX9_readsNut_31 : decode cX9_readsNut 31 = .ok (.istore_n 1, 1) := by decide +kernel
theorem dX9_readsNut_32 : decode cX9_readsNut 32 = .ok (.iload_n 1, 1) := by decide +kernel
theorem dX9_readsNut_33 : decode cX9_readsNut 33 = .ok (.iconst (-1), 1) := by decide +kernel
theorem dX9_readsNut_34 : decode cX9_readsNut 34 = .ok (.if_icmp .ne 7, 3) := by decide +kernel
theorem dX9_readsNut_37 : decode cX9_readsNut 37 = .ok (.iconst (-1), 1) := by decide +kernel
theorem dX9_readsNut_38 : decode cX9_readsNut 38 = .ok (.goto 9, 3) := by decide +kernel
theorem dX9_readsNut_41 : decode cX9_readsNut 41 = .ok (.aload_n 0, 1) := by decide +kernel
theorem dX9_readsNut_42 : decode cX9_readsNut 42 = .ok (.iconst 0, 1) := by decide +kernel
theorem dX9_readsNut_43 : decode cX9_readsNut 43 = .ok (.iconst 5, 1) := by decide +kernel
theorem dX9_readsNut_44 : decode cX9_readsNut 44 = .ok (.invokevirtual 150, 3) := by decide +kernel
theorem dX9_readsNut_47 : decode cX9_readsNut 47 = .ok (.istore_n 2, 1) := by decide +kernel
theorem dX9_readsNut_48 : decode cX9_readsNut 48 = .ok (.iload_n 2, 1) := by decide +kernel
theorem dX9_readsNut_49 : decode cX9_readsNut 49 = .ok (.iconst (-1), 1) := by decide +kernel
theorem dX9_readsNut_50 : decode cX9_readsNut 50 = .ok (.if_icmp .ne 7, 3) := by decide +kernel
theorem dX9_readsNut_53 : decode cX9_readsNut 53 = .ok (.iconst (-1), 1) := by decide +kernel
theorem dX9_readsNut_54 : decode cX9_readsNut 54 = .ok (.goto 10, 3) := by decide +kernel
theorem dX9_readsNut_57 : decode cX9_readsNut 57 = .ok (.aload_n 0, 1) := by decide +kernel
theorem dX9_readsNut_58 : decode cX9_readsNut 58 = .ok (.iconst 0, 1) := by decide +kernel
theorem dX9_readsNut_59 : decode cX9_readsNut 59 = .ok (.bipush 9, 2) := by decide +kernel
theorem dX9_readsNut_61 : decode cX9_readsNut 61 = .ok (.invokevirtual 150, 3) := by decide +kernel
theorem dX9_readsNut_64 : decode cX9_readsNut 64 = .ok (.istore_n 3, 1) := by decide +kernel
theorem dX9_readsNut_65 : decode cX9_readsNut 65 = .ok (.iload_n 3, 1) := by decide +kernel
theorem dX9_readsNut_66 : decode cX9_readsNut 66 = .ok (.iconst (-1), 1) := by decide +kernel
theorem dX9_readsNut_67 : decode cX9_readsNut 67 = .ok (.if_icmp .ne 7, 3) := by decide +kernel
theorem dX9_readsNut_70 : decode cX9_readsNut 70 = .ok (.iconst (-1), 1) := by decide +kernel
theorem dX9_readsNut_71 : decode cX9_readsNut 71 = .ok (.goto 10, 3) := by decide +kernel
theorem dX9_readsNut_74 : decode cX9_readsNut 74 = .ok (.aload_n 0, 1) := by decide +kernel
theorem dX9_readsNut_75 : decode cX9_readsNut 75 = .ok (.iconst 1, 1) := by decide +kernel
theorem dX9_readsNut_76 : decode cX9_readsNut 76 = .ok (.bipush 9, 2) := by decide +kernel
theorem dX9_readsNut_78 : decode cX9_readsNut 78 = .ok (.invokevirtual 150, 3) := by decide +kernel
theorem dX9_readsNut_81 : decode cX9_readsNut 81 = .ok (.istore 4, 2) := by decide +kernel
theorem dX9_readsNut_83 : decode cX9_readsNut 83 = .ok (.iload 4, 2) := by decide +kernel
theorem dX9_readsNut_85 : decode cX9_readsNut 85 = .ok (.iconst (-1), 1) := by decide +kernel
theorem dX9_readsNut_86 : decode cX9_readsNut 86 = .ok (.if_icmp .eq 10, 3) := by decide +kernel
theorem dX9_readsNut_89 : decode cX9_readsNut 89 = .ok (.aload_n 0, 1) := by decide +kernel
theorem dX9_readsNut_90 : decode cX9_readsNut 90 = .ok (.invokevirtual 154, 3) := by decide +kernel
theorem dX9_readsNut_93 : decode cX9_readsNut 93 = .ok (.ifCond .ne 5, 3) := by decide +kernel
theorem dX9_readsNut_96 : decode cX9_readsNut 96 = .ok (.iconst 0, 1) := by decide +kernel
theorem dX9_readsNut_97 : decode cX9_readsNut 97 = .ok (.ireturn, 1) := by decide +kernel
theorem dX9_readsNut_98 : decode cX9_readsNut 98 = .ok (.aload_n 0, 1) := by decide +kernel
theorem dX9_readsNut_99 : decode cX9_readsNut 99 = .ok (.getfield 23, 3) := by decide +kernel
theorem dX9_readsNut_102 : decode cX9_readsNut 102 = .ok (.iload_n 1, 1) := by decide +kernel
theorem dX9_readsNut_103 : decode cX9_readsNut 103 = .ok (.iload_n 2, 1) := by decide +kernel
theorem dX9_readsNut_104 : decode cX9_readsNut 104 = .ok (.iload_n 3, 1) := by decide +kernel
theorem dX9_readsNut_105 : decode cX9_readsNut 105 = .ok (.iload 4, 2) := by decide +kernel
theorem dX9_readsNut_107 : decode cX9_readsNut 107 = .ok (.invokestatic 121, 3) := by decide +kernel
theorem dX9_readsNut_110 : decode cX9_readsNut 110 = .ok (.pop, 1) := by decide +kernel
theorem dX9_readsNut_111 : decode cX9_readsNut 111 = .ok (.iconst 1, 1) := by decide +kernel
theorem dX9_readsNut_112 : decode cX9_readsNut 112 = .ok (.ireturn, 1) := by decide +kernel
theorem dX9_readsStrike_0 : decode cX9_readsStrike 0 = .ok (.aload_n 0, 1) := by decide +kernel
theorem dX9_readsStrike_1 : decode cX9_readsStrike 1 = .ok (.iconst 0, 1) := by decide +kernel
theorem dX9_readsStrike_2 : decode cX9_readsStrike 2 = .ok (.aload_n 0, 1) := by decide +kernel
theorem dX9_readsStrike_3 : decode cX9_readsStrike 3 = .ok (.getfield 23, 3) := by decide +kernel
theorem dX9_readsStrike_6 : decode cX9_readsStrike 6 = .ok (.iconst 2, 1) := by decide +kernel
theorem dX9_readsStrike_7 : decode cX9_readsStrike 7 = .ok (.iaload, 1) := by decide +kernel
theorem dX9_readsStrike_8 : decode cX9_readsStrike 8 = .ok (.iconst 1, 1) := by decide +kernel
theorem dX9_readsStrike_9 : decode cX9_readsStrike 9 = .ok (.isub, 1) := by decide +kernel
theorem dX9_readsStrike_10 : decode cX9_readsStrike 10 = .ok (.invokevirtual 150, 3) := by decide +kernel
theorem dX9_readsStrike_13 : decode cX9_readsStrike 13 = .ok (.istore_n 1, 1) := by decide +kernel
theorem dX9_readsStrike_14 : decode cX9_readsStrike 14 = .ok (.iload_n 1, 1) := by decide +kernel
theorem dX9_readsStrike_15 : decode cX9_readsStrike 15 = .ok (.iconst (-1), 1) := by decide +kernel
theorem dX9_readsStrike_16 : decode cX9_readsStrike 16 = .ok (.if_icmp .ne 5, 3) := by decide +kernel
theorem dX9_readsStrike_19 : decode cX9_readsStrike 19 = .ok (.iconst 0, 1) := by decide +kernel
theorem dX9_readsStrike_20 : decode cX9_readsStrike 20 = .ok (.ireturn, 1) := by decide +kernel
theorem dX9_readsStrike_21 : decode cX9_readsStrike 21 = .ok (.aload_n 0, 1) := by decide +kernel
theorem dX9_readsStrike_22 : decode cX9_readsStrike 22 = .ok (.getfield 23, 3) := by decide +kernel
theorem dX9_readsStrike_25 : decode cX9_readsStrike 25 = .ok (.iload_n 1, 1) := by decide +kernel
theorem dX9_readsStrike_26 : decode cX9_readsStrike 26 = .ok (.invokestatic 72, 3) := by decide +kernel
theorem dX9_readsStrike_29 : decode cX9_readsStrike 29 = .ok (.ifCond .eq 10, 3) := by decide +kernel
theorem dX9_readsStrike_32 : decode cX9_readsStrike 32 = .ok (.aload_n 0, 1) := by decide +kernel
theorem dX9_readsStrike_33 : decode cX9_readsStrike 33 = .ok (.invokevirtual 147, 3) := by decide +kernel
theorem dX9_readsStrike_36 : decode cX9_readsStrike 36 = .ok (.pop, 1) := by decide +kernel
theorem dX9_readsStrike_37 : decode cX9_readsStrike 37 = .ok (.iconst 0, 1) := by decide +kernel
theorem dX9_readsStrike_38 : decode cX9_readsStrike 38 = .ok (.ireturn, 1) := by decide +kernel
theorem dX9_readsStrike_39 : decode cX9_readsStrike 39 = .ok (.aload_n 0, 1) := by decide +kernel
theorem dX9_readsStrike_40 : decode cX9_readsStrike 40 = .ok (.iconst 0, 1) := by decide +kernel
theorem dX9_readsStrike_41 : decode cX9_readsStrike 41 = .ok (.aload_n 0, 1) := by decide +kernel
theorem dX9_readsStrike_42 : decode cX9_readsStrike 42 = .ok (.getfield 23, 3) := by decide +kernel
theorem dX9_readsStrike_45 : decode cX9_readsStrike 45 = .ok (.iconst 2, 1) := by decide +kernel
theorem dX9_readsStrike_46 : decode cX9_readsStrike 46 = .ok (.iaload, 1) := by decide +kernel
theorem dX9_readsStrike_47 : decode cX9_readsStrike 47 = .ok (.iconst 1, 1) := by decide +kernel
theorem dX9_readsStrike_48 : decode cX9_readsStrike 48 = .ok (.isub, 1) := by decide +kernel
theorem dX9_readsStrike_49 : decode cX9_readsStrike 49 = .ok (.invokevirtual 150, 3) := by decide +kernel
theorem dX9_readsStrike_52 : decode cX9_readsStrike 52 = .ok (.istore_n 2, 1) := by decide +kernel
theorem dX9_readsStrike_53 : decode cX9_readsStrike 53 = .ok (.iload_n 2, 1) := by decide +kernel
theorem dX9_readsStrike_54 : decode cX9_readsStrike 54 = .ok (.iconst (-1), 1) := by decide +kernel
theorem dX9_readsStrike_55 : decode cX9_readsStrike 55 = .ok (.if_icmp .ne 5, 3) := by decide +kernel
theorem dX9_readsStrike_58 : decode cX9_readsStrike 58 = .ok (.iconst 0, 1) := by decide +kernel
theorem dX9_readsStrike_59 : decode cX9_readsStrike 59 = .ok (.ireturn, 1) := by decide +kernel
theorem dX9_readsStrike_60 : decode cX9_readsStrike 60 = .ok (.aload_n 0, 1) := by decide +kernel
theorem dX9_readsStrike_61 : decode cX9_readsStrike 61 = .ok (.getfield 23, 3) := by decide +kernel
theorem dX9_readsStrike_64 : decode cX9_readsStrike 64 = .ok (.iload_n 1, 1) := by decide +kernel
theorem dX9_readsStrike_65 : decode cX9_readsStrike 65 = .ok (.iload_n 2, 1) := by decide +kernel
theorem dX9_readsStrike_66 : decode cX9_readsStrike 66 = .ok (.invokestatic 99, 3) := by decide +kernel
theorem dX9_readsStrike_69 : decode cX9_readsStrike 69 = .ok (.ifCond .ne 10, 3) := by decide +kernel
theorem dX9_readsStrike_72 : decode cX9_readsStrike 72 = .ok (.aload_n 0, 1) := by decide +kernel
theorem dX9_readsStrike_73 : decode cX9_readsStrike 73 = .ok (.invokevirtual 147, 3) := by decide +kernel
theorem dX9_readsStrike_76 : decode cX9_readsStrike 76 = .ok (.pop, 1) := by decide +kernel
theorem dX9_readsStrike_77 : decode cX9_readsStrike 77 = .ok (.iconst 0, 1) := by decide +kernel
theorem dX9_readsStrike_78 : decode cX9_readsStrike 78 = .ok (.ireturn, 1) := by decide +kernel
theorem dX9_readsStrike_79 : decode cX9_readsStrike 79 = .ok (.aload_n 0, 1) := by decide +kernel
theorem dX9_readsStrike_80 : decode cX9_readsStrike 80 = .ok (.invokevirtual 154, 3) := by decide +kernel
theorem dX9_readsStrike_83 : decode cX9_readsStrike 83 = .ok (.ifCond .ne 5, 3) := by decide +kernel
theorem dX9_readsStrike_86 : decode cX9_readsStrike 86 = .ok (.iconst 0, 1) := by decide +kernel
theorem dX9_readsStrike_87 : decode cX9_readsStrike 87 = .ok (.ireturn, 1) := by decide +kernel
theorem dX9_readsStrike_88 : decode cX9_readsStrike 88 = .ok (.aload_n 0, 1) := by decide +kernel
theorem dX9_readsStrike_89 : decode cX9_readsStrike 89 = .ok (.getfield 23, 3) := by decide +kernel
theorem dX9_readsStrike_92 : decode cX9_readsStrike 92 = .ok (.iload_n 1, 1) := by decide +kernel
theorem dX9_readsStrike_93 : decode cX9_readsStrike 93 = .ok (.iload_n 2, 1) := by decide +kernel
theorem dX9_readsStrike_94 : decode cX9_readsStrike 94 = .ok (.invokestatic 158, 3) := by decide +kernel
theorem dX9_readsStrike_97 : decode cX9_readsStrike 97 = .ok (.iconst 1, 1) := by decide +kernel
theorem dX9_readsStrike_98 : decode cX9_readsStrike 98 = .ok (.ireturn, 1) := by decide +kernel
theorem dX9_passes_0 : decode cX9_passes 0 = .ok (.aload_n 0, 1) := by decide +kernel
theorem dX9_passes_1 : decode cX9_passes 1 = .ok (.iconst 0, 1) := by decide +kernel
theorem dX9_passes_2 : decode cX9_passes 2 = .ok (.aload_n 0, 1) := by decide +kernel
theorem dX9_passes_3 : decode cX9_passes 3 = .ok (.iconst 0, 1) := by decide +kernel
theorem dX9_passes_4 : decode cX9_passes 4 = .ok (.iaload, 1) := by decide +kernel
theorem dX9_passes_5 : decode cX9_passes 5 = .ok (.iload_n 1, 1) := by decide +kernel
theorem dX9_passes_6 : decode cX9_passes 6 = .ok (.iadd, 1) := by decide +kernel
theorem dX9_passes_7 : decode cX9_passes 7 = .ok (.sipush 9999, 3) := by decide +kernel
theorem dX9_passes_10 : decode cX9_passes 10 = .ok (.if_icmp .le 9, 3) := by decide +kernel
theorem dX9_passes_13 : decode cX9_passes 13 = .ok (.sipush 9999, 3) := by decide +kernel
theorem dX9_passes_16 : decode cX9_passes 16 = .ok (.goto 8, 3) := by decide +kernel
theorem dX9_passes_19 : decode cX9_passes 19 = .ok (.aload_n 0, 1) := by decide +kernel
theorem dX9_passes_20 : decode cX9_passes 20 = .ok (.iconst 0, 1) := by decide +kernel
theorem dX9_passes_21 : decode cX9_passes 21 = .ok (.iaload, 1) := by decide +kernel
theorem dX9_passes_22 : decode cX9_passes 22 = .ok (.iload_n 1, 1) := by decide +kernel
theorem dX9_passes_23 : decode cX9_passes 23 = .ok (.iadd, 1) := by decide +kernel
theorem dX9_passes_24 : decode cX9_passes 24 = .ok (.iastore, 1) := by decide +kernel
theorem dX9_passes_25 : decode cX9_passes 25 = .ok (.return_, 1) := by decide +kernel
theorem dX9_readsWait_0 : decode cX9_readsWait 0 = .ok (.aload_n 0, 1) := by decide +kernel
theorem dX9_readsWait_1 : decode cX9_readsWait 1 = .ok (.iconst 1, 1) := by decide +kernel
theorem dX9_readsWait_2 : decode cX9_readsWait 2 = .ok (.bipush 99, 2) := by decide +kernel
theorem dX9_readsWait_4 : decode cX9_readsWait 4 = .ok (.invokevirtual 150, 3) := by decide +kernel
theorem dX9_readsWait_7 : decode cX9_readsWait 7 = .ok (.istore_n 1, 1) := by decide +kernel
theorem dX9_readsWait_8 : decode cX9_readsWait 8 = .ok (.iload_n 1, 1) := by decide +kernel
theorem dX9_readsWait_9 : decode cX9_readsWait 9 = .ok (.iconst (-1), 1) := by decide +kernel
theorem dX9_readsWait_10 : decode cX9_readsWait 10 = .ok (.if_icmp .eq 10, 3) := by decide +kernel
theorem dX9_readsWait_13 : decode cX9_readsWait 13 = .ok (.aload_n 0, 1) := by decide +kernel
theorem dX9_readsWait_14 : decode cX9_readsWait 14 = .ok (.invokevirtual 154, 3) := by decide +kernel
theorem dX9_readsWait_17 : decode cX9_readsWait 17 = .ok (.ifCond .ne 5, 3) := by decide +kernel
theorem dX9_readsWait_20 : decode cX9_readsWait 20 = .ok (.iconst 0, 1) := by decide +kernel
theorem dX9_readsWait_21 : decode cX9_readsWait 21 = .ok (.ireturn, 1) := by decide +kernel
theorem dX9_readsWait_22 : decode cX9_readsWait 22 = .ok (.aload_n 0, 1) := by decide +kernel
theorem dX9_readsWait_23 : decode cX9_readsWait 23 = .ok (.getfield 23, 3) := by decide +kernel
theorem dX9_readsWait_26 : decode cX9_readsWait 26 = .ok (.iload_n 1, 1) := by decide +kernel
theorem dX9_readsWait_27 : decode cX9_readsWait 27 = .ok (.invokestatic 161, 3) := by decide +kernel
theorem dX9_readsWait_30 : decode cX9_readsWait 30 = .ok (.iconst 1, 1) := by decide +kernel
theorem dX9_readsWait_31 : decode cX9_readsWait 31 = .ok (.ireturn, 1) := by decide +kernel
theorem dX9_readsItem_0 : decode cX9_readsItem 0 = .ok (.aload_n 0, 1) := by decide +kernel
theorem dX9_readsItem_1 : decode cX9_readsItem 1 = .ok (.invokevirtual 144, 3) := by decide +kernel
theorem dX9_readsItem_4 : decode cX9_readsItem 4 = .ok (.iload_n 1, 1) := by decide +kernel
theorem dX9_readsItem_5 : decode cX9_readsItem 5 = .ok (.ifCond .eq 17, 3) := by decide +kernel
theorem dX9_readsItem_8 : decode cX9_readsItem 8 = .ok (.aload_n 0, 1) := by decide +kernel
theorem dX9_readsItem_9 : decode cX9_readsItem 9 = .ok (.getfield 138, 3) := by decide +kernel
theorem dX9_readsItem_12 : decode cX9_readsItem 12 = .ok (.ldc 164, 2) := by decide +kernel
theorem dX9_readsItem_14 : decode cX9_readsItem 14 = .ok (.if_icmp .ne 8, 3) := by decide +kernel
theorem dX9_readsItem_17 : decode cX9_readsItem 17 = .ok (.aload_n 0, 1) := by decide +kernel
theorem dX9_readsItem_18 : decode cX9_readsItem 18 = .ok (.invokevirtual 165, 3) := by decide +kernel
theorem dX9_readsItem_21 : decode cX9_readsItem 21 = .ok (.ireturn, 1) := by decide +kernel
theorem dX9_readsItem_22 : decode cX9_readsItem 22 = .ok (.iload_n 1, 1) := by decide +kernel
theorem dX9_readsItem_23 : decode cX9_readsItem 23 = .ok (.ifCond .ne 17, 3) := by decide +kernel
theorem dX9_readsItem_26 : decode cX9_readsItem 26 = .ok (.aload_n 0, 1) := by decide +kernel
theorem dX9_readsItem_27 : decode cX9_readsItem 27 = .ok (.getfield 138, 3) := by decide +kernel
theorem dX9_readsItem_30 : decode cX9_readsItem 30 = .ok (.ldc 168, 2) := by decide +kernel
theorem dX9_readsItem_32 : decode cX9_readsItem 32 = .ok (.if_icmp .ne 8, 3) := by decide +kernel
theorem dX9_readsItem_35 : decode cX9_readsItem 35 = .ok (.aload_n 0, 1) := by decide +kernel
theorem dX9_readsItem_36 : decode cX9_readsItem 36 = .ok (.invokevirtual 169, 3) := by decide +kernel
theorem dX9_readsItem_39 : decode cX9_readsItem 39 = .ok (.ireturn, 1) := by decide +kernel
theorem dX9_readsItem_40 : decode cX9_readsItem 40 = .ok (.iload_n 1, 1) := by decide +kernel
theorem dX9_readsItem_41 : decode cX9_readsItem 41 = .ok (.ifCond .ne 18, 3) := by decide +kernel
theorem dX9_readsItem_44 : decode cX9_readsItem 44 = .ok (.aload_n 0, 1) := by decide +kernel
theorem dX9_readsItem_45 : decode cX9_readsItem 45 = .ok (.getfield 138, 3) := by decide +kernel
theorem dX9_readsItem_48 : decode cX9_readsItem 48 = .ok (.sipush 10793, 3) := by decide +kernel
theorem dX9_readsItem_51 : decode cX9_readsItem 51 = .ok (.if_icmp .ne 8, 3) := by decide +kernel
theorem dX9_readsItem_54 : decode cX9_readsItem 54 = .ok (.aload_n 0, 1) := by decide +kernel
theorem dX9_readsItem_55 : decode cX9_readsItem 55 = .ok (.invokevirtual 172, 3) := by decide +kernel
theorem dX9_readsItem_58 : decode cX9_readsItem 58 = .ok (.ireturn, 1) := by decide +kernel
theorem dX9_readsItem_59 : decode cX9_readsItem 59 = .ok (.iload_n 1, 1) := by decide +kernel
theorem dX9_readsItem_60 : decode cX9_readsItem 60 = .ok (.ifCond .ne 17, 3) := by decide +kernel
theorem dX9_readsItem_63 : decode cX9_readsItem 63 = .ok (.aload_n 0, 1) := by decide +kernel
theorem dX9_readsItem_64 : decode cX9_readsItem 64 = .ok (.getfield 138, 3) := by decide +kernel
theorem dX9_readsItem_67 : decode cX9_readsItem 67 = .ok (.ldc 175, 2) := by decide +kernel
theorem dX9_readsItem_69 : decode cX9_readsItem 69 = .ok (.if_icmp .ne 8, 3) := by decide +kernel
theorem dX9_readsItem_72 : decode cX9_readsItem 72 = .ok (.aload_n 0, 1) := by decide +kernel
theorem dX9_readsItem_73 : decode cX9_readsItem 73 = .ok (.invokevirtual 176, 3) := by decide +kernel
theorem dX9_readsItem_76 : decode cX9_readsItem 76 = .ok (.ireturn, 1) := by decide +kernel
theorem dX9_readsItem_77 : decode cX9_readsItem 77 = .ok (.iload_n 1, 1) := by decide +kernel
theorem dX9_readsItem_78 : decode cX9_readsItem 78 = .ok (.ifCond .ne 17, 3) := by decide +kernel
theorem dX9_readsItem_81 : decode cX9_readsItem 81 = .ok (.aload_n 0, 1) := by decide +kernel
theorem dX9_readsItem_82 : decode cX9_readsItem 82 = .ok (.getfield 138, 3) := by decide +kernel
theorem dX9_readsItem_85 : decode cX9_readsItem 85 = .ok (.ldc 179, 2) := by decide +kernel
theorem dX9_readsItem_87 : decode cX9_readsItem 87 = .ok (.if_icmp .ne 8, 3) := by decide +kernel
theorem dX9_readsItem_90 : decode cX9_readsItem 90 = .ok (.aload_n 0, 1) := by decide +kernel
theorem dX9_readsItem_91 : decode cX9_readsItem 91 = .ok (.invokevirtual 180, 3) := by decide +kernel
theorem dX9_readsItem_94 : decode cX9_readsItem 94 = .ok (.ireturn, 1) := by decide +kernel
theorem dX9_readsItem_95 : decode cX9_readsItem 95 = .ok (.aload_n 0, 1) := by decide +kernel
theorem dX9_readsItem_96 : decode cX9_readsItem 96 = .ok (.invokevirtual 147, 3) := by decide +kernel
theorem dX9_readsItem_99 : decode cX9_readsItem 99 = .ok (.pop, 1) := by decide +kernel
theorem dX9_readsItem_100 : decode cX9_readsItem 100 = .ok (.iconst 0, 1) := by decide +kernel
theorem dX9_readsItem_101 : decode cX9_readsItem 101 = .ok (.ireturn, 1) := by decide +kernel
theorem dX9_isMore_0 : decode cX9_isMore 0 = .ok (.aload_n 0, 1) := by decide +kernel
theorem dX9_isMore_1 : decode cX9_isMore 1 = .ok (.bipush 32, 2) := by decide +kernel
theorem dX9_isMore_3 : decode cX9_isMore 3 = .ok (.bipush 32, 2) := by decide +kernel
theorem dX9_isMore_5 : decode cX9_isMore 5 = .ok (.invokevirtual 131, 3) := by decide +kernel
theorem dX9_isMore_8 : decode cX9_isMore 8 = .ok (.ifCond .eq 16, 3) := by decide +kernel
theorem dX9_isMore_11 : decode cX9_isMore 11 = .ok (.aload_n 0, 1) := by decide +kernel
theorem dX9_isMore_12 : decode cX9_isMore 12 = .ok (.dup, 1) := by decide +kernel
theorem dX9_isMore_13 : decode cX9_isMore 13 = .ok (.getfield 128, 3) := by decide +kernel
theorem dX9_isMore_16 : decode cX9_isMore 16 = .ok (.iconst 1, 1) := by decide +kernel
theorem dX9_isMore_17 : decode cX9_isMore 17 = .ok (.iadd, 1) := by decide +kernel
theorem dX9_isMore_18 : decode cX9_isMore 18 = .ok (.putfield 128, 3) := by decide +kernel
theorem dX9_isMore_21 : decode cX9_isMore 21 = .ok (.goto (-21), 3) := by decide +kernel
theorem dX9_isMore_24 : decode cX9_isMore 24 = .ok (.aload_n 0, 1) := by decide +kernel
theorem dX9_isMore_25 : decode cX9_isMore 25 = .ok (.getfield 128, 3) := by decide +kernel
theorem dX9_isMore_28 : decode cX9_isMore 28 = .ok (.aload_n 0, 1) := by decide +kernel
theorem dX9_isMore_29 : decode cX9_isMore 29 = .ok (.getfield 125, 3) := by decide +kernel
theorem dX9_isMore_32 : decode cX9_isMore 32 = .ok (.if_icmp .ge 7, 3) := by decide +kernel
theorem dX9_isMore_35 : decode cX9_isMore 35 = .ok (.iconst 1, 1) := by decide +kernel
theorem dX9_isMore_36 : decode cX9_isMore 36 = .ok (.goto 4, 3) := by decide +kernel
theorem dX9_isMore_39 : decode cX9_isMore 39 = .ok (.iconst 0, 1) := by decide +kernel
theorem dX9_isMore_40 : decode cX9_isMore 40 = .ok (.ireturn, 1) := by decide +kernel
theorem dX9_read_0 : decode cX9_read 0 = .ok (.aload_n 0, 1) := by decide +kernel
theorem dX9_read_1 : decode cX9_read 1 = .ok (.iconst 0, 1) := by decide +kernel
theorem dX9_read_2 : decode cX9_read 2 = .ok (.putfield 128, 3) := by decide +kernel
theorem dX9_read_5 : decode cX9_read 5 = .ok (.iconst 0, 1) := by decide +kernel
theorem dX9_read_6 : decode cX9_read 6 = .ok (.istore_n 1, 1) := by decide +kernel
theorem dX9_read_7 : decode cX9_read 7 = .ok (.aload_n 0, 1) := by decide +kernel
theorem dX9_read_8 : decode cX9_read 8 = .ok (.iload_n 1, 1) := by decide +kernel
theorem dX9_read_9 : decode cX9_read 9 = .ok (.ifCond .ne 7, 3) := by decide +kernel
theorem dX9_read_12 : decode cX9_read 12 = .ok (.iconst 1, 1) := by decide +kernel
theorem dX9_read_13 : decode cX9_read 13 = .ok (.goto 4, 3) := by decide +kernel
theorem dX9_read_16 : decode cX9_read 16 = .ok (.iconst 0, 1) := by decide +kernel
theorem dX9_read_17 : decode cX9_read 17 = .ok (.invokevirtual 183, 3) := by decide +kernel
theorem dX9_read_20 : decode cX9_read 20 = .ok (.ifCond .ne 11, 3) := by decide +kernel
theorem dX9_read_23 : decode cX9_read 23 = .ok (.bipush (-10), 2) := by decide +kernel
theorem dX9_read_25 : decode cX9_read 25 = .ok (.aload_n 0, 1) := by decide +kernel
theorem dX9_read_26 : decode cX9_read 26 = .ok (.getfield 141, 3) := by decide +kernel
theorem dX9_read_29 : decode cX9_read 29 = .ok (.isub, 1) := by decide +kernel
theorem dX9_read_30 : decode cX9_read 30 = .ok (.ireturn, 1) := by decide +kernel
theorem dX9_read_31 : decode cX9_read 31 = .ok (.iinc 1 1, 3) := by decide +kernel
theorem dX9_read_34 : decode cX9_read 34 = .ok (.aload_n 0, 1) := by decide +kernel
theorem dX9_read_35 : decode cX9_read 35 = .ok (.invokevirtual 187, 3) := by decide +kernel
theorem dX9_read_38 : decode cX9_read 38 = .ok (.ifCond .ne (-31), 3) := by decide +kernel
theorem dX9_read_41 : decode cX9_read 41 = .ok (.aload_n 0, 1) := by decide +kernel
theorem dX9_read_42 : decode cX9_read 42 = .ok (.getfield 23, 3) := by decide +kernel
theorem dX9_read_45 : decode cX9_read 45 = .ok (.aload_n 0, 1) := by decide +kernel
theorem dX9_read_46 : decode cX9_read 46 = .ok (.getfield 17, 3) := by decide +kernel
theorem dX9_read_49 : decode cX9_read 49 = .ok (.invokestatic 190, 3) := by decide +kernel
theorem dX9_read_52 : decode cX9_read 52 = .ok (.aload_n 0, 1) := by decide +kernel
theorem dX9_read_53 : decode cX9_read 53 = .ok (.invokevirtual 111, 3) := by decide +kernel
theorem dX9_read_56 : decode cX9_read 56 = .ok (.iload_n 1, 1) := by decide +kernel
theorem dX9_read_57 : decode cX9_read 57 = .ok (.ireturn, 1) := by decide +kernel
theorem dX9_remember_0 : decode cX9_remember 0 = .ok (.iconst 0, 1) := by decide +kernel
theorem dX9_remember_1 : decode cX9_remember 1 = .ok (.istore_n 1, 1) := by decide +kernel
theorem dX9_remember_2 : decode cX9_remember 2 = .ok (.iload_n 1, 1) := by decide +kernel
theorem dX9_remember_3 : decode cX9_remember 3 = .ok (.bipush 45, 2) := by decide +kernel
theorem dX9_remember_5 : decode cX9_remember 5 = .ok (.if_icmp .ge 29, 3) := by decide +kernel
theorem dX9_remember_8 : decode cX9_remember 8 = .ok (.aload_n 0, 1) := by decide +kernel
theorem dX9_remember_9 : decode cX9_remember 9 = .ok (.getfield 32, 3) := by decide +kernel
theorem dX9_remember_12 : decode cX9_remember 12 = .ok (.bipush 45, 2) := by decide +kernel
theorem dX9_remember_14 : decode cX9_remember 14 = .ok (.aload_n 0, 1) := by decide +kernel
theorem dX9_remember_15 : decode cX9_remember 15 = .ok (.getfield 194, 3) := by decide +kernel
theorem dX9_remember_18 : decode cX9_remember 18 = .ok (.imul, 1) := by decide +kernel
theorem dX9_remember_19 : decode cX9_remember 19 = .ok (.iload_n 1, 1) := by decide +kernel
theorem dX9_remember_20 : decode cX9_remember 20 = .ok (.iadd, 1) := by decide +kernel
theorem dX9_remember_21 : decode cX9_remember 21 = .ok (.aload_n 0, 1) := by decide +kernel
theorem dX9_remember_22 : decode cX9_remember 22 = .ok (.getfield 17, 3) := by decide +kernel
theorem dX9_remember_25 : decode cX9_remember 25 = .ok (.iload_n 1, 1) := by decide +kernel
theorem dX9_remember_26 : decode cX9_remember 26 = .ok (.iaload, 1) := by decide +kernel
theorem dX9_remember_27 : decode cX9_remember 27 = .ok (.iastore, 1) := by decide +kernel
theorem dX9_remember_28 : decode cX9_remember 28 = .ok (.iinc 1 1, 3) := by decide +kernel
theorem dX9_remember_31 : decode cX9_remember 31 = .ok (.goto (-29), 3) := by decide +kernel
theorem dX9_remember_34 : decode cX9_remember 34 = .ok (.aload_n 0, 1) := by decide +kernel
theorem dX9_remember_35 : decode cX9_remember 35 = .ok (.aload_n 0, 1) := by decide +kernel
theorem dX9_remember_36 : decode cX9_remember 36 = .ok (.getfield 194, 3) := by decide +kernel
theorem dX9_remember_39 : decode cX9_remember 39 = .ok (.iconst 1, 1) := by decide +kernel
theorem dX9_remember_40 : decode cX9_remember 40 = .ok (.iadd, 1) := by decide +kernel
theorem dX9_remember_41 : decode cX9_remember 41 = .ok (.bipush 8, 2) := by decide +kernel
theorem dX9_remember_43 : decode cX9_remember 43 = .ok (.irem, 1) := by decide +kernel
theorem dX9_remember_44 : decode cX9_remember 44 = .ok (.putfield 194, 3) := by decide +kernel
theorem dX9_remember_47 : decode cX9_remember 47 = .ok (.aload_n 0, 1) := by decide +kernel
theorem dX9_remember_48 : decode cX9_remember 48 = .ok (.dup, 1) := by decide +kernel
theorem dX9_remember_49 : decode cX9_remember 49 = .ok (.getfield 103, 3) := by decide +kernel
theorem dX9_remember_52 : decode cX9_remember 52 = .ok (.aload_n 0, 1) := by decide +kernel
theorem dX9_remember_53 : decode cX9_remember 53 = .ok (.getfield 103, 3) := by decide +kernel
theorem dX9_remember_56 : decode cX9_remember 56 = .ok (.bipush 8, 2) := by decide +kernel
theorem dX9_remember_58 : decode cX9_remember 58 = .ok (.if_icmp .ge 7, 3) := by decide +kernel
theorem dX9_remember_61 : decode cX9_remember 61 = .ok (.iconst 1, 1) := by decide +kernel
theorem dX9_remember_62 : decode cX9_remember 62 = .ok (.goto 4, 3) := by decide +kernel
theorem dX9_remember_65 : decode cX9_remember 65 = .ok (.iconst 0, 1) := by decide +kernel
theorem dX9_remember_66 : decode cX9_remember 66 = .ok (.iadd, 1) := by decide +kernel
theorem dX9_remember_67 : decode cX9_remember 67 = .ok (.putfield 103, 3) := by decide +kernel
theorem dX9_remember_70 : decode cX9_remember 70 = .ok (.return_, 1) := by decide +kernel
theorem dX9_isPair_0 : decode cX9_isPair 0 = .ok (.aload_n 0, 1) := by decide +kernel
theorem dX9_isPair_1 : decode cX9_isPair 1 = .ok (.getfield 17, 3) := by decide +kernel
theorem dX9_isPair_4 : decode cX9_isPair 4 = .ok (.iload_n 1, 1) := by decide +kernel
theorem dX9_isPair_5 : decode cX9_isPair 5 = .ok (.invokestatic 68, 3) := by decide +kernel
theorem dX9_isPair_8 : decode cX9_isPair 8 = .ok (.ifCond .eq 23, 3) := by decide +kernel
theorem dX9_isPair_11 : decode cX9_isPair 11 = .ok (.aload_n 0, 1) := by decide +kernel
theorem dX9_isPair_12 : decode cX9_isPair 12 = .ok (.getfield 17, 3) := by decide +kernel
theorem dX9_isPair_15 : decode cX9_isPair 15 = .ok (.iload_n 2, 1) := by decide +kernel
theorem dX9_isPair_16 : decode cX9_isPair 16 = .ok (.invokestatic 68, 3) := by decide +kernel
theorem dX9_isPair_19 : decode cX9_isPair 19 = .ok (.ifCond .eq 12, 3) := by decide +kernel
theorem dX9_isPair_22 : decode cX9_isPair 22 = .ok (.iload_n 1, 1) := by decide +kernel
theorem dX9_isPair_23 : decode cX9_isPair 23 = .ok (.iload_n 2, 1) := by decide +kernel
theorem dX9_isPair_24 : decode cX9_isPair 24 = .ok (.if_icmp .eq 7, 3) := by decide +kernel
theorem dX9_isPair_27 : decode cX9_isPair 27 = .ok (.iconst 1, 1) := by decide +kernel
theorem dX9_isPair_28 : decode cX9_isPair 28 = .ok (.goto 4, 3) := by decide +kernel
theorem dX9_isPair_31 : decode cX9_isPair 31 = .ok (.iconst 0, 1) := by decide +kernel
theorem dX9_isPair_32 : decode cX9_isPair 32 = .ok (.ireturn, 1) := by decide +kernel
theorem dX9_strikes_0 : decode cX9_strikes 0 = .ok (.aload_n 0, 1) := by decide +kernel
theorem dX9_strikes_1 : decode cX9_strikes 1 = .ok (.iload_n 1, 1) := by decide +kernel
theorem dX9_strikes_2 : decode cX9_strikes 2 = .ok (.iload_n 2, 1) := by decide +kernel
theorem dX9_strikes_3 : decode cX9_strikes 3 = .ok (.invokevirtual 197, 3) := by decide +kernel
theorem dX9_strikes_6 : decode cX9_strikes 6 = .ok (.ifCond .ne 10, 3) := by decide +kernel
theorem dX9_strikes_9 : decode cX9_strikes 9 = .ok (.aload_n 0, 1) := by decide +kernel
theorem dX9_strikes_10 : decode cX9_strikes 10 = .ok (.bipush (-2), 2) := by decide +kernel
theorem dX9_strikes_12 : decode cX9_strikes 12 = .ok (.invokevirtual 61, 3) := by decide +kernel
theorem dX9_strikes_15 : decode cX9_strikes 15 = .ok (.ireturn, 1) := by decide +kernel
theorem dX9_strikes_16 : decode cX9_strikes 16 = .ok (.aload_n 0, 1) := by decide +kernel
theorem dX9_strikes_17 : decode cX9_strikes 17 = .ok (.getfield 17, 3) := by decide +kernel
theorem dX9_strikes_20 : decode cX9_strikes 20 = .ok (.iload_n 1, 1) := by decide +kernel
theorem dX9_strikes_21 : decode cX9_strikes 21 = .ok (.iload_n 2, 1) := by decide +kernel
theorem dX9_strikes_22 : decode cX9_strikes 22 = .ok (.invokestatic 99, 3) := by decide +kernel
theorem dX9_strikes_25 : decode cX9_strikes 25 = .ok (.ifCond .ne 8, 3) := by decide +kernel
theorem dX9_strikes_28 : decode cX9_strikes 28 = .ok (.aload_n 0, 1) := by decide +kernel
theorem dX9_strikes_29 : decode cX9_strikes 29 = .ok (.invokevirtual 200, 3) := by decide +kernel
theorem dX9_strikes_32 : decode cX9_strikes 32 = .ok (.ireturn, 1) := by decide +kernel
theorem dX9_strikes_33 : decode cX9_strikes 33 = .ok (.aload_n 0, 1) := by decide +kernel
theorem dX9_strikes_34 : decode cX9_strikes 34 = .ok (.invokevirtual 203, 3) := by decide +kernel
theorem dX9_strikes_37 : decode cX9_strikes 37 = .ok (.aload_n 0, 1) := by decide +kernel
theorem dX9_strikes_38 : decode cX9_strikes 38 = .ok (.getfield 17, 3) := by decide +kernel
theorem dX9_strikes_41 : decode cX9_strikes 41 = .ok (.iload_n 1, 1) := by decide +kernel
theorem dX9_strikes_42 : decode cX9_strikes 42 = .ok (.iload_n 2, 1) := by decide +kernel
theorem dX9_strikes_43 : decode cX9_strikes 43 = .ok (.invokestatic 158, 3) := by decide +kernel
theorem dX9_strikes_46 : decode cX9_strikes 46 = .ok (.aload_n 0, 1) := by decide +kernel
theorem dX9_strikes_47 : decode cX9_strikes 47 = .ok (.getfield 17, 3) := by decide +kernel
theorem dX9_strikes_50 : decode cX9_strikes 50 = .ok (.bipush 33, 2) := by decide +kernel
theorem dX9_strikes_52 : decode cX9_strikes 52 = .ok (.iload_n 2, 1) := by decide +kernel
theorem dX9_strikes_53 : decode cX9_strikes 53 = .ok (.iadd, 1) := by decide +kernel
theorem dX9_strikes_54 : decode cX9_strikes 54 = .ok (.iaload, 1) := by decide +kernel
theorem dX9_strikes_55 : decode cX9_strikes 55 = .ok (.ireturn, 1) := by decide +kernel
theorem dX9_waits_0 : decode cX9_waits 0 = .ok (.iload_n 1, 1) := by decide +kernel
theorem dX9_waits_1 : decode cX9_waits 1 = .ok (.iconst 1, 1) := by decide +kernel
theorem dX9_waits_2 : decode cX9_waits 2 = .ok (.bipush 60, 2) := by decide +kernel
theorem dX9_waits_4 : decode cX9_waits 4 = .ok (.invokestatic 57, 3) := by decide +kernel
theorem dX9_waits_7 : decode cX9_waits 7 = .ok (.ifCond .ne 10, 3) := by decide +kernel
theorem dX9_waits_10 : decode cX9_waits 10 = .ok (.aload_n 0, 1) := by decide +kernel
theorem dX9_waits_11 : decode cX9_waits 11 = .ok (.bipush (-2), 2) := by decide +kernel
theorem dX9_waits_13 : decode cX9_waits 13 = .ok (.invokevirtual 61, 3) := by decide +kernel
theorem dX9_waits_16 : decode cX9_waits 16 = .ok (.ireturn, 1) := by decide +kernel
theorem dX9_waits_17 : decode cX9_waits 17 = .ok (.aload_n 0, 1) := by decide +kernel
theorem dX9_waits_18 : decode cX9_waits 18 = .ok (.invokevirtual 203, 3) := by decide +kernel
theorem dX9_waits_21 : decode cX9_waits 21 = .ok (.aload_n 0, 1) := by decide +kernel
theorem dX9_waits_22 : decode cX9_waits 22 = .ok (.getfield 17, 3) := by decide +kernel
theorem dX9_waits_25 : decode cX9_waits 25 = .ok (.iload_n 1, 1) := by decide +kernel
theorem dX9_waits_26 : decode cX9_waits 26 = .ok (.invokestatic 161, 3) := by decide +kernel
theorem dX9_waits_29 : decode cX9_waits 29 = .ok (.aload_n 0, 1) := by decide +kernel
theorem dX9_waits_30 : decode cX9_waits 30 = .ok (.getfield 17, 3) := by decide +kernel
theorem dX9_waits_33 : decode cX9_waits 33 = .ok (.iconst 0, 1) := by decide +kernel
theorem dX9_waits_34 : decode cX9_waits 34 = .ok (.iaload, 1) := by decide +kernel
theorem dX9_waits_35 : decode cX9_waits 35 = .ok (.ireturn, 1) := by decide +kernel
theorem dX9_hands_0 : decode cX9_hands 0 = .ok (.aload_n 0, 1) := by decide +kernel
theorem dX9_hands_1 : decode cX9_hands 1 = .ok (.getfield 17, 3) := by decide +kernel
theorem dX9_hands_4 : decode cX9_hands 4 = .ok (.iload_n 1, 1) := by decide +kernel
theorem dX9_hands_5 : decode cX9_hands 5 = .ok (.invokestatic 68, 3) := by decide +kernel
theorem dX9_hands_8 : decode cX9_hands 8 = .ok (.ifCond .eq 19, 3) := by decide +kernel
theorem dX9_hands_11 : decode cX9_hands 11 = .ok (.iload_n 2, 1) := by decide +kernel
theorem dX9_hands_12 : decode cX9_hands 12 = .ok (.iconst 0, 1) := by decide +kernel
theorem dX9_hands_13 : decode cX9_hands 13 = .ok (.aload_n 0, 1) := by decide +kernel
theorem dX9_hands_14 : decode cX9_hands 14 = .ok (.getfield 17, 3) := by decide +kernel
theorem dX9_hands_17 : decode cX9_hands 17 = .ok (.iconst 1, 1) := by decide +kernel
theorem dX9_hands_18 : decode cX9_hands 18 = .ok (.iaload, 1) := by decide +kernel
theorem dX9_hands_19 : decode cX9_hands 19 = .ok (.iconst 1, 1) := by decide +kernel
theorem dX9_hands_20 : decode cX9_hands 20 = .ok (.isub, 1) := by decide +kernel
theorem dX9_hands_21 : decode cX9_hands 21 = .ok (.invokestatic 57, 3) := by decide +kernel
theorem dX9_hands_24 : decode cX9_hands 24 = .ok (.ifCond .ne 10, 3) := by decide +kernel
theorem dX9_hands_27 : decode cX9_hands 27 = .ok (.aload_n 0, 1) := by decide +kernel
theorem dX9_hands_28 : decode cX9_hands 28 = .ok (.bipush (-2), 2) := by decide +kernel
theorem dX9_hands_30 : decode cX9_hands 30 = .ok (.invokevirtual 61, 3) := by decide +kernel
theorem dX9_hands_33 : decode cX9_hands 33 = .ok (.ireturn, 1) := by decide +kernel
theorem dX9_hands_34 : decode cX9_hands 34 = .ok (.aload_n 0, 1) := by decide +kernel
theorem dX9_hands_35 : decode cX9_hands 35 = .ok (.getfield 17, 3) := by decide +kernel
theorem dX9_hands_38 : decode cX9_hands 38 = .ok (.bipush 9, 2) := by decide +kernel
theorem dX9_hands_40 : decode cX9_hands 40 = .ok (.iload_n 1, 1) := by decide +kernel
theorem dX9_hands_41 : decode cX9_hands 41 = .ok (.iadd, 1) := by decide +kernel
theorem dX9_hands_42 : decode cX9_hands 42 = .ok (.iaload, 1) := by decide +kernel
theorem dX9_hands_43 : decode cX9_hands 43 = .ok (.istore_n 3, 1) := by decide +kernel
theorem dX9_hands_44 : decode cX9_hands 44 = .ok (.iload_n 3, 1) := by decide +kernel
theorem dX9_hands_45 : decode cX9_hands 45 = .ok (.iload_n 2, 1) := by decide +kernel
theorem dX9_hands_46 : decode cX9_hands 46 = .ok (.if_icmp .eq 14, 3) := by decide +kernel
theorem dX9_hands_49 : decode cX9_hands 49 = .ok (.aload_n 0, 1) := by decide +kernel
theorem dX9_hands_50 : decode cX9_hands 50 = .ok (.getfield 17, 3) := by decide +kernel
theorem dX9_hands_53 : decode cX9_hands 53 = .ok (.iload_n 1, 1) := by decide +kernel
theorem dX9_hands_54 : decode cX9_hands 54 = .ok (.invokestatic 72, 3) := by decide +kernel
theorem dX9_hands_57 : decode cX9_hands 57 = .ok (.ifCond .eq 8, 3) := by decide +kernel
theorem dX9_hands_60 : decode cX9_hands 60 = .ok (.aload_n 0, 1) := by decide +kernel
theorem dX9_hands_61 : decode cX9_hands 61 = .ok (.invokevirtual 200, 3) := by decide +kernel
theorem dX9_hands_64 : decode cX9_hands 64 = .ok (.ireturn, 1) := by decide +kernel
theorem dX9_hands_65 : decode cX9_hands 65 = .ok (.aload_n 0, 1) := by decide +kernel
theorem dX9_hands_66 : decode cX9_hands 66 = .ok (.invokevirtual 203, 3) := by decide +kernel
theorem dX9_hands_69 : decode cX9_hands 69 = .ok (.aload_n 0, 1) := by decide +kernel
theorem dX9_hands_70 : decode cX9_hands 70 = .ok (.getfield 17, 3) := by decide +kernel
theorem dX9_hands_73 : decode cX9_hands 73 = .ok (.bipush 9, 2) := by decide +kernel
theorem dX9_hands_75 : decode cX9_hands 75 = .ok (.iload_n 1, 1) := by decide +kernel
theorem dX9_hands_76 : decode cX9_hands 76 = .ok (.iadd, 1) := by decide +kernel
theorem dX9_hands_77 : decode cX9_hands 77 = .ok (.iload_n 2, 1) := by decide +kernel
theorem dX9_hands_78 : decode cX9_hands 78 = .ok (.iastore, 1) := by decide +kernel
theorem dX9_hands_79 : decode cX9_hands 79 = .ok (.iload_n 3, 1) := by decide +kernel
theorem dX9_hands_80 : decode cX9_hands 80 = .ok (.ireturn, 1) := by decide +kernel
theorem dX9_undo_0 : decode cX9_undo 0 = .ok (.aload_n 0, 1) := by decide +kernel
theorem dX9_undo_1 : decode cX9_undo 1 = .ok (.getfield 103, 3) := by decide +kernel
theorem dX9_undo_4 : decode cX9_undo 4 = .ok (.ifCond .ne 8, 3) := by decide +kernel
theorem dX9_undo_7 : decode cX9_undo 7 = .ok (.aload_n 0, 1) := by decide +kernel
theorem dX9_undo_8 : decode cX9_undo 8 = .ok (.invokevirtual 200, 3) := by decide +kernel
theorem dX9_undo_11 : decode cX9_undo 11 = .ok (.ireturn, 1) := by decide +kernel
theorem dX9_undo_12 : decode cX9_undo 12 = .ok (.aload_n 0, 1) := by decide +kernel
theorem dX9_undo_13 : decode cX9_undo 13 = .ok (.aload_n 0, 1) := by decide +kernel
theorem dX9_undo_14 : decode cX9_undo 14 = .ok (.getfield 194, 3) := by decide +kernel
theorem dX9_undo_17 : decode cX9_undo 17 = .ok (.bipush 8, 2) := by decide +kernel
theorem dX9_undo_19 : decode cX9_undo 19 = .ok (.iadd, 1) := by decide +kernel
theorem dX9_undo_20 : decode cX9_undo 20 = .ok (.iconst 1, 1) := by decide +kernel
theorem dX9_undo_21 : decode cX9_undo 21 = .ok (.isub, 1) := by decide +kernel
theorem dX9_undo_22 : decode cX9_undo 22 = .ok (.bipush 8, 2) := by decide +kernel
theorem dX9_undo_24 : decode cX9_undo 24 = .ok (.irem, 1) := by decide +kernel
theorem dX9_undo_25 : decode cX9_undo 25 = .ok (.putfield 194, 3) := by decide +kernel
theorem dX9_undo_28 : decode cX9_undo 28 = .ok (.aload_n 0, 1) := by decide +kernel
theorem dX9_undo_29 : decode cX9_undo 29 = .ok (.dup, 1) := by decide +kernel
theorem dX9_undo_30 : decode cX9_undo 30 = .ok (.getfield 103, 3) := by decide +kernel
theorem dX9_undo_33 : decode cX9_undo 33 = .ok (.iconst 1, 1) := by decide +kernel
theorem dX9_undo_34 : decode cX9_undo 34 = .ok (.isub, 1) := by decide +kernel
theorem dX9_undo_35 : decode cX9_undo 35 = .ok (.putfield 103, 3) := by decide +kernel
theorem dX9_undo_38 : decode cX9_undo 38 = .ok (.iconst 0, 1) := by decide +kernel
theorem dX9_undo_39 : decode cX9_undo 39 = .ok (.istore_n 1, 1) := by decide +kernel
theorem dX9_undo_40 : decode cX9_undo 40 = .ok (.iload_n 1, 1) := by decide +kernel
theorem dX9_undo_41 : decode cX9_undo 41 = .ok (.bipush 45, 2) := by decide +kernel
theorem dX9_undo_43 : decode cX9_undo 43 = .ok (.if_icmp .ge 29, 3) := by decide +kernel
theorem dX9_undo_46 : decode cX9_undo 46 = .ok (.aload_n 0, 1) := by decide +kernel
theorem dX9_undo_47 : decode cX9_undo 47 = .ok (.getfield 17, 3) := by decide +kernel
theorem dX9_undo_50 : decode cX9_undo 50 = .ok (.iload_n 1, 1) := by decide +kernel
theorem dX9_undo_51 : decode cX9_undo 51 = .ok (.aload_n 0, 1) := by decide +kernel
theorem dX9_undo_52 : decode cX9_undo 52 = .ok (.getfield 32, 3) := by decide +kernel
theorem dX9_undo_55 : decode cX9_undo 55 = .ok (.bipush 45, 2) := by decide +kernel
theorem dX9_undo_57 : decode cX9_undo 57 = .ok (.aload_n 0, 1) := by decide +kernel
theorem dX9_undo_58 : decode cX9_undo 58 = .ok (.getfield 194, 3) := by decide +kernel
theorem dX9_undo_61 : decode cX9_undo 61 = .ok (.imul, 1) := by decide +kernel
theorem dX9_undo_62 : decode cX9_undo 62 = .ok (.iload_n 1, 1) := by decide +kernel
theorem dX9_undo_63 : decode cX9_undo 63 = .ok (.iadd, 1) := by decide +kernel
theorem dX9_undo_64 : decode cX9_undo 64 = .ok (.iaload, 1) := by decide +kernel
theorem dX9_undo_65 : decode cX9_undo 65 = .ok (.iastore, 1) := by decide +kernel
theorem dX9_undo_66 : decode cX9_undo 66 = .ok (.iinc 1 1, 3) := by decide +kernel
theorem dX9_undo_69 : decode cX9_undo 69 = .ok (.goto (-29), 3) := by decide +kernel
theorem dX9_undo_72 : decode cX9_undo 72 = .ok (.aload_n 0, 1) := by decide +kernel
theorem dX9_undo_73 : decode cX9_undo 73 = .ok (.getfield 17, 3) := by decide +kernel
theorem dX9_undo_76 : decode cX9_undo 76 = .ok (.iconst 0, 1) := by decide +kernel
theorem dX9_undo_77 : decode cX9_undo 77 = .ok (.iaload, 1) := by decide +kernel
theorem dX9_undo_78 : decode cX9_undo 78 = .ok (.ireturn, 1) := by decide +kernel
theorem dX9_of_0 : decode cX9_of 0 = .ok (.aload_n 0, 1) := by decide +kernel
theorem dX9_of_1 : decode cX9_of 1 = .ok (.getfield 17, 3) := by decide +kernel
theorem dX9_of_4 : decode cX9_of 4 = .ok (.iload_n 1, 1) := by decide +kernel
theorem dX9_of_5 : decode cX9_of 5 = .ok (.invokestatic 68, 3) := by decide +kernel
theorem dX9_of_8 : decode cX9_of 8 = .ok (.ifCond .eq 13, 3) := by decide +kernel
theorem dX9_of_11 : decode cX9_of 11 = .ok (.iload_n 2, 1) := by decide +kernel
theorem dX9_of_12 : decode cX9_of 12 = .ok (.iconst 0, 1) := by decide +kernel
theorem dX9_of_13 : decode cX9_of 13 = .ok (.bipush 7, 2) := by decide +kernel
theorem dX9_of_15 : decode cX9_of 15 = .ok (.invokestatic 57, 3) := by decide +kernel
theorem dX9_of_18 : decode cX9_of 18 = .ok (.ifCond .ne 10, 3) := by decide +kernel
theorem dX9_of_21 : decode cX9_of 21 = .ok (.aload_n 0, 1) := by decide +kernel
theorem dX9_of_22 : decode cX9_of 22 = .ok (.bipush (-2), 2) := by decide +kernel
theorem dX9_of_24 : decode cX9_of 24 = .ok (.invokevirtual 61, 3) := by decide +kernel
theorem dX9_of_27 : decode cX9_of 27 = .ok (.ireturn, 1) := by decide +kernel
theorem dX9_of_28 : decode cX9_of 28 = .ok (.iload_n 2, 1) := by decide +kernel
theorem dX9_of_29 : decode cX9_of 29 = .ok (.bipush 7, 2) := by decide +kernel
theorem dX9_of_31 : decode cX9_of 31 = .ok (.if_icmp .ne 14, 3) := by decide +kernel
theorem dX9_of_34 : decode cX9_of 34 = .ok (.aload_n 0, 1) := by decide +kernel
theorem dX9_of_35 : decode cX9_of 35 = .ok (.getfield 17, 3) := by decide +kernel
theorem dX9_of_38 : decode cX9_of 38 = .ok (.iload_n 1, 1) := by decide +kernel
theorem dX9_of_39 : decode cX9_of 39 = .ok (.invokestatic 206, 3) := by decide +kernel
theorem dX9_of_42 : decode cX9_of 42 = .ok (.goto 41, 3) := by decide +kernel
theorem dX9_of_45 : decode cX9_of 45 = .ok (.iload_n 2, 1) := by decide +kernel
theorem dX9_of_46 : decode cX9_of 46 = .ok (.bipush 6, 2) := by decide +kernel
theorem dX9_of_48 : decode cX9_of 48 = .ok (.if_icmp .ne 21, 3) := by decide +kernel
theorem dX9_of_51 : decode cX9_of 51 = .ok (.aload_n 0, 1) := by decide +kernel
theorem dX9_of_52 : decode cX9_of 52 = .ok (.getfield 17, 3) := by decide +kernel
theorem dX9_of_55 : decode cX9_of 55 = .ok (.iload_n 1, 1) := by decide +kernel
theorem dX9_of_56 : decode cX9_of 56 = .ok (.aload_n 0, 1) := by decide +kernel
theorem dX9_of_57 : decode cX9_of 57 = .ok (.getfield 17, 3) := by decide +kernel
theorem dX9_of_60 : decode cX9_of 60 = .ok (.invokestatic 83, 3) := by decide +kernel
theorem dX9_of_63 : decode cX9_of 63 = .ok (.invokestatic 87, 3) := by decide +kernel
theorem dX9_of_66 : decode cX9_of 66 = .ok (.goto 17, 3) := by decide +kernel
theorem dX9_of_69 : decode cX9_of 69 = .ok (.aload_n 0, 1) := by decide +kernel
theorem dX9_of_70 : decode cX9_of 70 = .ok (.getfield 17, 3) := by decide +kernel
theorem dX9_of_73 : decode cX9_of 73 = .ok (.bipush 9, 2) := by decide +kernel
theorem dX9_of_75 : decode cX9_of 75 = .ok (.bipush 6, 2) := by decide +kernel
theorem dX9_of_77 : decode cX9_of 77 = .ok (.iload_n 2, 1) := by decide +kernel
theorem dX9_of_78 : decode cX9_of 78 = .ok (.imul, 1) := by decide +kernel
theorem dX9_of_79 : decode cX9_of 79 = .ok (.iadd, 1) := by decide +kernel
theorem dX9_of_80 : decode cX9_of 80 = .ok (.iload_n 1, 1) := by decide +kernel
theorem dX9_of_81 : decode cX9_of 81 = .ok (.iadd, 1) := by decide +kernel
theorem dX9_of_82 : decode cX9_of 82 = .ok (.iaload, 1) := by decide +kernel
theorem dX9_of_83 : decode cX9_of 83 = .ok (.ireturn, 1) := by decide +kernel
theorem dX9_nutsOf_0 : decode cX9_nutsOf 0 = .ok (.iconst 0, 1) := by decide +kernel
theorem dX9_nutsOf_1 : decode cX9_nutsOf 1 = .ok (.istore_n 2, 1) := by decide +kernel
theorem dX9_nutsOf_2 : decode cX9_nutsOf 2 = .ok (.iconst 0, 1) := by decide +kernel
theorem dX9_nutsOf_3 : decode cX9_nutsOf 3 = .ok (.istore_n 3, 1) := by decide +kernel
theorem dX9_nutsOf_4 : decode cX9_nutsOf 4 = .ok (.iload_n 3, 1) := by decide +kernel
theorem dX9_nutsOf_5 : decode cX9_nutsOf 5 = .ok (.aload_n 0, 1) := by decide +kernel
theorem dX9_nutsOf_6 : decode cX9_nutsOf 6 = .ok (.getfield 17, 3) := by decide +kernel
theorem dX9_nutsOf_9 : decode cX9_nutsOf 9 = .ok (.iconst 2, 1) := by decide +kernel
theorem dX9_nutsOf_10 : decode cX9_nutsOf 10 = .ok (.iaload, 1) := by decide +kernel
theorem dX9_nutsOf_11 : decode cX9_nutsOf 11 = .ok (.if_icmp .ge 43, 3) := by decide +kernel
theorem dX9_nutsOf_14 : decode cX9_nutsOf 14 = .ok (.iload_n 2, 1) := by decide +kernel
theorem dX9_nutsOf_15 : decode cX9_nutsOf 15 = .ok (.aload_n 0, 1) := by decide +kernel
theorem dX9_nutsOf_16 : decode cX9_nutsOf 16 = .ok (.getfield 17, 3) := by decide +kernel
theorem dX9_nutsOf_19 : decode cX9_nutsOf 19 = .ok (.bipush 9, 2) := by decide +kernel
theorem dX9_nutsOf_21 : decode cX9_nutsOf 21 = .ok (.iload_n 3, 1) := by decide +kernel
theorem dX9_nutsOf_22 : decode cX9_nutsOf 22 = .ok (.iadd, 1) := by decide +kernel
theorem dX9_nutsOf_23 : decode cX9_nutsOf 23 = .ok (.iaload, 1) := by decide +kernel
theorem dX9_nutsOf_24 : decode cX9_nutsOf 24 = .ok (.iload_n 1, 1) := by decide +kernel
theorem dX9_nutsOf_25 : decode cX9_nutsOf 25 = .ok (.if_icmp .ne 20, 3) := by decide +kernel
theorem dX9_nutsOf_28 : decode cX9_nutsOf 28 = .ok (.aload_n 0, 1) := by decide +kernel
theorem dX9_nutsOf_29 : decode cX9_nutsOf 29 = .ok (.getfield 17, 3) := by decide +kernel
theorem dX9_nutsOf_32 : decode cX9_nutsOf 32 = .ok (.iload_n 3, 1) := by decide +kernel
theorem dX9_nutsOf_33 : decode cX9_nutsOf 33 = .ok (.invokestatic 72, 3) := by decide +kernel
theorem dX9_nutsOf_36 : decode cX9_nutsOf 36 = .ok (.ifCond .ne 9, 3) := by decide +kernel
theorem dX9_nutsOf_39 : decode cX9_nutsOf 39 = .ok (.iconst 1, 1) := by decide +kernel
theorem dX9_nutsOf_40 : decode cX9_nutsOf 40 = .ok (.iload_n 3, 1) := by decide +kernel
theorem dX9_nutsOf_41 : decode cX9_nutsOf 41 = .ok (.ishl, 1) := by decide +kernel
theorem dX9_nutsOf_42 : decode cX9_nutsOf 42 = .ok (.goto 4, 3) := by decide +kernel
theorem dX9_nutsOf_45 : decode cX9_nutsOf 45 = .ok (.iconst 0, 1) := by decide +kernel
theorem dX9_nutsOf_46 : decode cX9_nutsOf 46 = .ok (.ior, 1) := by decide +kernel
theorem dX9_nutsOf_47 : decode cX9_nutsOf 47 = .ok (.istore_n 2, 1) := by decide +kernel
theorem dX9_nutsOf_48 : decode cX9_nutsOf 48 = .ok (.iinc 3 1, 3) := by decide +kernel
theorem dX9_nutsOf_51 : decode cX9_nutsOf 51 = .ok (.goto (-47), 3) := by decide +kernel
theorem dX9_nutsOf_54 : decode cX9_nutsOf 54 = .ok (.iload_n 2, 1) := by decide +kernel
theorem dX9_nutsOf_55 : decode cX9_nutsOf 55 = .ok (.ireturn, 1) := by decide +kernel
theorem dX9_scoresOf_0 : decode cX9_scoresOf 0 = .ok (.iconst 0, 1) := by decide +kernel
theorem dX9_scoresOf_1 : decode cX9_scoresOf 1 = .ok (.istore_n 2, 1) := by decide +kernel
theorem dX9_scoresOf_2 : decode cX9_scoresOf 2 = .ok (.iconst 0, 1) := by decide +kernel
theorem dX9_scoresOf_3 : decode cX9_scoresOf 3 = .ok (.istore_n 3, 1) := by decide +kernel
theorem dX9_scoresOf_4 : decode cX9_scoresOf 4 = .ok (.iload_n 3, 1) := by decide +kernel
theorem dX9_scoresOf_5 : decode cX9_scoresOf 5 = .ok (.aload_n 0, 1) := by decide +kernel
theorem dX9_scoresOf_6 : decode cX9_scoresOf 6 = .ok (.getfield 17, 3) := by decide +kernel
theorem dX9_scoresOf_9 : decode cX9_scoresOf 9 = .ok (.iconst 2, 1) := by decide +kernel
theorem dX9_scoresOf_10 : decode cX9_scoresOf 10 = .ok (.iaload, 1) := by decide +kernel
theorem dX9_scoresOf_11 : decode cX9_scoresOf 11 = .ok (.if_icmp .ge 33, 3) := by decide +kernel
theorem dX9_scoresOf_14 : decode cX9_scoresOf 14 = .ok (.iload_n 2, 1) := by decide +kernel
theorem dX9_scoresOf_15 : decode cX9_scoresOf 15 = .ok (.iload_n 1, 1) := by decide +kernel
theorem dX9_scoresOf_16 : decode cX9_scoresOf 16 = .ok (.iload_n 3, 1) := by decide +kernel
theorem dX9_scoresOf_17 : decode cX9_scoresOf 17 = .ok (.invokestatic 210, 3) := by decide +kernel
theorem dX9_scoresOf_20 : decode cX9_scoresOf 20 = .ok (.ifCond .eq 15, 3) := by decide +kernel
theorem dX9_scoresOf_23 : decode cX9_scoresOf 23 = .ok (.aload_n 0, 1) := by decide +kernel
theorem dX9_scoresOf_24 : decode cX9_scoresOf 24 = .ok (.getfield 17, 3) := by decide +kernel
theorem dX9_scoresOf_27 : decode cX9_scoresOf 27 = .ok (.bipush 39, 2) := by decide +kernel
theorem dX9_scoresOf_29 : decode cX9_scoresOf 29 = .ok (.iload_n 3, 1) := by decide +kernel
theorem dX9_scoresOf_30 : decode cX9_scoresOf 30 = .ok (.iadd, 1) := by decide +kernel
theorem dX9_scoresOf_31 : decode cX9_scoresOf 31 = .ok (.iaload, 1) := by decide +kernel
theorem dX9_scoresOf_32 : decode cX9_scoresOf 32 = .ok (.goto 4, 3) := by decide +kernel
theorem dX9_scoresOf_35 : decode cX9_scoresOf 35 = .ok (.iconst 0, 1) := by decide +kernel
theorem dX9_scoresOf_36 : decode cX9_scoresOf 36 = .ok (.iadd, 1) := by decide +kernel
theorem dX9_scoresOf_37 : decode cX9_scoresOf 37 = .ok (.istore_n 2, 1) := by decide +kernel
theorem dX9_scoresOf_38 : decode cX9_scoresOf 38 = .ok (.iinc 3 1, 3) := by decide +kernel
theorem dX9_scoresOf_41 : decode cX9_scoresOf 41 = .ok (.goto (-37), 3) := by decide +kernel
theorem dX9_scoresOf_44 : decode cX9_scoresOf 44 = .ok (.iload_n 2, 1) := by decide +kernel
theorem dX9_scoresOf_45 : decode cX9_scoresOf 45 = .ok (.ireturn, 1) := by decide +kernel
theorem dX9_who_0 : decode cX9_who 0 = .ok (.iload_n 1, 1) := by decide +kernel
theorem dX9_who_1 : decode cX9_who 1 = .ok (.iconst 0, 1) := by decide +kernel
theorem dX9_who_2 : decode cX9_who 2 = .ok (.aload_n 0, 1) := by decide +kernel
theorem dX9_who_3 : decode cX9_who 3 = .ok (.getfield 17, 3) := by decide +kernel
theorem dX9_who_6 : decode cX9_who 6 = .ok (.iconst 1, 1) := by decide +kernel
theorem dX9_who_7 : decode cX9_who 7 = .ok (.iaload, 1) := by decide +kernel
theorem dX9_who_8 : decode cX9_who 8 = .ok (.iconst 1, 1) := by decide +kernel
theorem dX9_who_9 : decode cX9_who 9 = .ok (.isub, 1) := by decide +kernel
theorem dX9_who_10 : decode cX9_who 10 = .ok (.invokestatic 57, 3) := by decide +kernel
theorem dX9_who_13 : decode cX9_who 13 = .ok (.ifCond .eq 12, 3) := by decide +kernel
theorem dX9_who_16 : decode cX9_who 16 = .ok (.iload_n 2, 1) := by decide +kernel
theorem dX9_who_17 : decode cX9_who 17 = .ok (.iconst 0, 1) := by decide +kernel
theorem dX9_who_18 : decode cX9_who 18 = .ok (.iconst 3, 1) := by decide +kernel
theorem dX9_who_19 : decode cX9_who 19 = .ok (.invokestatic 57, 3) := by decide +kernel
theorem dX9_who_22 : decode cX9_who 22 = .ok (.ifCond .ne 10, 3) := by decide +kernel
theorem dX9_who_25 : decode cX9_who 25 = .ok (.aload_n 0, 1) := by decide +kernel
theorem dX9_who_26 : decode cX9_who 26 = .ok (.bipush (-2), 2) := by decide +kernel
theorem dX9_who_28 : decode cX9_who 28 = .ok (.invokevirtual 61, 3) := by decide +kernel
theorem dX9_who_31 : decode cX9_who 31 = .ok (.ireturn, 1) := by decide +kernel
theorem dX9_who_32 : decode cX9_who 32 = .ok (.iload_n 2, 1) := by decide +kernel
theorem dX9_who_33 : decode cX9_who 33 = .ok (.ifCond .ne 14, 3) := by decide +kernel
theorem dX9_who_36 : decode cX9_who 36 = .ok (.aload_n 0, 1) := by decide +kernel
theorem dX9_who_37 : decode cX9_who 37 = .ok (.getfield 17, 3) := by decide +kernel
theorem dX9_who_40 : decode cX9_who 40 = .ok (.iconst 3, 1) := by decide +kernel
theorem dX9_who_41 : decode cX9_who 41 = .ok (.iload_n 1, 1) := by decide +kernel
theorem dX9_who_42 : decode cX9_who 42 = .ok (.iadd, 1) := by decide +kernel
theorem dX9_who_43 : decode cX9_who 43 = .ok (.iaload, 1) := by decide +kernel
theorem dX9_who_44 : decode cX9_who 44 = .ok (.goto 42, 3) := by decide +kernel
theorem dX9_who_47 : decode cX9_who 47 = .ok (.iload_n 2, 1) := by decide +kernel
theorem dX9_who_48 : decode cX9_who 48 = .ok (.iconst 1, 1) := by decide +kernel
theorem dX9_who_49 : decode cX9_who 49 = .ok (.if_icmp .ne 15, 3) := by decide +kernel
theorem dX9_who_52 : decode cX9_who 52 = .ok (.aload_n 0, 1) := by decide +kernel
theorem dX9_who_53 : decode cX9_who 53 = .ok (.getfield 17, 3) := by decide +kernel
theorem dX9_who_56 : decode cX9_who 56 = .ok (.bipush 6, 2) := by decide +kernel
theorem dX9_who_58 : decode cX9_who 58 = .ok (.iload_n 1, 1) := by decide +kernel
theorem dX9_who_59 : decode cX9_who 59 = .ok (.iadd, 1) := by decide +kernel
theorem dX9_who_60 : decode cX9_who 60 = .ok (.iaload, 1) := by decide +kernel
theorem dX9_who_61 : decode cX9_who 61 = .ok (.goto 25, 3) := by decide +kernel
theorem dX9_who_64 : decode cX9_who 64 = .ok (.iload_n 2, 1) := by decide +kernel
theorem dX9_who_65 : decode cX9_who 65 = .ok (.iconst 2, 1) := by decide +kernel
theorem dX9_who_66 : decode cX9_who 66 = .ok (.if_icmp .ne 11, 3) := by decide +kernel
theorem dX9_who_69 : decode cX9_who 69 = .ok (.aload_n 0, 1) := by decide +kernel
theorem dX9_who_70 : decode cX9_who 70 = .ok (.iload_n 1, 1) := by decide +kernel
theorem dX9_who_71 : decode cX9_who 71 = .ok (.invokevirtual 213, 3) := by decide +kernel
theorem dX9_who_74 : decode cX9_who 74 = .ok (.goto 12, 3) := by decide +kernel
theorem dX9_who_77 : decode cX9_who 77 = .ok (.aload_n 0, 1) := by decide +kernel
theorem dX9_who_78 : decode cX9_who 78 = .ok (.aload_n 0, 1) := by decide +kernel
theorem dX9_who_79 : decode cX9_who 79 = .ok (.iload_n 1, 1) := by decide +kernel
theorem dX9_who_80 : decode cX9_who 80 = .ok (.invokevirtual 213, 3) := by decide +kernel
theorem dX9_who_83 : decode cX9_who 83 = .ok (.invokevirtual 216, 3) := by decide +kernel
theorem dX9_who_86 : decode cX9_who 86 = .ok (.ireturn, 1) := by decide +kernel
theorem dX9_crack_0 : decode cX9_crack 0 = .ok (.aload_n 0, 1) := by decide +kernel
theorem dX9_crack_1 : decode cX9_crack 1 = .ok (.iload_n 1, 1) := by decide +kernel
theorem dX9_crack_2 : decode cX9_crack 2 = .ok (.iload_n 2, 1) := by decide +kernel
theorem dX9_crack_3 : decode cX9_crack 3 = .ok (.invokevirtual 197, 3) := by decide +kernel
theorem dX9_crack_6 : decode cX9_crack 6 = .ok (.ifCond .eq 12, 3) := by decide +kernel
theorem dX9_crack_9 : decode cX9_crack 9 = .ok (.iload_n 3, 1) := by decide +kernel
theorem dX9_crack_10 : decode cX9_crack 10 = .ok (.iconst 0, 1) := by decide +kernel
theorem dX9_crack_11 : decode cX9_crack 11 = .ok (.iconst 1, 1) := by decide +kernel
theorem dX9_crack_12 : decode cX9_crack 12 = .ok (.invokestatic 57, 3) := by decide +kernel
theorem dX9_crack_15 : decode cX9_crack 15 = .ok (.ifCond .ne 10, 3) := by decide +kernel
theorem dX9_crack_18 : decode cX9_crack 18 = .ok (.aload_n 0, 1) := by decide +kernel
theorem dX9_crack_19 : decode cX9_crack 19 = .ok (.bipush (-2), 2) := by decide +kernel
theorem dX9_crack_21 : decode cX9_crack 21 = .ok (.invokevirtual 61, 3) := by decide +kernel
theorem dX9_crack_24 : decode cX9_crack 24 = .ok (.ireturn, 1) := by decide +kernel
theorem dX9_crack_25 : decode cX9_crack 25 = .ok (.aload_n 0, 1) := by decide +kernel
theorem dX9_crack_26 : decode cX9_crack 26 = .ok (.getfield 17, 3) := by decide +kernel
theorem dX9_crack_29 : decode cX9_crack 29 = .ok (.iload_n 1, 1) := by decide +kernel
theorem dX9_crack_30 : decode cX9_crack 30 = .ok (.iload_n 2, 1) := by decide +kernel
theorem dX9_crack_31 : decode cX9_crack 31 = .ok (.invokestatic 99, 3) := by decide +kernel
theorem dX9_crack_34 : decode cX9_crack 34 = .ok (.ifCond .ne 5, 3) := by decide +kernel
theorem dX9_crack_37 : decode cX9_crack 37 = .ok (.iconst (-1), 1) := by decide +kernel
theorem dX9_crack_38 : decode cX9_crack 38 = .ok (.ireturn, 1) := by decide +kernel
theorem dX9_crack_39 : decode cX9_crack 39 = .ok (.aload_n 0, 1) := by decide +kernel
theorem dX9_crack_40 : decode cX9_crack 40 = .ok (.getfield 17, 3) := by decide +kernel
theorem dX9_crack_43 : decode cX9_crack 43 = .ok (.aload_n 0, 1) := by decide +kernel
theorem dX9_crack_44 : decode cX9_crack 44 = .ok (.getfield 20, 3) := by decide +kernel
theorem dX9_crack_47 : decode cX9_crack 47 = .ok (.invokestatic 190, 3) := by decide +kernel
theorem dX9_crack_50 : decode cX9_crack 50 = .ok (.aload_n 0, 1) := by decide +kernel
theorem dX9_crack_51 : decode cX9_crack 51 = .ok (.getfield 20, 3) := by decide +kernel
theorem dX9_crack_54 : decode cX9_crack 54 = .ok (.iload_n 1, 1) := by decide +kernel
theorem dX9_crack_55 : decode cX9_crack 55 = .ok (.iload_n 2, 1) := by decide +kernel
theorem dX9_crack_56 : decode cX9_crack 56 = .ok (.invokestatic 158, 3) := by decide +kernel
theorem dX9_crack_59 : decode cX9_crack 59 = .ok (.aload_n 0, 1) := by decide +kernel
theorem dX9_crack_60 : decode cX9_crack 60 = .ok (.getfield 20, 3) := by decide +kernel
theorem dX9_crack_63 : decode cX9_crack 63 = .ok (.bipush 33, 2) := by decide +kernel
theorem dX9_crack_65 : decode cX9_crack 65 = .ok (.iload_n 3, 1) := by decide +kernel
theorem dX9_crack_66 : decode cX9_crack 66 = .ok (.ifCond .ne 7, 3) := by decide +kernel
theorem dX9_crack_69 : decode cX9_crack 69 = .ok (.iload_n 2, 1) := by decide +kernel
theorem dX9_crack_70 : decode cX9_crack 70 = .ok (.goto 4, 3) := by decide +kernel
theorem dX9_crack_73 : decode cX9_crack 73 = .ok (.iload_n 1, 1) := by decide +kernel
theorem dX9_crack_74 : decode cX9_crack 74 = .ok (.iadd, 1) := by decide +kernel
theorem dX9_crack_75 : decode cX9_crack 75 = .ok (.iaload, 1) := by decide +kernel
theorem dX9_crack_76 : decode cX9_crack 76 = .ok (.ireturn, 1) := by decide +kernel
theorem dX9_bouts_0 : decode cX9_bouts 0 = .ok (.iconst 0, 1) := by decide +kernel
theorem dX9_bouts_1 : decode cX9_bouts 1 = .ok (.istore 4, 2) := by decide +kernel
theorem dX9_bouts_3 : decode cX9_bouts 3 = .ok (.iload 4, 2) := by decide +kernel
theorem dX9_bouts_5 : decode cX9_bouts 5 = .ok (.bipush 60, 2) := by decide +kernel
theorem dX9_bouts_7 : decode cX9_bouts 7 = .ok (.if_icmp .ge 61, 3) := by decide +kernel
theorem dX9_bouts_10 : decode cX9_bouts 10 = .ok (.aload_n 0, 1) := by decide +kernel
theorem dX9_bouts_11 : decode cX9_bouts 11 = .ok (.iload_n 1, 1) := by decide +kernel
theorem dX9_bouts_12 : decode cX9_bouts 12 = .ok (.iload_n 2, 1) := by decide +kernel
theorem dX9_bouts_13 : decode cX9_bouts 13 = .ok (.invokestatic 99, 3) := by decide +kernel
theorem dX9_bouts_16 : decode cX9_bouts 16 = .ok (.ifCond .eq 52, 3) := by decide +kernel
theorem dX9_bouts_19 : decode cX9_bouts 19 = .ok (.iload_n 3, 1) := by decide +kernel
theorem dX9_bouts_20 : decode cX9_bouts 20 = .ok (.ifCond .eq 15, 3) := by decide +kernel
theorem dX9_bouts_23 : decode cX9_bouts 23 = .ok (.iload 4, 2) := by decide +kernel
theorem dX9_bouts_25 : decode cX9_bouts 25 = .ok (.iconst 2, 1) := by decide +kernel
theorem dX9_bouts_26 : decode cX9_bouts 26 = .ok (.irem, 1) := by decide +kernel
theorem dX9_bouts_27 : decode cX9_bouts 27 = .ok (.iconst 1, 1) := by decide +kernel
theorem dX9_bouts_28 : decode cX9_bouts 28 = .ok (.if_icmp .ne 7, 3) := by decide +kernel
theorem dX9_bouts_31 : decode cX9_bouts 31 = .ok (.iconst 1, 1) := by decide +kernel
theorem dX9_bouts_32 : decode cX9_bouts 32 = .ok (.goto 4, 3) := by decide +kernel
theorem dX9_bouts_35 : decode cX9_bouts 35 = .ok (.iconst 0, 1) := by decide +kernel
theorem dX9_bouts_36 : decode cX9_bouts 36 = .ok (.istore 5, 2) := by decide +kernel
theorem dX9_bouts_38 : decode cX9_bouts 38 = .ok (.aload_n 0, 1) := by decide +kernel
theorem dX9_bouts_39 : decode cX9_bouts 39 = .ok (.iload 5, 2) := by decide +kernel
theorem dX9_bouts_41 : decode cX9_bouts 41 = .ok (.ifCond .eq 7, 3) := by decide +kernel
theorem dX9_bouts_44 : decode cX9_bouts 44 = .ok (.iload_n 2, 1) := by decide +kernel
theorem dX9_bouts_45 : decode cX9_bouts 45 = .ok (.goto 4, 3) := by decide +kernel
theorem dX9_bouts_48 : decode cX9_bouts 48 = .ok (.iload_n 1, 1) := by decide +kernel
theorem dX9_bouts_49 : decode cX9_bouts 49 = .ok (.iload 5, 2) := by decide +kernel
theorem dX9_bouts_51 : decode cX9_bouts 51 = .ok (.ifCond .eq 7, 3) := by decide +kernel
theorem dX9_bouts_54 : decode cX9_bouts 54 = .ok (.iload_n 1, 1) := by decide +kernel
theorem dX9_bouts_55 : decode cX9_bouts 55 = .ok (.goto 4, 3) := by decide +kernel
theorem dX9_bouts_58 : decode cX9_bouts 58 = .ok (.iload_n 2, 1) := by decide +kernel
theorem dX9_bouts_59 : decode cX9_bouts 59 = .ok (.invokestatic 158, 3) := by decide +kernel
theorem dX9_bouts_62 : decode cX9_bouts 62 = .ok (.iinc 4 1, 3) := by decide +kernel
theorem dX9_bouts_65 : decode cX9_bouts 65 = .ok (.goto (-62), 3) := by decide +kernel
theorem dX9_bouts_68 : decode cX9_bouts 68 = .ok (.aload_n 0, 1) := by decide +kernel
theorem dX9_bouts_69 : decode cX9_bouts 69 = .ok (.iload_n 1, 1) := by decide +kernel
theorem dX9_bouts_70 : decode cX9_bouts 70 = .ok (.invokestatic 72, 3) := by decide +kernel
theorem dX9_bouts_73 : decode cX9_bouts 73 = .ok (.ifCond .ne 11, 3) := by decide +kernel
theorem dX9_bouts_76 : decode cX9_bouts 76 = .ok (.aload_n 0, 1) := by decide +kernel
theorem dX9_bouts_77 : decode cX9_bouts 77 = .ok (.iload_n 2, 1) := by decide +kernel
theorem dX9_bouts_78 : decode cX9_bouts 78 = .ok (.invokestatic 72, 3) := by decide +kernel
theorem dX9_bouts_81 : decode cX9_bouts 81 = .ok (.ifCond .eq 8, 3) := by decide +kernel
theorem dX9_bouts_84 : decode cX9_bouts 84 = .ok (.iload 4, 2) := by decide +kernel
theorem dX9_bouts_86 : decode cX9_bouts 86 = .ok (.goto 4, 3) := by decide +kernel
theorem dX9_bouts_89 : decode cX9_bouts 89 = .ok (.iconst (-1), 1) := by decide +kernel
theorem dX9_bouts_90 : decode cX9_bouts 90 = .ok (.ireturn, 1) := by decide +kernel
theorem dX9_leftOf_0 : decode cX9_leftOf 0 = .ok (.aload_n 0, 1) := by decide +kernel
theorem dX9_leftOf_1 : decode cX9_leftOf 1 = .ok (.iload_n 1, 1) := by decide +kernel
theorem dX9_leftOf_2 : decode cX9_leftOf 2 = .ok (.invokestatic 72, 3) := by decide +kernel
theorem dX9_leftOf_5 : decode cX9_leftOf 5 = .ok (.aload_n 0, 1) := by decide +kernel
theorem dX9_leftOf_6 : decode cX9_leftOf 6 = .ok (.iload_n 2, 1) := by decide +kernel
theorem dX9_leftOf_7 : decode cX9_leftOf 7 = .ok (.invokestatic 72, 3) := by decide +kernel
theorem dX9_leftOf_10 : decode cX9_leftOf 10 = .ok (.if_icmp .ne 7, 3) := by decide +kernel
theorem dX9_leftOf_13 : decode cX9_leftOf 13 = .ok (.iconst (-1), 1) := by decide +kernel
theorem dX9_leftOf_14 : decode cX9_leftOf 14 = .ok (.goto 16, 3) := by decide +kernel
theorem dX9_leftOf_17 : decode cX9_leftOf 17 = .ok (.aload_n 0, 1) := by decide +kernel
theorem dX9_leftOf_18 : decode cX9_leftOf 18 = .ok (.iload_n 1, 1) := by decide +kernel
theorem dX9_leftOf_19 : decode cX9_leftOf 19 = .ok (.invokestatic 72, 3) := by decide +kernel
theorem dX9_leftOf_22 : decode cX9_leftOf 22 = .ok (.ifCond .eq 7, 3) := by decide +kernel
theorem dX9_leftOf_25 : decode cX9_leftOf 25 = .ok (.iload_n 2, 1) := by decide +kernel
theorem dX9_leftOf_26 : decode cX9_leftOf 26 = .ok (.goto 4, 3) := by decide +kernel
theorem dX9_leftOf_29 : decode cX9_leftOf 29 = .ok (.iload_n 1, 1) := by decide +kernel
theorem dX9_leftOf_30 : decode cX9_leftOf 30 = .ok (.ireturn, 1) := by decide +kernel
theorem dX9_ended_0 : decode cX9_ended 0 = .ok (.aload_n 0, 1) := by decide +kernel
theorem dX9_ended_1 : decode cX9_ended 1 = .ok (.getfield 17, 3) := by decide +kernel
theorem dX9_ended_4 : decode cX9_ended 4 = .ok (.iload_n 1, 1) := by decide +kernel
theorem dX9_ended_5 : decode cX9_ended 5 = .ok (.iload_n 2, 1) := by decide +kernel
theorem dX9_ended_6 : decode cX9_ended 6 = .ok (.invokestatic 99, 3) := by decide +kernel
theorem dX9_ended_9 : decode cX9_ended 9 = .ok (.ifCond .ne 5, 3) := by decide +kernel
theorem dX9_ended_12 : decode cX9_ended 12 = .ok (.iconst (-1), 1) := by decide +kernel
theorem dX9_ended_13 : decode cX9_ended 13 = .ok (.ireturn, 1) := by decide +kernel
theorem dX9_ended_14 : decode cX9_ended 14 = .ok (.aload_n 0, 1) := by decide +kernel
theorem dX9_ended_15 : decode cX9_ended 15 = .ok (.getfield 17, 3) := by decide +kernel
theorem dX9_ended_18 : decode cX9_ended 18 = .ok (.aload_n 0, 1) := by decide +kernel

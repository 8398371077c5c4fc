theorem dX0_force_0 : decode cX0_force 0 = .ok (.iload_n 1, 1) := by decide +kernel
theorem dX0_force_1 : decode cX0_force 1 = .ok (.iload_n 2, 1) := by decide +kernel
theorem dX0_force_2 : decode cX0_force 2 = .ok (.iadd, 1) := by decide +kernel
theorem dX0_force_3 : decode cX0_force 3 = .ok (.istore 4, 2) := by decide +kernel
theorem dX0_force_5 : decode cX0_force 5 = .ok (.iload 4, 2) := by decide +kernel
theorem dX0_force_7 : decode cX0_force 7 = .ok (.iconst 3, 1) := by decide +kernel
theorem dX0_force_8 : decode cX0_force 8 = .ok (.iadd, 1) := by decide +kernel
theorem dX0_force_9 : decode cX0_force 9 = .ok (.istore 5, 2) := by decide +kernel
theorem dX0_force_11 : decode cX0_force 11 = .ok (.iload_n 3, 1) := by decide +kernel
theorem dX0_force_12 : decode cX0_force 12 = .ok (.iconst 3, 1) := by decide +kernel
theorem dX0_force_13 : decode cX0_force 13 = .ok (.irem, 1) := by decide +kernel
theorem dX0_force_14 : decode cX0_force 14 = .ok (.iconst 2, 1) := by decide +kernel
theorem dX0_force_15 : decode cX0_force 15 = .ok (.if_icmp .ne 10, 3) := by decide +kernel
theorem dX0_force_18 : decode cX0_force 18 = .ok (.iload 4, 2) := by decide +kernel
theorem dX0_force_20 : decode cX0_force 20 = .ok (.iconst 4, 1) := by decide +kernel
theorem dX0_force_21 : decode cX0_force 21 = .ok (.iadd, 1) := by decide +kernel
theorem dX0_force_22 : decode cX0_force 22 = .ok (.goto 5, 3) := by decide +kernel
theorem dX0_force_25 : decode cX0_force 25 = .ok (.iload 4, 2) := by decide +kernel
theorem dX0_force_27 : decode cX0_force 27 = .ok (.istore 6, 2) := by decide +kernel
theorem dX0_force_29 : decode cX0_force 29 = .ok (.iload_n 0, 1) := by decide +kernel
theorem dX0_force_30 : decode cX0_force 30 = .ok (.tableswitch 75 1 5 #[34, 37, 40, 51, 58], 34) := by decide +kernel
theorem dX0_force_64 : decode cX0_force 64 = .ok (.iload 5, 2) := by decide +kernel
theorem dX0_force_66 : decode cX0_force 66 = .ok (.ireturn, 1) := by decide +kernel
theorem dX0_force_67 : decode cX0_force 67 = .ok (.iload 6, 2) := by decide +kernel
theorem dX0_force_69 : decode cX0_force 69 = .ok (.ireturn, 1) := by decide +kernel
theorem dX0_force_70 : decode cX0_force 70 = .ok (.iconst 1, 1) := by decide +kernel
theorem dX0_force_71 : decode cX0_force 71 = .ok (.iload 5, 2) := by decide +kernel
theorem dX0_force_73 : decode cX0_force 73 = .ok (.iload_n 3, 1) := by decide +kernel
theorem dX0_force_74 : decode cX0_force 74 = .ok (.iconst 5, 1) := by decide +kernel
theorem dX0_force_75 : decode cX0_force 75 = .ok (.idiv, 1) := by decide +kernel
theorem dX0_force_76 : decode cX0_force 76 = .ok (.isub, 1) := by decide +kernel
theorem dX0_force_77 : decode cX0_force 77 = .ok (.invokestatic 7, 3) := by decide +kernel
theorem dX0_force_80 : decode cX0_force 80 = .ok (.ireturn, 1) := by decide +kernel
theorem dX0_force_81 : decode cX0_force 81 = .ok (.iload 4, 2) := by decide +kernel
theorem dX0_force_83 : decode cX0_force 83 = .ok (.iconst 1, 1) := by decide +kernel
theorem dX0_force_84 : decode cX0_force 84 = .ok (.iadd, 1) := by decide +kernel
theorem dX0_force_85 : decode cX0_force 85 = .ok (.iconst 2, 1) := by decide +kernel
theorem dX0_force_86 : decode cX0_force 86 = .ok (.idiv, 1) := by decide +kernel
theorem dX0_force_87 : decode cX0_force 87 = .ok (.ireturn, 1) := by decide +kernel
theorem dX0_force_88 : decode cX0_force 88 = .ok (.iload_n 3, 1) := by decide +kernel
theorem dX0_force_89 : decode cX0_force 89 = .ok (.bipush 7, 2) := by decide +kernel
theorem dX0_force_91 : decode cX0_force 91 = .ok (.irem, 1) := by decide +kernel
theorem dX0_force_92 : decode cX0_force 92 = .ok (.ifCond .ne 10, 3) := by decide +kernel
theorem dX0_force_95 : decode cX0_force 95 = .ok (.iconst 2, 1) := by decide +kernel
theorem dX0_force_96 : decode cX0_force 96 = .ok (.iload 6, 2) := by decide +kernel
theorem dX0_force_98 : decode cX0_force 98 = .ok (.imul, 1) := by decide +kernel
theorem dX0_force_99 : decode cX0_force 99 = .ok (.goto 5, 3) := by decide +kernel
theorem dX0_force_102 : decode cX0_force 102 = .ok (.iload 6, 2) := by decide +kernel
theorem dX0_force_104 : decode cX0_force 104 = .ok (.ireturn, 1) := by decide +kernel
theorem dX0_force_105 : decode cX0_force 105 = .ok (.iload 4, 2) := by decide +kernel
theorem dX0_force_107 : decode cX0_force 107 = .ok (.ireturn, 1) := by decide +kernel
theorem dX0_cracks_0 : decode cX0_cracks 0 = .ok (.iconst 0, 1) := by decide +kernel
theorem dX0_cracks_1 : decode cX0_cracks 1 = .ok (.iload_n 3, 1) := by decide +kernel
theorem dX0_cracks_2 : decode cX0_cracks 2 = .ok (.iload_n 1, 1) := by decide +kernel
theorem dX0_cracks_3 : decode cX0_cracks 3 = .ok (.isub, 1) := by decide +kernel
theorem dX0_cracks_4 : decode cX0_cracks 4 = .ok (.invokestatic 7, 3) := by decide +kernel
theorem dX0_cracks_7 : decode cX0_cracks 7 = .ok (.istore 5, 2) := by decide +kernel
theorem dX0_cracks_9 : decode cX0_cracks 9 = .ok (.iload 5, 2) := by decide +kernel
theorem dX0_cracks_11 : decode cX0_cracks 11 = .ok (.iconst 2, 1) := by decide +kernel
theorem dX0_cracks_12 : decode cX0_cracks 12 = .ok (.idiv, 1) := by decide +kernel
theorem dX0_cracks_13 : decode cX0_cracks 13 = .ok (.istore 6, 2) := by decide +kernel
theorem dX0_cracks_15 : decode cX0_cracks 15 = .ok (.iload_n 3, 1) := by decide +kernel
theorem dX0_cracks_16 : decode cX0_cracks 16 = .ok (.iload_n 1, 1) := by decide +kernel
theorem dX0_cracks_17 : decode cX0_cracks 17 = .ok (.if_icmp .le 10, 3) := by decide +kernel
theorem dX0_cracks_20 : decode cX0_cracks 20 = .ok (.iload 5, 2) := by decide +kernel
theorem dX0_cracks_22 : decode cX0_cracks 22 = .ok (.iconst 2, 1) := by decide +kernel
theorem dX0_cracks_23 : decode cX0_cracks 23 = .ok (.iadd, 1) := by decide +kernel
theorem dX0_cracks_24 : decode cX0_cracks 24 = .ok (.goto 5, 3) := by decide +kernel
theorem dX0_cracks_27 : decode cX0_cracks 27 = .ok (.iload 5, 2) := by decide +kernel
theorem dX0_cracks_29 : decode cX0_cracks 29 = .ok (.istore 7, 2) := by decide +kernel
theorem dX0_cracks_31 : decode cX0_cracks 31 = .ok (.iload_n 0, 1) := by decide +kernel
theorem dX0_cracks_32 : decode cX0_cracks 32 = .ok (.tableswitch 85 1 5 #[36, 39, 42, 49, 63], 36) := by decide +kernel
theorem dX0_cracks_68 : decode cX0_cracks 68 = .ok (.iload 6, 2) := by decide +kernel
theorem dX0_cracks_70 : decode cX0_cracks 70 = .ok (.ireturn, 1) := by decide +kernel
theorem dX0_cracks_71 : decode cX0_cracks 71 = .ok (.iload 7, 2) := by decide +kernel
theorem dX0_cracks_73 : decode cX0_cracks 73 = .ok (.ireturn, 1) := by decide +kernel
theorem dX0_cracks_74 : decode cX0_cracks 74 = .ok (.iconst 2, 1) := by decide +kernel
theorem dX0_cracks_75 : decode cX0_cracks 75 = .ok (.iload 6, 2) := by decide +kernel
theorem dX0_cracks_77 : decode cX0_cracks 77 = .ok (.invokestatic 13, 3) := by decide +kernel
theorem dX0_cracks_80 : decode cX0_cracks 80 = .ok (.ireturn, 1) := by decide +kernel
theorem dX0_cracks_81 : decode cX0_cracks 81 = .ok (.iload 7, 2) := by decide +kernel
theorem dX0_cracks_83 : decode cX0_cracks 83 = .ok (.ifCond .ne 7, 3) := by decide +kernel
theorem dX0_cracks_86 : decode cX0_cracks 86 = .ok (.iconst 0, 1) := by decide +kernel
theorem dX0_cracks_87 : decode cX0_cracks 87 = .ok (.goto 7, 3) := by decide +kernel
theorem dX0_cracks_90 : decode cX0_cracks 90 = .ok (.iload 7, 2) := by decide +kernel
theorem dX0_cracks_92 : decode cX0_cracks 92 = .ok (.iload_n 2, 1) := by decide +kernel
theorem dX0_cracks_93 : decode cX0_cracks 93 = .ok (.iadd, 1) := by decide +kernel
theorem dX0_cracks_94 : decode cX0_cracks 94 = .ok (.ireturn, 1) := by decide +kernel
theorem dX0_cracks_95 : decode cX0_cracks 95 = .ok (.iload 4, 2) := by decide +kernel
theorem dX0_cracks_97 : decode cX0_cracks 97 = .ok (.iconst 2, 1) := by decide +kernel
theorem dX0_cracks_98 : decode cX0_cracks 98 = .ok (.irem, 1) := by decide +kernel
theorem dX0_cracks_99 : decode cX0_cracks 99 = .ok (.iconst 1, 1) := by decide +kernel
theorem dX0_cracks_100 : decode cX0_cracks 100 = .ok (.if_icmp .ne 14, 3) := by decide +kernel
theorem dX0_cracks_103 : decode cX0_cracks 103 = .ok (.iconst 0, 1) := by decide +kernel
theorem dX0_cracks_104 : decode cX0_cracks 104 = .ok (.iload 5, 2) := by decide +kernel
theorem dX0_cracks_106 : decode cX0_cracks 106 = .ok (.iconst 1, 1) := by decide +kernel
theorem dX0_cracks_107 : decode cX0_cracks 107 = .ok (.isub, 1) := by decide +kernel
theorem dX0_cracks_108 : decode cX0_cracks 108 = .ok (.invokestatic 7, 3) := by decide +kernel
theorem dX0_cracks_111 : decode cX0_cracks 111 = .ok (.goto 5, 3) := by decide +kernel
theorem dX0_cracks_114 : decode cX0_cracks 114 = .ok (.iload 5, 2) := by decide +kernel
theorem dX0_cracks_116 : decode cX0_cracks 116 = .ok (.ireturn, 1) := by decide +kernel
theorem dX0_cracks_117 : decode cX0_cracks 117 = .ok (.iload 5, 2) := by decide +kernel
theorem dX0_cracks_119 : decode cX0_cracks 119 = .ok (.ireturn, 1) := by decide +kernel
theorem dX1_init_0 : decode cX1_init 0 = .ok (.aload_n 0, 1) := by decide +kernel
theorem dX1_init_1 : decode cX1_init 1 = .ok (.invokespecial 1, 3) := by decide +kernel
theorem dX1_init_4 : decode cX1_init 4 = .ok (.aload_n 0, 1) := by decide +kernel
theorem dX1_init_5 : decode cX1_init 5 = .ok (.new 7, 3) := by decide +kernel
theorem dX1_init_8 : decode cX1_init 8 = .ok (.dup, 1) := by decide +kernel
theorem dX1_init_9 : decode cX1_init 9 = .ok (.invokespecial 9, 3) := by decide +kernel
theorem dX1_init_12 : decode cX1_init 12 = .ok (.putfield 10, 3) := by decide +kernel
theorem dX1_init_15 : decode cX1_init 15 = .ok (.aload_n 0, 1) := by decide +kernel
theorem dX1_init_16 : decode cX1_init 16 = .ok (.new 16, 3) := by decide +kernel
theorem dX1_init_19 : decode cX1_init 19 = .ok (.dup, 1) := by decide +kernel
theorem dX1_init_20 : decode cX1_init 20 = .ok (.invokespecial 18, 3) := by decide +kernel
theorem dX1_init_23 : decode cX1_init 23 = .ok (.putfield 19, 3) := by decide +kernel
theorem dX1_init_26 : decode cX1_init 26 = .ok (.aload_n 0, 1) := by decide +kernel
theorem dX1_init_27 : decode cX1_init 27 = .ok (.new 23, 3) := by decide +kernel
theorem dX1_init_30 : decode cX1_init 30 = .ok (.dup, 1) := by decide +kernel
theorem dX1_init_31 : decode cX1_init 31 = .ok (.iconst 5, 1) := by decide +kernel
theorem dX1_init_32 : decode cX1_init 32 = .ok (.invokespecial 25, 3) := by decide +kernel
theorem dX1_init_35 : decode cX1_init 35 = .ok (.putfield 28, 3) := by decide +kernel
theorem dX1_init_38 : decode cX1_init 38 = .ok (.aload_n 0, 1) := by decide +kernel
theorem dX1_init_39 : decode cX1_init 39 = .ok (.new 23, 3) := by decide +kernel
theorem dX1_init_42 : decode cX1_init 42 = .ok (.dup, 1) := by decide +kernel
theorem dX1_init_43 : decode cX1_init 43 = .ok (.bipush 6, 2) := by decide +kernel
theorem dX1_init_45 : decode cX1_init 45 = .ok (.invokespecial 25, 3) := by decide +kernel
theorem dX1_init_48 : decode cX1_init 48 = .ok (.putfield 32, 3) := by decide +kernel
theorem dX1_init_51 : decode cX1_init 51 = .ok (.aload_n 0, 1) := by decide +kernel
theorem dX1_init_52 : decode cX1_init 52 = .ok (.new 23, 3) := by decide +kernel
theorem dX1_init_55 : decode cX1_init 55 = .ok (.dup, 1) := by decide +kernel
theorem dX1_init_56 : decode cX1_init 56 = .ok (.bipush 6, 2) := by decide +kernel
theorem dX1_init_58 : decode cX1_init 58 = .ok (.invokespecial 25, 3) := by decide +kernel
theorem dX1_init_61 : decode cX1_init 61 = .ok (.putfield 35, 3) := by decide +kernel
theorem dX1_init_64 : decode cX1_init 64 = .ok (.return_, 1) := by decide +kernel
theorem dX1_rowsOf_0 : decode cX1_rowsOf 0 = .ok (.iload_n 1, 1) := by decide +kernel
theorem dX1_rowsOf_1 : decode cX1_rowsOf 1 = .ok (.ifCond .ne 10, 3) := by decide +kernel
theorem dX1_rowsOf_4 : decode cX1_rowsOf 4 = .ok (.aload_n 0, 1) := by decide +kernel
theorem dX1_rowsOf_5 : decode cX1_rowsOf 5 = .ok (.getfield 28, 3) := by decide +kernel
theorem dX1_rowsOf_8 : decode cX1_rowsOf 8 = .ok (.goto 19, 3) := by decide +kernel
theorem dX1_rowsOf_11 : decode cX1_rowsOf 11 = .ok (.iload_n 1, 1) := by decide +kernel
theorem dX1_rowsOf_12 : decode cX1_rowsOf 12 = .ok (.iconst 1, 1) := by decide +kernel
theorem dX1_rowsOf_13 : decode cX1_rowsOf 13 = .ok (.if_icmp .ne 10, 3) := by decide +kernel
theorem dX1_rowsOf_16 : decode cX1_rowsOf 16 = .ok (.aload_n 0, 1) := by decide +kernel
theorem dX1_rowsOf_17 : decode cX1_rowsOf 17 = .ok (.getfield 32, 3) := by decide +kernel
theorem dX1_rowsOf_20 : decode cX1_rowsOf 20 = .ok (.goto 7, 3) := by decide +kernel
theorem dX1_rowsOf_23 : decode cX1_rowsOf 23 = .ok (.aload_n 0, 1) := by decide +kernel
theorem dX1_rowsOf_24 : decode cX1_rowsOf 24 = .ok (.getfield 35, 3) := by decide +kernel
theorem dX1_rowsOf_27 : decode cX1_rowsOf 27 = .ok (.areturn, 1) := by decide +kernel
theorem dX1_restart_0 : decode cX1_restart 0 = .ok (.aload_n 0, 1) := by decide +kernel
theorem dX1_restart_1 : decode cX1_restart 1 = .ok (.getfield 10, 3) := by decide +kernel
theorem dX1_restart_4 : decode cX1_restart 4 = .ok (.iload_n 1, 1) := by decide +kernel
theorem dX1_restart_5 : decode cX1_restart 5 = .ok (.invokevirtual 38, 3) := by decide +kernel
theorem dX1_restart_8 : decode cX1_restart 8 = .ok (.aload_n 0, 1) := by decide +kernel
theorem dX1_restart_9 : decode cX1_restart 9 = .ok (.getfield 19, 3) := by decide +kernel
theorem dX1_restart_12 : decode cX1_restart 12 = .ok (.invokevirtual 41, 3) := by decide +kernel
theorem dX1_restart_15 : decode cX1_restart 15 = .ok (.aload_n 0, 1) := by decide +kernel
theorem dX1_restart_16 : decode cX1_restart 16 = .ok (.getfield 28, 3) := by decide +kernel
theorem dX1_restart_19 : decode cX1_restart 19 = .ok (.iconst 0, 1) := by decide +kernel
theorem dX1_restart_20 : decode cX1_restart 20 = .ok (.putfield 44, 3) := by decide +kernel
theorem dX1_restart_23 : decode cX1_restart 23 = .ok (.aload_n 0, 1) := by decide +kernel
theorem dX1_restart_24 : decode cX1_restart 24 = .ok (.getfield 32, 3) := by decide +kernel
theorem dX1_restart_27 : decode cX1_restart 27 = .ok (.iconst 0, 1) := by decide +kernel
theorem dX1_restart_28 : decode cX1_restart 28 = .ok (.putfield 44, 3) := by decide +kernel
theorem dX1_restart_31 : decode cX1_restart 31 = .ok (.aload_n 0, 1) := by decide +kernel
theorem dX1_restart_32 : decode cX1_restart 32 = .ok (.getfield 35, 3) := by decide +kernel
theorem dX1_restart_35 : decode cX1_restart 35 = .ok (.iconst 0, 1) := by decide +kernel
theorem dX1_restart_36 : decode cX1_restart 36 = .ok (.putfield 44, 3) := by decide +kernel
theorem dX1_restart_39 : decode cX1_restart 39 = .ok (.return_, 1) := by decide +kernel
theorem dX1_copyOf_0 : decode cX1_copyOf 0 = .ok (.aload_n 0, 1) := by decide +kernel
theorem dX1_copyOf_1 : decode cX1_copyOf 1 = .ok (.getfield 10, 3) := by decide +kernel
theorem dX1_copyOf_4 : decode cX1_copyOf 4 = .ok (.aload_n 1, 1) := by decide +kernel
theorem dX1_copyOf_5 : decode cX1_copyOf 5 = .ok (.getfield 10, 3) := by decide +kernel
theorem dX1_copyOf_8 : decode cX1_copyOf 8 = .ok (.invokevirtual 48, 3) := by decide +kernel
theorem dX1_copyOf_11 : decode cX1_copyOf 11 = .ok (.aload_n 0, 1) := by decide +kernel
theorem dX1_copyOf_12 : decode cX1_copyOf 12 = .ok (.getfield 19, 3) := by decide +kernel
theorem dX1_copyOf_15 : decode cX1_copyOf 15 = .ok (.aload_n 1, 1) := by decide +kernel
theorem dX1_copyOf_16 : decode cX1_copyOf 16 = .ok (.getfield 19, 3) := by decide +kernel
theorem dX1_copyOf_19 : decode cX1_copyOf 19 = .ok (.invokevirtual 52, 3) := by decide +kernel
theorem dX1_copyOf_22 : decode cX1_copyOf 22 = .ok (.aload_n 0, 1) := by decide +kernel
theorem dX1_copyOf_23 : decode cX1_copyOf 23 = .ok (.getfield 28, 3) := by decide +kernel
theorem dX1_copyOf_26 : decode cX1_copyOf 26 = .ok (.aload_n 1, 1) := by decide +kernel
theorem dX1_copyOf_27 : decode cX1_copyOf 27 = .ok (.getfield 28, 3) := by decide +kernel
theorem dX1_copyOf_30 : decode cX1_copyOf 30 = .ok (.invokevirtual 55, 3) := by decide +kernel
theorem dX1_copyOf_33 : decode cX1_copyOf 33 = .ok (.aload_n 0, 1) := by decide +kernel
theorem dX1_copyOf_34 : decode cX1_copyOf 34 = .ok (.getfield 32, 3) := by decide +kernel
theorem dX1_copyOf_37 : decode cX1_copyOf 37 = .ok (.aload_n 1, 1) := by decide +kernel
theorem dX1_copyOf_38 : decode cX1_copyOf 38 = .ok (.getfield 32, 3) := by decide +kernel
theorem dX1_copyOf_41 : decode cX1_copyOf 41 = .ok (.invokevirtual 55, 3) := by decide +kernel
theorem dX1_copyOf_44 : decode cX1_copyOf 44 = .ok (.aload_n 0, 1) := by decide +kernel
theorem dX1_copyOf_45 : decode cX1_copyOf 45 = .ok (.getfield 35, 3) := by decide +kernel
theorem dX1_copyOf_48 : decode cX1_copyOf 48 = .ok (.aload_n 1, 1) := by decide +kernel
theorem dX1_copyOf_49 : decode cX1_copyOf 49 = .ok (.getfield 35, 3) := by decide +kernel
theorem dX1_copyOf_52 : decode cX1_copyOf 52 = .ok (.invokevirtual 55, 3) := by decide +kernel
theorem dX1_copyOf_55 : decode cX1_copyOf 55 = .ok (.return_, 1) := by decide +kernel
theorem dX2_init_0 : decode cX2_init 0 = .ok (.aload_n 0, 1) := by decide +kernel
theorem dX2_init_1 : decode cX2_init 1 = .ok (.invokespecial 3, 3) := by decide +kernel
theorem dX2_init_4 : decode cX2_init 4 = .ok (.aload_n 0, 1) := by decide +kernel
theorem dX2_init_5 : decode cX2_init 5 = .ok (.bipush 10, 2) := by decide +kernel
theorem dX2_init_7 : decode cX2_init 7 = .ok (.newarray .int, 2) := by decide +kernel
theorem dX2_init_9 : decode cX2_init 9 = .ok (.putfield 9, 3) := by decide +kernel
theorem dX2_init_12 : decode cX2_init 12 = .ok (.return_, 1) := by decide +kernel
theorem dX2_thatFit_0 : decode cX2_thatFit 0 = .ok (.iload_n 1, 1) := by decide +kernel
theorem dX2_thatFit_1 : decode cX2_thatFit 1 = .ok (.ifCond .ne 8, 3) := by decide +kernel
theorem dX2_thatFit_4 : decode cX2_thatFit 4 = .ok (.bipush 10, 2) := by decide +kernel
theorem dX2_thatFit_6 : decode cX2_thatFit 6 = .ok (.goto 5, 3) := by decide +kernel
theorem dX2_thatFit_9 : decode cX2_thatFit 9 = .ok (.bipush 6, 2) := by decide +kernel
theorem dX2_thatFit_11 : decode cX2_thatFit 11 = .ok (.istore 4, 2) := by decide +kernel
theorem dX2_thatFit_13 : decode cX2_thatFit 13 = .ok (.iconst 0, 1) := by decide +kernel
theorem dX2_thatFit_14 : decode cX2_thatFit 14 = .ok (.istore 5, 2) := by decide +kernel
theorem dX2_thatFit_16 : decode cX2_thatFit 16 = .ok (.iconst 0, 1) := by decide +kernel
theorem dX2_thatFit_17 : decode cX2_thatFit 17 = .ok (.istore 6, 2) := by decide +kernel
theorem dX2_thatFit_19 : decode cX2_thatFit 19 = .ok (.iload 6, 2) := by decide +kernel
theorem dX2_thatFit_21 : decode cX2_thatFit 21 = .ok (.iload 4, 2) := by decide +kernel
theorem dX2_thatFit_23 : decode cX2_thatFit 23 = .ok (.if_icmp .ge 29, 3) := by decide +kernel
theorem dX2_thatFit_26 : decode cX2_thatFit 26 = .ok (.iload_n 1, 1) := by decide +kernel
theorem dX2_thatFit_27 : decode cX2_thatFit 27 = .ok (.aload_n 2, 1) := by decide +kernel
theorem dX2_thatFit_28 : decode cX2_thatFit 28 = .ok (.iload_n 3, 1) := by decide +kernel
theorem dX2_thatFit_29 : decode cX2_thatFit 29 = .ok (.iload 6, 2) := by decide +kernel
theorem dX2_thatFit_31 : decode cX2_thatFit 31 = .ok (.invokestatic 15, 3) := by decide +kernel
theorem dX2_thatFit_34 : decode cX2_thatFit 34 = .ok (.ifCond .eq 12, 3) := by decide +kernel
theorem dX2_thatFit_37 : decode cX2_thatFit 37 = .ok (.iload 5, 2) := by decide +kernel
theorem dX2_thatFit_39 : decode cX2_thatFit 39 = .ok (.iconst 1, 1) := by decide +kernel
theorem dX2_thatFit_40 : decode cX2_thatFit 40 = .ok (.iload 6, 2) := by decide +kernel
theorem dX2_thatFit_42 : decode cX2_thatFit 42 = .ok (.ishl, 1) := by decide +kernel
theorem dX2_thatFit_43 : decode cX2_thatFit 43 = .ok (.ior, 1) := by decide +kernel
theorem dX2_thatFit_44 : decode cX2_thatFit 44 = .ok (.istore 5, 2) := by decide +kernel
theorem dX2_thatFit_46 : decode cX2_thatFit 46 = .ok (.iinc 6 1, 3) := by decide +kernel
theorem dX2_thatFit_49 : decode cX2_thatFit 49 = .ok (.goto (-30), 3) := by decide +kernel
theorem dX2_thatFit_52 : decode cX2_thatFit 52 = .ok (.iload 5, 2) := by decide +kernel
theorem dX2_thatFit_54 : decode cX2_thatFit 54 = .ok (.ireturn, 1) := by decide +kernel
theorem dX2_allFit_0 : decode cX2_allFit 0 = .ok (.aload_n 1, 1) := by decide +kernel
theorem dX2_allFit_1 : decode cX2_allFit 1 = .ok (.iload_n 0, 1) := by decide +kernel
theorem dX2_allFit_2 : decode cX2_allFit 2 = .ok (.invokevirtual 19, 3) := by decide +kernel
theorem dX2_allFit_5 : decode cX2_allFit 5 = .ok (.astore 4, 2) := by decide +kernel
theorem dX2_allFit_7 : decode cX2_allFit 7 = .ok (.iconst 0, 1) := by decide +kernel
theorem dX2_allFit_8 : decode cX2_allFit 8 = .ok (.istore 5, 2) := by decide +kernel
theorem dX2_allFit_10 : decode cX2_allFit 10 = .ok (.iload 5, 2) := by decide +kernel
theorem dX2_allFit_12 : decode cX2_allFit 12 = .ok (.aload 4, 2) := by decide +kernel
theorem dX2_allFit_14 : decode cX2_allFit 14 = .ok (.getfield 25, 3) := by decide +kernel
theorem dX2_allFit_17 : decode cX2_allFit 17 = .ok (.if_icmp .ge 39, 3) := by decide +kernel
theorem dX2_allFit_20 : decode cX2_allFit 20 = .ok (.aload 4, 2) := by decide +kernel
theorem dX2_allFit_22 : decode cX2_allFit 22 = .ok (.iload 5, 2) := by decide +kernel
theorem dX2_allFit_24 : decode cX2_allFit 24 = .ok (.iconst 0, 1) := by decide +kernel
theorem dX2_allFit_25 : decode cX2_allFit 25 = .ok (.invokevirtual 31, 3) := by decide +kernel
theorem dX2_allFit_28 : decode cX2_allFit 28 = .ok (.iload_n 2, 1) := by decide +kernel
theorem dX2_allFit_29 : decode cX2_allFit 29 = .ok (.if_icmp .ne 21, 3) := by decide +kernel
theorem dX2_allFit_32 : decode cX2_allFit 32 = .ok (.iload_n 0, 1) := by decide +kernel
theorem dX2_allFit_33 : decode cX2_allFit 33 = .ok (.aload_n 1, 1) := by decide +kernel
theorem dX2_allFit_34 : decode cX2_allFit 34 = .ok (.getfield 35, 3) := by decide +kernel
theorem dX2_allFit_37 : decode cX2_allFit 37 = .ok (.aload 4, 2) := by decide +kernel
theorem dX2_allFit_39 : decode cX2_allFit 39 = .ok (.iload 5, 2) := by decide +kernel
theorem dX2_allFit_41 : decode cX2_allFit 41 = .ok (.iload_n 3, 1) := by decide +kernel
theorem dX2_allFit_42 : decode cX2_allFit 42 = .ok (.invokestatic 39, 3) := by decide +kernel
theorem dX2_allFit_45 : decode cX2_allFit 45 = .ok (.ifCond .ne 5, 3) := by decide +kernel
theorem dX2_allFit_48 : decode cX2_allFit 48 = .ok (.iconst 0, 1) := by decide +kernel
theorem dX2_allFit_49 : decode cX2_allFit 49 = .ok (.ireturn, 1) := by decide +kernel
theorem dX2_allFit_50 : decode cX2_allFit 50 = .ok (.iinc 5 1, 3) := by decide +kernel
theorem dX2_allFit_53 : decode cX2_allFit 53 = .ok (.goto (-43), 3) := by decide +kernel
theorem dX2_allFit_56 : decode cX2_allFit 56 = .ok (.iconst 1, 1) := by decide +kernel
theorem dX2_allFit_57 : decode cX2_allFit 57 = .ok (.ireturn, 1) := by decide +kernel
theorem dX2_fits_0 : decode cX2_fits 0 = .ok (.aload_n 2, 1) := by decide +kernel
theorem dX2_fits_1 : decode cX2_fits 1 = .ok (.iload_n 3, 1) := by decide +kernel
theorem dX2_fits_2 : decode cX2_fits 2 = .ok (.iconst 1, 1) := by decide +kernel
theorem dX2_fits_3 : decode cX2_fits 3 = .ok (.invokevirtual 31, 3) := by decide +kernel
theorem dX2_fits_6 : decode cX2_fits 6 = .ok (.istore 5, 2) := by decide +kernel
theorem dX2_fits_8 : decode cX2_fits 8 = .ok (.aload_n 2, 1) := by decide +kernel
theorem dX2_fits_9 : decode cX2_fits 9 = .ok (.iload_n 3, 1) := by decide +kernel
theorem dX2_fits_10 : decode cX2_fits 10 = .ok (.iconst 2, 1) := by decide +kernel
theorem dX2_fits_11 : decode cX2_fits 11 = .ok (.invokevirtual 31, 3) := by decide +kernel
theorem dX2_fits_14 : decode cX2_fits 14 = .ok (.istore 6, 2) := by decide +kernel
theorem dX2_fits_16 : decode cX2_fits 16 = .ok (.aload_n 2, 1) := by decide +kernel
theorem dX2_fits_17 : decode cX2_fits 17 = .ok (.iload_n 3, 1) := by decide +kernel
theorem dX2_fits_18 : decode cX2_fits 18 = .ok (.iconst 3, 1) := by decide +kernel
theorem dX2_fits_19 : decode cX2_fits 19 = .ok (.invokevirtual 31, 3) := by decide +kernel
theorem dX2_fits_22 : decode cX2_fits 22 = .ok (.istore 7, 2) := by decide +kernel
theorem dX2_fits_24 : decode cX2_fits 24 = .ok (.aload_n 2, 1) := by decide +kernel
theorem dX2_fits_25 : decode cX2_fits 25 = .ok (.iload_n 3, 1) := by decide +kernel
theorem dX2_fits_26 : decode cX2_fits 26 = .ok (.iconst 4, 1) := by decide +kernel
theorem dX2_fits_27 : decode cX2_fits 27 = .ok (.invokevirtual 31, 3) := by decide +kernel
theorem dX2_fits_30 : decode cX2_fits 30 = .ok (.istore 8, 2) := by decide +kernel
theorem dX2_fits_32 : decode cX2_fits 32 = .ok (.iload_n 0, 1) := by decide +kernel
theorem dX2_fits_33 : decode cX2_fits 33 = .ok (.lookupswitch 88 #[(0, 27), (1, 60)], 27) := by decide +kernel
theorem dX2_fits_60 : decode cX2_fits 60 = .ok (.aload_n 1, 1) := by decide +kernel
theorem dX2_fits_61 : decode cX2_fits 61 = .ok (.aload_n 2, 1) := by decide +kernel
theorem dX2_fits_62 : decode cX2_fits 62 = .ok (.iload_n 3, 1) := by decide +kernel
theorem dX2_fits_63 : decode cX2_fits 63 = .ok (.iconst 0, 1) := by decide +kernel
theorem dX2_fits_64 : decode cX2_fits 64 = .ok (.invokevirtual 31, 3) := by decide +kernel
theorem dX2_fits_67 : decode cX2_fits 67 = .ok (.iconst 1, 1) := by decide +kernel
theorem dX2_fits_68 : decode cX2_fits 68 = .ok (.invokevirtual 45, 3) := by decide +kernel
theorem dX2_fits_71 : decode cX2_fits 71 = .ok (.iload 4, 2) := by decide +kernel
theorem dX2_fits_73 : decode cX2_fits 73 = .ok (.iload 6, 2) := by decide +kernel
theorem dX2_fits_75 : decode cX2_fits 75 = .ok (.iload 7, 2) := by decide +kernel
theorem dX2_fits_77 : decode cX2_fits 77 = .ok (.iload 5, 2) := by decide +kernel
theorem dX2_fits_79 : decode cX2_fits 79 = .ok (.invokestatic 48, 3) := by decide +kernel
theorem dX2_fits_82 : decode cX2_fits 82 = .ok (.iload 8, 2) := by decide +kernel
theorem dX2_fits_84 : decode cX2_fits 84 = .ok (.if_icmp .ne 7, 3) := by decide +kernel
theorem dX2_fits_87 : decode cX2_fits 87 = .ok (.iconst 1, 1) := by decide +kernel
theorem dX2_fits_88 : decode cX2_fits 88 = .ok (.goto 4, 3) := by decide +kernel
theorem dX2_fits_91 : decode cX2_fits 91 = .ok (.iconst 0, 1) := by decide +kernel
theorem dX2_fits_92 : decode cX2_fits 92 = .ok (.ireturn, 1) := by decide +kernel
theorem dX2_fits_93 : decode cX2_fits 93 = .ok (.iload 4, 2) := by decide +kernel
theorem dX2_fits_95 : decode cX2_fits 95 = .ok (.iload 5, 2) := by decide +kernel
theorem dX2_fits_97 : decode cX2_fits 97 = .ok (.iload 7, 2) := by decide +kernel
theorem dX2_fits_99 : decode cX2_fits 99 = .ok (.iload 8, 2) := by decide +kernel
theorem dX2_fits_101 : decode cX2_fits 101 = .ok (.iload 6, 2) := by decide +kernel
theorem dX2_fits_103 : decode cX2_fits 103 = .ok (.invokestatic 48, 3) := by decide +kernel
theorem dX2_fits_106 : decode cX2_fits 106 = .ok (.aload_n 2, 1) := by decide +kernel
theorem dX2_fits_107 : decode cX2_fits 107 = .ok (.iload_n 3, 1) := by decide +kernel
theorem dX2_fits_108 : decode cX2_fits 108 = .ok (.iconst 5, 1) := by decide +kernel
theorem dX2_fits_109 : decode cX2_fits 109 = .ok (.invokevirtual 31, 3) := by decide +kernel
theorem dX2_fits_112 : decode cX2_fits 112 = .ok (.if_icmp .ne 7, 3) := by decide +kernel
theorem dX2_fits_115 : decode cX2_fits 115 = .ok (.iconst 1, 1) := by decide +kernel
theorem dX2_fits_116 : decode cX2_fits 116 = .ok (.goto 4, 3) := by decide +kernel
theorem dX2_fits_119 : decode cX2_fits 119 = .ok (.iconst 0, 1) := by decide +kernel
theorem dX2_fits_120 : decode cX2_fits 120 = .ok (.ireturn, 1) := by decide +kernel
theorem dX2_fits_121 : decode cX2_fits 121 = .ok (.iload 4, 2) := by decide +kernel
theorem dX2_fits_123 : decode cX2_fits 123 = .ok (.iload 5, 2) := by decide +kernel
theorem dX2_fits_125 : decode cX2_fits 125 = .ok (.iload 6, 2) := by decide +kernel
theorem dX2_fits_127 : decode cX2_fits 127 = .ok (.iload 7, 2) := by decide +kernel
theorem dX2_fits_129 : decode cX2_fits 129 = .ok (.invokestatic 54, 3) := by decide +kernel
theorem dX2_fits_132 : decode cX2_fits 132 = .ok (.iload 8, 2) := by decide +kernel
theorem dX2_fits_134 : decode cX2_fits 134 = .ok (.if_icmp .ne 7, 3) := by decide +kernel
theorem dX2_fits_137 : decode cX2_fits 137 = .ok (.iconst 1, 1) := by decide +kernel
theorem dX2_fits_138 : decode cX2_fits 138 = .ok (.goto 4, 3) := by decide +kernel
theorem dX2_fits_141 : decode cX2_fits 141 = .ok (.iconst 0, 1) := by decide +kernel
theorem dX2_fits_142 : decode cX2_fits 142 = .ok (.ireturn, 1) := by decide +kernel
theorem dX2_best_0 : decode cX2_best 0 = .ok (.aload_n 0, 1) := by decide +kernel
theorem dX2_best_1 : decode cX2_best 1 = .ok (.iload_n 1, 1) := by decide +kernel
theorem dX2_best_2 : decode cX2_best 2 = .ok (.aload_n 2, 1) := by decide +kernel
theorem dX2_best_3 : decode cX2_best 3 = .ok (.iload_n 3, 1) := by decide +kernel
theorem dX2_best_4 : decode cX2_best 4 = .ok (.invokevirtual 58, 3) := by decide +kernel
theorem dX2_best_7 : decode cX2_best 7 = .ok (.istore 4, 2) := by decide +kernel
theorem dX2_best_9 : decode cX2_best 9 = .ok (.iload 4, 2) := by decide +kernel
theorem dX2_best_11 : decode cX2_best 11 = .ok (.ifCond .ne 5, 3) := by decide +kernel
theorem dX2_best_14 : decode cX2_best 14 = .ok (.iconst (-1), 1) := by decide +kernel
theorem dX2_best_15 : decode cX2_best 15 = .ok (.ireturn, 1) := by decide +kernel
theorem dX2_best_16 : decode cX2_best 16 = .ok (.iconst (-1), 1) := by decide +kernel
theorem dX2_best_17 : decode cX2_best 17 = .ok (.istore 5, 2) := by decide +kernel
theorem dX2_best_19 : decode cX2_best 19 = .ok (.bipush 11, 2) := by decide +kernel
theorem dX2_best_21 : decode cX2_best 21 = .ok (.istore 6, 2) := by decide +kernel
theorem dX2_best_23 : decode cX2_best 23 = .ok (.iconst 0, 1) := by decide +kernel
theorem dX2_best_24 : decode cX2_best 24 = .ok (.istore 7, 2) := by decide +kernel
theorem dX2_best_26 : decode cX2_best 26 = .ok (.iload 7, 2) := by decide +kernel
theorem dX2_best_28 : decode cX2_best 28 = .ok (.sipush 210, 3) := by decide +kernel
theorem dX2_best_31 : decode cX2_best 31 = .ok (.if_icmp .ge 65, 3) := by decide +kernel
theorem dX2_best_34 : decode cX2_best 34 = .ok (.iload 6, 2) := by decide +kernel
theorem dX2_best_36 : decode cX2_best 36 = .ok (.iconst 1, 1) := by decide +kernel
theorem dX2_best_37 : decode cX2_best 37 = .ok (.if_icmp .le 59, 3) := by decide +kernel
theorem dX2_best_40 : decode cX2_best 40 = .ok (.iload_n 1, 1) := by decide +kernel
theorem dX2_best_41 : decode cX2_best 41 = .ok (.iconst 2, 1) := by decide +kernel
theorem dX2_best_42 : decode cX2_best 42 = .ok (.if_icmp .ne 14, 3) := by decide +kernel
theorem dX2_best_45 : decode cX2_best 45 = .ok (.iload 7, 2) := by decide +kernel
theorem dX2_best_47 : decode cX2_best 47 = .ok (.bipush 10, 2) := by decide +kernel
theorem dX2_best_49 : decode cX2_best 49 = .ok (.irem, 1) := by decide +kernel
theorem dX2_best_50 : decode cX2_best 50 = .ok (.ifCond .ne 6, 3) := by decide +kernel
theorem dX2_best_53 : decode cX2_best 53 = .ok (.goto 37, 3) := by decide +kernel
theorem dX2_best_56 : decode cX2_best 56 = .ok (.aload_n 0, 1) := by decide +kernel
theorem dX2_best_57 : decode cX2_best 57 = .ok (.iload_n 1, 1) := by decide +kernel
theorem dX2_best_58 : decode cX2_best 58 = .ok (.aload_n 2, 1) := by decide +kernel
theorem dX2_best_59 : decode cX2_best 59 = .ok (.getfield 35, 3) := by decide +kernel
theorem dX2_best_62 : decode cX2_best 62 = .ok (.iload_n 3, 1) := by decide +kernel
theorem dX2_best_63 : decode cX2_best 63 = .ok (.iload 4, 2) := by decide +kernel
theorem dX2_best_65 : decode cX2_best 65 = .ok (.iload 7, 2) := by decide +kernel
theorem dX2_best_67 : decode cX2_best 67 = .ok (.invokevirtual 62, 3) := by decide +kernel
theorem dX2_best_70 : decode cX2_best 70 = .ok (.istore 8, 2) := by decide +kernel
theorem dX2_best_72 : decode cX2_best 72 = .ok (.iload 8, 2) := by decide +kernel
theorem dX2_best_74 : decode cX2_best 74 = .ok (.iload 6, 2) := by decide +kernel
theorem dX2_best_76 : decode cX2_best 76 = .ok (.if_icmp .lt 6, 3) := by decide +kernel
theorem dX2_best_79 : decode cX2_best 79 = .ok (.goto 11, 3) := by decide +kernel
theorem dX2_best_82 : decode cX2_best 82 = .ok (.iload 8, 2) := by decide +kernel
theorem dX2_best_84 : decode cX2_best 84 = .ok (.istore 6, 2) := by decide +kernel
theorem dX2_best_86 : decode cX2_best 86 = .ok (.iload 7, 2) := by decide +kernel
theorem dX2_best_88 : decode cX2_best 88 = .ok (.istore 5, 2) := by decide +kernel
theorem dX2_best_90 : decode cX2_best 90 = .ok (.iinc 7 1, 3) := by decide +kernel
theorem dX2_best_93 : decode cX2_best 93 = .ok (.goto (-67), 3) := by decide +kernel
theorem dX2_best_96 : decode cX2_best 96 = .ok (.iload 5, 2) := by decide +kernel
theorem dX2_best_98 : decode cX2_best 98 = .ok (.ireturn, 1) := by decide +kernel
theorem dX2_mostAlike_0 : decode cX2_mostAlike 0 = .ok (.iconst 0, 1) := by decide +kernel
theorem dX2_mostAlike_1 : decode cX2_mostAlike 1 = .ok (.istore 6, 2) := by decide +kernel
theorem dX2_mostAlike_3 : decode cX2_mostAlike 3 = .ok (.iconst 0, 1) := by decide +kernel
theorem dX2_mostAlike_4 : decode cX2_mostAlike 4 = .ok (.istore 7, 2) := by decide +kernel
theorem dX2_mostAlike_6 : decode cX2_mostAlike 6 = .ok (.iconst 0, 1) := by decide +kernel
theorem dX2_mostAlike_7 : decode cX2_mostAlike 7 = .ok (.istore 8, 2) := by decide +kernel
theorem dX2_mostAlike_9 : decode cX2_mostAlike 9 = .ok (.iload 8, 2) := by decide +kernel
theorem dX2_mostAlike_11 : decode cX2_mostAlike 11 = .ok (.bipush 10, 2) := by decide +kernel
theorem dX2_mostAlike_13 : decode cX2_mostAlike 13 = .ok (.if_icmp .ge 96, 3) := by decide +kernel
theorem dX2_mostAlike_16 : decode cX2_mostAlike 16 = .ok (.iload 4, 2) := by decide +kernel
theorem dX2_mostAlike_18 : decode cX2_mostAlike 18 = .ok (.iload 8, 2) := by decide +kernel
theorem dX2_mostAlike_20 : decode cX2_mostAlike 20 = .ok (.invokestatic 66, 3) := by decide +kernel
theorem dX2_mostAlike_23 : decode cX2_mostAlike 23 = .ok (.ifCond .ne 6, 3) := by decide +kernel
theorem dX2_mostAlike_26 : decode cX2_mostAlike 26 = .ok (.goto 77, 3) := by decide +kernel
theorem dX2_mostAlike_29 : decode cX2_mostAlike 29 = .ok (.iload_n 1, 1) := by decide +kernel
theorem dX2_mostAlike_30 : decode cX2_mostAlike 30 = .ok (.aload_n 2, 1) := by decide +kernel
theorem dX2_mostAlike_31 : decode cX2_mostAlike 31 = .ok (.iload_n 3, 1) := by decide +kernel
theorem dX2_mostAlike_32 : decode cX2_mostAlike 32 = .ok (.iload 8, 2) := by decide +kernel
theorem dX2_mostAlike_34 : decode cX2_mostAlike 34 = .ok (.iload 5, 2) := by decide +kernel
theorem dX2_mostAlike_36 : decode cX2_mostAlike 36 = .ok (.invokestatic 70, 3) := by decide +kernel
theorem dX2_mostAlike_39 : decode cX2_mostAlike 39 = .ok (.istore 9, 2) := by decide +kernel
theorem dX2_mostAlike_41 : decode cX2_mostAlike 41 = .ok (.iconst 1, 1) := by decide +kernel
theorem dX2_mostAlike_42 : decode cX2_mostAlike 42 = .ok (.istore 10, 2) := by decide +kernel
theorem dX2_mostAlike_44 : decode cX2_mostAlike 44 = .ok (.iconst 0, 1) := by decide +kernel
theorem dX2_mostAlike_45 : decode cX2_mostAlike 45 = .ok (.istore 11, 2) := by decide +kernel
theorem dX2_mostAlike_47 : decode cX2_mostAlike 47 = .ok (.iload 11, 2) := by decide +kernel
theorem dX2_mostAlike_49 : decode cX2_mostAlike 49 = .ok (.iload 6, 2) := by decide +kernel
theorem dX2_mostAlike_51 : decode cX2_mostAlike 51 = .ok (.if_icmp .ge 24, 3) := by decide +kernel
theorem dX2_mostAlike_54 : decode cX2_mostAlike 54 = .ok (.aload_n 0, 1) := by decide +kernel
theorem dX2_mostAlike_55 : decode cX2_mostAlike 55 = .ok (.getfield 9, 3) := by decide +kernel
theorem dX2_mostAlike_58 : decode cX2_mostAlike 58 = .ok (.iload 11, 2) := by decide +kernel
theorem dX2_mostAlike_60 : decode cX2_mostAlike 60 = .ok (.iaload, 1) := by decide +kernel
theorem dX2_mostAlike_61 : decode cX2_mostAlike 61 = .ok (.iload 9, 2) := by decide +kernel
theorem dX2_mostAlike_63 : decode cX2_mostAlike 63 = .ok (.if_icmp .ne 6, 3) := by decide +kernel
theorem dX2_mostAlike_66 : decode cX2_mostAlike 66 = .ok (.iinc 10 1, 3) := by decide +kernel
theorem dX2_mostAlike_69 : decode cX2_mostAlike 69 = .ok (.iinc 11 1, 3) := by decide +kernel
theorem dX2_mostAlike_72 : decode cX2_mostAlike 72 = .ok (.goto (-25), 3) := by decide +kernel
theorem dX2_mostAlike_75 : decode cX2_mostAlike 75 = .ok (.iload 6, 2) := by decide +kernel
theorem dX2_mostAlike_77 : decode cX2_mostAlike 77 = .ok (.bipush 10, 2) := by decide +kernel
theorem dX2_mostAlike_79 : decode cX2_mostAlike 79 = .ok (.if_icmp .ge 15, 3) := by decide +kernel
theorem dX2_mostAlike_82 : decode cX2_mostAlike 82 = .ok (.aload_n 0, 1) := by decide +kernel
theorem dX2_mostAlike_83 : decode cX2_mostAlike 83 = .ok (.getfield 9, 3) := by decide +kernel
theorem dX2_mostAlike_86 : decode cX2_mostAlike 86 = .ok (.iload 6, 2) := by decide +kernel
theorem dX2_mostAlike_88 : decode cX2_mostAlike 88 = .ok (.iinc 6 1, 3) := by decide +kernel
theorem dX2_mostAlike_91 : decode cX2_mostAlike 91 = .ok (.iload 9, 2) := by decide +kernel
theorem dX2_mostAlike_93 : decode cX2_mostAlike 93 = .ok (.iastore, 1) := by decide +kernel
theorem dX2_mostAlike_94 : decode cX2_mostAlike 94 = .ok (.iload 7, 2) := by decide +kernel
theorem dX2_mostAlike_96 : decode cX2_mostAlike 96 = .ok (.iload 10, 2) := by decide +kernel
theorem dX2_mostAlike_98 : decode cX2_mostAlike 98 = .ok (.invokestatic 73, 3) := by decide +kernel
theorem dX2_mostAlike_101 : decode cX2_mostAlike 101 = .ok (.istore 7, 2) := by decide +kernel
theorem dX2_mostAlike_103 : decode cX2_mostAlike 103 = .ok (.iinc 8 1, 3) := by decide +kernel
theorem dX2_mostAlike_106 : decode cX2_mostAlike 106 = .ok (.goto (-97), 3) := by decide +kernel
theorem dX2_mostAlike_109 : decode cX2_mostAlike 109 = .ok (.iload 7, 2) := by decide +kernel
theorem dX2_mostAlike_111 : decode cX2_mostAlike 111 = .ok (.ireturn, 1) := by decide +kernel
theorem dX2_answerOf_0 : decode cX2_answerOf 0 = .ok (.iload 4, 2) := by decide +kernel
theorem dX2_answerOf_2 : decode cX2_answerOf 2 = .ok (.bipush 10, 2) := by decide +kernel
theorem dX2_answerOf_4 : decode cX2_answerOf 4 = .ok (.idiv, 1) := by decide +kernel
theorem dX2_answerOf_5 : decode cX2_answerOf 5 = .ok (.istore 5, 2) := by decide +kernel
theorem dX2_answerOf_7 : decode cX2_answerOf 7 = .ok (.iload 4, 2) := by decide +kernel
theorem dX2_answerOf_9 : decode cX2_answerOf 9 = .ok (.bipush 10, 2) := by decide +kernel
theorem dX2_answerOf_11 : decode cX2_answerOf 11 = .ok (.irem, 1) := by decide +kernel
theorem dX2_answerOf_12 : decode cX2_answerOf 12 = .ok (.istore 6, 2) := by decide +kernel
theorem dX2_answerOf_14 : decode cX2_answerOf 14 = .ok (.aload_n 1, 1) := by decide +kernel
theorem dX2_answerOf_15 : decode cX2_answerOf 15 = .ok (.invokevirtual 78, 3) := by decide +kernel
theorem dX2_answerOf_18 : decode cX2_answerOf 18 = .ok (.istore 7, 2) := by decide +kernel
theorem dX2_answerOf_20 : decode cX2_answerOf 20 = .ok (.iload_n 0, 1) := by decide +kernel
theorem dX2_answerOf_21 : decode cX2_answerOf 21 = .ok (.lookupswitch 61 #[(0, 27), (1, 44)], 27) := by decide +kernel
theorem dX2_answerOf_48 : decode cX2_answerOf 48 = .ok (.aload_n 1, 1) := by decide +kernel
theorem dX2_answerOf_49 : decode cX2_answerOf 49 = .ok (.iload_n 2, 1) := by decide +kernel
theorem dX2_answerOf_50 : decode cX2_answerOf 50 = .ok (.iconst 1, 1) := by decide +kernel
theorem dX2_answerOf_51 : decode cX2_answerOf 51 = .ok (.invokevirtual 45, 3) := by decide +kernel
theorem dX2_answerOf_54 : decode cX2_answerOf 54 = .ok (.iload_n 3, 1) := by decide +kernel
theorem dX2_answerOf_55 : decode cX2_answerOf 55 = .ok (.iload 6, 2) := by decide +kernel
theorem dX2_answerOf_57 : decode cX2_answerOf 57 = .ok (.iload 5, 2) := by decide +kernel
theorem dX2_answerOf_59 : decode cX2_answerOf 59 = .ok (.iload 7, 2) := by decide +kernel
theorem dX2_answerOf_61 : decode cX2_answerOf 61 = .ok (.invokestatic 48, 3) := by decide +kernel
theorem dX2_answerOf_64 : decode cX2_answerOf 64 = .ok (.ireturn, 1) := by decide +kernel
theorem dX2_answerOf_65 : decode cX2_answerOf 65 = .ok (.iload_n 3, 1) := by decide +kernel
theorem dX2_answerOf_66 : decode cX2_answerOf 66 = .ok (.aload_n 1, 1) := by decide +kernel
theorem dX2_answerOf_67 : decode cX2_answerOf 67 = .ok (.iload_n 2, 1) := by decide +kernel
theorem dX2_answerOf_68 : decode cX2_answerOf 68 = .ok (.iconst 2, 1) := by decide +kernel
theorem dX2_answerOf_69 : decode cX2_answerOf 69 = .ok (.invokevirtual 45, 3) := by decide +kernel
theorem dX2_answerOf_72 : decode cX2_answerOf 72 = .ok (.iload 6, 2) := by decide +kernel
theorem dX2_answerOf_74 : decode cX2_answerOf 74 = .ok (.iload 5, 2) := by decide +kernel
theorem dX2_answerOf_76 : decode cX2_answerOf 76 = .ok (.iload 7, 2) := by decide +kernel
theorem dX2_answerOf_78 : decode cX2_answerOf 78 = .ok (.invokestatic 48, 3) := by decide +kernel
theorem dX2_answerOf_81 : decode cX2_answerOf 81 = .ok (.ireturn, 1) := by decide +kernel
theorem dX2_answerOf_82 : decode cX2_answerOf 82 = .ok (.iload_n 3, 1) := by decide +kernel
theorem dX2_answerOf_83 : decode cX2_answerOf 83 = .ok (.aload_n 1, 1) := by decide +kernel
theorem dX2_answerOf_84 : decode cX2_answerOf 84 = .ok (.iload_n 2, 1) := by decide +kernel
theorem dX2_answerOf_85 : decode cX2_answerOf 85 = .ok (.iconst 1, 1) := by decide +kernel
theorem dX2_answerOf_86 : decode cX2_answerOf 86 = .ok (.invokevirtual 82, 3) := by decide +kernel
theorem dX2_answerOf_89 : decode cX2_answerOf 89 = .ok (.iload 6, 2) := by decide +kernel
theorem dX2_answerOf_91 : decode cX2_answerOf 91 = .ok (.iload 5, 2) := by decide +kernel
theorem dX2_answerOf_93 : decode cX2_answerOf 93 = .ok (.invokestatic 54, 3) := by decide +kernel
theorem dX2_answerOf_96 : decode cX2_answerOf 96 = .ok (.ireturn, 1) := by decide +kernel
theorem dX3_init_0 : decode cX3_init 0 = .ok (.aload_n 0, 1) := by decide +kernel
theorem dX3_init_1 : decode cX3_init 1 = .ok (.invokespecial 5, 3) := by decide +kernel
theorem dX3_init_4 : decode cX3_init 4 = .ok (.aload_n 0, 1) := by decide +kernel
theorem dX3_init_5 : decode cX3_init 5 = .ok (.sipush 152, 3) := by decide +kernel
theorem dX3_init_8 : decode cX3_init 8 = .ok (.newarray .int, 2) := by decide +kernel
theorem dX3_init_10 : decode cX3_init 10 = .ok (.putfield 11, 3) := by decide +kernel
theorem dX3_init_13 : decode cX3_init 13 = .ok (.return_, 1) := by decide +kernel
theorem dX3_empty_0 : decode cX3_empty 0 = .ok (.aload_n 0, 1) := by decide +kernel
theorem dX3_empty_1 : decode cX3_empty 1 = .ok (.iconst 0, 1) := by decide +kernel
theorem dX3_empty_2 : decode cX3_empty 2 = .ok (.putfield 15, 3) := by decide +kernel
theorem dX3_empty_5 : decode cX3_empty 5 = .ok (.return_, 1) := by decide +kernel
theorem dX3_copyOf_0 : decode cX3_copyOf 0 = .ok (.aload_n 0, 1) := by decide +kernel
theorem dX3_copyOf_1 : decode cX3_copyOf 1 = .ok (.aload_n 1, 1) := by decide +kernel
theorem dX3_copyOf_2 : decode cX3_copyOf 2 = .ok (.getfield 15, 3) := by decide +kernel
theorem dX3_copyOf_5 : decode cX3_copyOf 5 = .ok (.putfield 15, 3) := by decide +kernel
theorem dX3_copyOf_8 : decode cX3_copyOf 8 = .ok (.aload_n 1, 1) := by decide +kernel
theorem dX3_copyOf_9 : decode cX3_copyOf 9 = .ok (.getfield 11, 3) := by decide +kernel
theorem dX3_copyOf_12 : decode cX3_copyOf 12 = .ok (.iconst 0, 1) := by decide +kernel
theorem dX3_copyOf_13 : decode cX3_copyOf 13 = .ok (.aload_n 0, 1) := by decide +kernel
theorem dX3_copyOf_14 : decode cX3_copyOf 14 = .ok (.getfield 11, 3) := by decide +kernel
theorem dX3_copyOf_17 : decode cX3_copyOf 17 = .ok (.iconst 0, 1) := by decide +kernel
theorem dX3_copyOf_18 : decode cX3_copyOf 18 = .ok (.sipush 152, 3) := by decide +kernel
theorem dX3_copyOf_21 : decode cX3_copyOf 21 = .ok (.invokestatic 19, 3) := by decide +kernel
theorem dX3_copyOf_24 : decode cX3_copyOf 24 = .ok (.return_, 1) := by decide +kernel
theorem dX3_keep_0 : decode cX3_keep 0 = .ok (.aload_n 0, 1) := by decide +kernel
theorem dX3_keep_1 : decode cX3_keep 1 = .ok (.getfield 15, 3) := by decide +kernel
theorem dX3_keep_4 : decode cX3_keep 4 = .ok (.bipush 8, 2) := by decide +kernel
theorem dX3_keep_6 : decode cX3_keep 6 = .ok (.if_icmp .lt 7, 3) := by decide +kernel
theorem dX3_keep_9 : decode cX3_keep 9 = .ok (.aload_n 0, 1) := by decide +kernel
theorem dX3_keep_10 : decode cX3_keep 10 = .ok (.invokevirtual 25, 3) := by decide +kernel
theorem dX3_keep_13 : decode cX3_keep 13 = .ok (.aload_n 0, 1) := by decide +kernel
theorem dX3_keep_14 : decode cX3_keep 14 = .ok (.getfield 15, 3) := by decide +kernel
theorem dX3_keep_17 : decode cX3_keep 17 = .ok (.ifCond .lt 12, 3) := by decide +kernel
theorem dX3_keep_20 : decode cX3_keep 20 = .ok (.aload_n 0, 1) := by decide +kernel
theorem dX3_keep_21 : decode cX3_keep 21 = .ok (.getfield 15, 3) := by decide +kernel
theorem dX3_keep_24 : decode cX3_keep 24 = .ok (.bipush 8, 2) := by decide +kernel
theorem dX3_keep_26 : decode cX3_keep 26 = .ok (.if_icmp .lt 4, 3) := by decide +kernel
theorem dX3_keep_29 : decode cX3_keep 29 = .ok (.return_, 1) := by decide +kernel
theorem dX3_keep_30 : decode cX3_keep 30 = .ok (.aload_n 0, 1) := by decide +kernel
theorem dX3_keep_31 : decode cX3_keep 31 = .ok (.getfield 15, 3) := by decide +kernel
theorem dX3_keep_34 : decode cX3_keep 34 = .ok (.bipush 19, 2) := by decide +kernel
theorem dX3_keep_36 : decode cX3_keep 36 = .ok (.imul, 1) := by decide +kernel
theorem dX3_keep_37 : decode cX3_keep 37 = .ok (.istore_n 2, 1) := by decide +kernel
theorem dX3_keep_38 : decode cX3_keep 38 = .ok (.aload_n 0, 1) := by decide +kernel
theorem dX3_keep_39 : decode cX3_keep 39 = .ok (.getfield 11, 3) := by decide +kernel
theorem dX3_keep_42 : decode cX3_keep 42 = .ok (.iload_n 2, 1) := by decide +kernel
theorem dX3_keep_43 : decode cX3_keep 43 = .ok (.aload_n 1, 1) := by decide +kernel
theorem dX3_keep_44 : decode cX3_keep 44 = .ok (.getfield 28, 3) := by decide +kernel
theorem dX3_keep_47 : decode cX3_keep 47 = .ok (.iastore, 1) := by decide +kernel
theorem dX3_keep_48 : decode cX3_keep 48 = .ok (.aload_n 1, 1) := by decide +kernel
theorem dX3_keep_49 : decode cX3_keep 49 = .ok (.getfield 33, 3) := by decide +kernel
theorem dX3_keep_52 : decode cX3_keep 52 = .ok (.iconst 0, 1) := by decide +kernel
theorem dX3_keep_53 : decode cX3_keep 53 = .ok (.aload_n 0, 1) := by decide +kernel
theorem dX3_keep_54 : decode cX3_keep 54 = .ok (.getfield 11, 3) := by decide +kernel
theorem dX3_keep_57 : decode cX3_keep 57 = .ok (.iload_n 2, 1) := by decide +kernel
theorem dX3_keep_58 : decode cX3_keep 58 = .ok (.iconst 1, 1) := by decide +kernel
theorem dX3_keep_59 : decode cX3_keep 59 = .ok (.iadd, 1) := by decide +kernel
theorem dX3_keep_60 : decode cX3_keep 60 = .ok (.bipush 6, 2) := by decide +kernel
theorem dX3_keep_62 : decode cX3_keep 62 = .ok (.invokestatic 19, 3) := by decide +kernel
theorem dX3_keep_65 : decode cX3_keep 65 = .ok (.aload_n 1, 1) := by decide +kernel
theorem dX3_keep_66 : decode cX3_keep 66 = .ok (.getfield 36, 3) := by decide +kernel
theorem dX3_keep_69 : decode cX3_keep 69 = .ok (.iconst 0, 1) := by decide +kernel
theorem dX3_keep_70 : decode cX3_keep 70 = .ok (.aload_n 0, 1) := by decide +kernel
theorem dX3_keep_71 : decode cX3_keep 71 = .ok (.getfield 11, 3) := by decide +kernel
theorem dX3_keep_74 : decode cX3_keep 74 = .ok (.iload_n 2, 1) := by decide +kernel
theorem dX3_keep_75 : decode cX3_keep 75 = .ok (.bipush 7, 2) := by decide +kernel
theorem dX3_keep_77 : decode cX3_keep 77 = .ok (.iadd, 1) := by decide +kernel
theorem dX3_keep_78 : decode cX3_keep 78 = .ok (.bipush 6, 2) := by decide +kernel
theorem dX3_keep_80 : decode cX3_keep 80 = .ok (.invokestatic 19, 3) := by decide +kernel
theorem dX3_keep_83 : decode cX3_keep 83 = .ok (.aload_n 1, 1) := by decide +kernel
theorem dX3_keep_84 : decode cX3_keep 84 = .ok (.getfield 39, 3) := by decide +kernel
theorem dX3_keep_87 : decode cX3_keep 87 = .ok (.iconst 0, 1) := by decide +kernel
theorem dX3_keep_88 : decode cX3_keep 88 = .ok (.aload_n 0, 1) := by decide +kernel
theorem dX3_keep_89 : decode cX3_keep 89 = .ok (.getfield 11, 3) := by decide +kernel
theorem dX3_keep_92 : decode cX3_keep 92 = .ok (.iload_n 2, 1) := by decide +kernel
theorem dX3_keep_93 : decode cX3_keep 93 = .ok (.bipush 13, 2) := by decide +kernel
theorem dX3_keep_95 : decode cX3_keep 95 = .ok (.iadd, 1) := by decide +kernel
theorem dX3_keep_96 : decode cX3_keep 96 = .ok (.bipush 6, 2) := by decide +kernel
theorem dX3_keep_98 : decode cX3_keep 98 = .ok (.invokestatic 19, 3) := by decide +kernel
theorem dX3_keep_101 : decode cX3_keep 101 = .ok (.aload_n 0, 1) := by decide +kernel
theorem dX3_keep_102 : decode cX3_keep 102 = .ok (.dup, 1) := by decide +kernel
theorem dX3_keep_103 : decode cX3_keep 103 = .ok (.getfield 15, 3) := by decide +kernel
theorem dX3_keep_106 : decode cX3_keep 106 = .ok (.iconst 1, 1) := by decide +kernel
theorem dX3_keep_107 : decode cX3_keep 107 = .ok (.iadd, 1) := by decide +kernel
theorem dX3_keep_108 : decode cX3_keep 108 = .ok (.putfield 15, 3) := by decide +kernel
theorem dX3_keep_111 : decode cX3_keep 111 = .ok (.return_, 1) := by decide +kernel
theorem dX3_takeBack_0 : decode cX3_takeBack 0 = .ok (.aload_n 0, 1) := by decide +kernel
theorem dX3_takeBack_1 : decode cX3_takeBack 1 = .ok (.getfield 15, 3) := by decide +kernel
theorem dX3_takeBack_4 : decode cX3_takeBack 4 = .ok (.ifCond .le 12, 3) := by decide +kernel
theorem dX3_takeBack_7 : decode cX3_takeBack 7 = .ok (.aload_n 0, 1) := by decide +kernel
theorem dX3_takeBack_8 : decode cX3_takeBack 8 = .ok (.getfield 15, 3) := by decide +kernel
theorem dX3_takeBack_11 : decode cX3_takeBack 11 = .ok (.bipush 8, 2) := by decide +kernel
theorem dX3_takeBack_13 : decode cX3_takeBack 13 = .ok (.if_icmp .le 4, 3) := by decide +kernel
theorem dX3_takeBack_16 : decode cX3_takeBack 16 = .ok (.return_, 1) := by decide +kernel
theorem dX3_takeBack_17 : decode cX3_takeBack 17 = .ok (.aload_n 0, 1) := by decide +kernel
theorem dX3_takeBack_18 : decode cX3_takeBack 18 = .ok (.dup, 1) := by decide +kernel
theorem dX3_takeBack_19 : decode cX3_takeBack 19 = .ok (.getfield 15, 3) := by decide +kernel
theorem dX3_takeBack_22 : decode cX3_takeBack 22 = .ok (.iconst 1, 1) := by decide +kernel
theorem dX3_takeBack_23 : decode cX3_takeBack 23 = .ok (.isub, 1) := by decide +kernel
theorem dX3_takeBack_24 : decode cX3_takeBack 24 = .ok (.putfield 15, 3) := by decide +kernel
theorem dX3_takeBack_27 : decode cX3_takeBack 27 = .ok (.aload_n 0, 1) := by decide +kernel
theorem dX3_takeBack_28 : decode cX3_takeBack 28 = .ok (.getfield 15, 3) := by decide +kernel
theorem dX3_takeBack_31 : decode cX3_takeBack 31 = .ok (.bipush 19, 2) := by decide +kernel
theorem dX3_takeBack_33 : decode cX3_takeBack 33 = .ok (.imul, 1) := by decide +kernel
theorem dX3_takeBack_34 : decode cX3_takeBack 34 = .ok (.istore_n 2, 1) := by decide +kernel
theorem dX3_takeBack_35 : decode cX3_takeBack 35 = .ok (.aload_n 1, 1) := by decide +kernel
theorem dX3_takeBack_36 : decode cX3_takeBack 36 = .ok (.aload_n 0, 1) := by decide +kernel
theorem dX3_takeBack_37 : decode cX3_takeBack 37 = .ok (.getfield 11, 3) := by decide +kernel
theorem dX3_takeBack_40 : decode cX3_takeBack 40 = .ok (.iload_n 2, 1) := by decide +kernel
theorem dX3_takeBack_41 : decode cX3_takeBack 41 = .ok (.iaload, 1) := by decide +kernel
theorem dX3_takeBack_42 : decode cX3_takeBack 42 = .ok (.putfield 28, 3) := by decide +kernel
theorem dX3_takeBack_45 : decode cX3_takeBack 45 = .ok (.aload_n 0, 1) := by decide +kernel
theorem dX3_takeBack_46 : decode cX3_takeBack 46 = .ok (.getfield 11, 3) := by decide +kernel
theorem dX3_takeBack_49 : decode cX3_takeBack 49 = .ok (.iload_n 2, 1) := by decide +kernel
theorem dX3_takeBack_50 : decode cX3_takeBack 50 = .ok (.iconst 1, 1) := by decide +kernel
theorem dX3_takeBack_51 : decode cX3_takeBack 51 = .ok (.iadd, 1) := by decide +kernel
theorem dX3_takeBack_52 : decode cX3_takeBack 52 = .ok (.aload_n 1, 1) := by decide +kernel
theorem dX3_takeBack_53 : decode cX3_takeBack 53 = .ok (.getfield 33, 3) := by decide +kernel
theorem dX3_takeBack_56 : decode cX3_takeBack 56 = .ok (.iconst 0, 1) := by decide +kernel
theorem dX3_takeBack_57 : decode cX3_takeBack 57 = .ok (.bipush 6, 2) := by decide +kernel
theorem dX3_takeBack_59 : decode cX3_takeBack 59 = .ok (.invokestatic 19, 3) := by decide +kernel
theorem dX3_takeBack_62 : decode cX3_takeBack 62 = .ok (.aload_n 0, 1) := by decide +kernel
theorem dX3_takeBack_63 : decode cX3_takeBack 63 = .ok (.getfield 11, 3) := by decide +kernel
theorem dX3_takeBack_66 : decode cX3_takeBack 66 = .ok (.iload_n 2, 1) := by decide +kernel
theorem dX3_takeBack_67 : decode cX3_takeBack 67 = .ok (.bipush 7, 2) := by decide +kernel
theorem dX3_takeBack_69 : decode cX3_takeBack 69 = .ok (.iadd, 1) := by decide +kernel
theorem dX3_takeBack_70 : decode cX3_takeBack 70 = .ok (.aload_n 1, 1) := by decide +kernel
theorem dX3_takeBack_71 : decode cX3_takeBack 71 = .ok (.getfield 36, 3) := by decide +kernel
theorem dX3_takeBack_74 : decode cX3_takeBack 74 = .ok (.iconst 0, 1) := by decide +kernel
theorem dX3_takeBack_75 : decode cX3_takeBack 75 = .ok (.bipush 6, 2) := by decide +kernel
theorem dX3_takeBack_77 : decode cX3_takeBack 77 = .ok (.invokestatic 19, 3) := by decide +kernel
theorem dX3_takeBack_80 : decode cX3_takeBack 80 = .ok (.aload_n 0, 1) := by decide +kernel
theorem dX3_takeBack_81 : decode cX3_takeBack 81 = .ok (.getfield 11, 3) := by decide +kernel
theorem dX3_takeBack_84 : decode cX3_takeBack 84 = .ok (.iload_n 2, 1) := by decide +kernel
theorem dX3_takeBack_85 : decode cX3_takeBack 85 = .ok (.bipush 13, 2) := by decide +kernel
theorem dX3_takeBack_87 : decode cX3_takeBack 87 = .ok (.iadd, 1) := by decide +kernel
theorem dX3_takeBack_88 : decode cX3_takeBack 88 = .ok (.aload_n 1, 1) := by decide +kernel
theorem dX3_takeBack_89 : decode cX3_takeBack 89 = .ok (.getfield 39, 3) := by decide +kernel
theorem dX3_takeBack_92 : decode cX3_takeBack 92 = .ok (.iconst 0, 1) := by decide +kernel
theorem dX3_takeBack_93 : decode cX3_takeBack 93 = .ok (.bipush 6, 2) := by decide +kernel
theorem dX3_takeBack_95 : decode cX3_takeBack 95 = .ok (.invokestatic 19, 3) := by decide +kernel
theorem dX3_takeBack_98 : decode cX3_takeBack 98 = .ok (.return_, 1) := by decide +kernel
theorem dX3_dropOldest_0 : decode cX3_dropOldest 0 = .ok (.aload_n 0, 1) := by decide +kernel
theorem dX3_dropOldest_1 : decode cX3_dropOldest 1 = .ok (.getfield 11, 3) := by decide +kernel
theorem dX3_dropOldest_4 : decode cX3_dropOldest 4 = .ok (.bipush 19, 2) := by decide +kernel
theorem dX3_dropOldest_6 : decode cX3_dropOldest 6 = .ok (.aload_n 0, 1) := by decide +kernel
theorem dX3_dropOldest_7 : decode cX3_dropOldest 7 = .ok (.getfield 11, 3) := by decide +kernel
theorem dX3_dropOldest_10 : decode cX3_dropOldest 10 = .ok (.iconst 0, 1) := by decide +kernel
theorem dX3_dropOldest_11 : decode cX3_dropOldest 11 = .ok (.sipush 133, 3) := by decide +kernel
theorem dX3_dropOldest_14 : decode cX3_dropOldest 14 = .ok (.invokestatic 19, 3) := by decide +kernel
theorem dX3_dropOldest_17 : decode cX3_dropOldest 17 = .ok (.aload_n 0, 1) := by decide +kernel
theorem dX3_dropOldest_18 : decode cX3_dropOldest 18 = .ok (.bipush 7, 2) := by decide +kernel
theorem dX3_dropOldest_20 : decode cX3_dropOldest 20 = .ok (.putfield 15, 3) := by decide +kernel
theorem dX3_dropOldest_23 : decode cX3_dropOldest 23 = .ok (.return_, 1) := by decide +kernel
theorem dX4_init_0 : decode cX4_init 0 = .ok (.aload_n 0, 1) := by decide +kernel
theorem dX4_init_1 : decode cX4_init 1 = .ok (.invokespecial 3, 3) := by decide +kernel
theorem dX4_init_4 : decode cX4_init 4 = .ok (.aload_n 0, 1) := by decide +kernel
theorem dX4_init_5 : decode cX4_init 5 = .ok (.bipush 36, 2) := by decide +kernel
theorem dX4_init_7 : decode cX4_init 7 = .ok (.newarray .int, 2) := by decide +kernel
theorem dX4_init_9 : decode cX4_init 9 = .ok (.putfield 11, 3) := by decide +kernel
theorem dX4_init_12 : decode cX4_init 12 = .ok (.aload_n 0, 1) := by decide +kernel
theorem dX4_init_13 : decode cX4_init 13 = .ok (.bipush 6, 2) := by decide +kernel
theorem dX4_init_15 : decode cX4_init 15 = .ok (.iload_n 1, 1) := by decide +kernel
theorem dX4_init_16 : decode cX4_init 16 = .ok (.invokestatic 15, 3) := by decide +kernel
theorem dX4_init_19 : decode cX4_init 19 = .ok (.putfield 21, 3) := by decide +kernel
theorem dX4_init_22 : decode cX4_init 22 = .ok (.return_, 1) := by decide +kernel
theorem dX4_isFull_0 : decode cX4_isFull 0 = .ok (.aload_n 0, 1) := by decide +kernel
theorem dX4_isFull_1 : decode cX4_isFull 1 = .ok (.getfield 25, 3) := by decide +kernel
theorem dX4_isFull_4 : decode cX4_isFull 4 = .ok (.aload_n 0, 1) := by decide +kernel
theorem dX4_isFull_5 : decode cX4_isFull 5 = .ok (.getfield 21, 3) := by decide +kernel
theorem dX4_isFull_8 : decode cX4_isFull 8 = .ok (.if_icmp .lt 7, 3) := by decide +kernel
theorem dX4_isFull_11 : decode cX4_isFull 11 = .ok (.iconst 1, 1) := by decide +kernel
theorem dX4_isFull_12 : decode cX4_isFull 12 = .ok (.goto 4, 3) := by decide +kernel
theorem dX4_isFull_15 : decode cX4_isFull 15 = .ok (.iconst 0, 1) := by decide +kernel
theorem dX4_isFull_16 : decode cX4_isFull 16 = .ok (.ireturn, 1) := by decide +kernel
theorem dX4_copyOf_0 : decode cX4_copyOf 0 = .ok (.aload_n 0, 1) := by decide +kernel
theorem dX4_copyOf_1 : decode cX4_copyOf 1 = .ok (.aload_n 1, 1) := by decide +kernel
theorem dX4_copyOf_2 : decode cX4_copyOf 2 = .ok (.getfield 25, 3) := by decide +kernel
theorem dX4_copyOf_5 : decode cX4_copyOf 5 = .ok (.putfield 25, 3) := by decide +kernel
theorem dX4_copyOf_8 : decode cX4_copyOf 8 = .ok (.aload_n 1, 1) := by decide +kernel
theorem dX4_copyOf_9 : decode cX4_copyOf 9 = .ok (.getfield 11, 3) := by decide +kernel
theorem dX4_copyOf_12 : decode cX4_copyOf 12 = .ok (.iconst 0, 1) := by decide +kernel
theorem dX4_copyOf_13 : decode cX4_copyOf 13 = .ok (.aload_n 0, 1) := by decide +kernel
theorem dX4_copyOf_14 : decode cX4_copyOf 14 = .ok (.getfield 11, 3) := by decide +kernel
theorem dX4_copyOf_17 : decode cX4_copyOf 17 = .ok (.iconst 0, 1) := by decide +kernel
theorem dX4_copyOf_18 : decode cX4_copyOf 18 = .ok (.bipush 36, 2) := by decide +kernel
theorem dX4_copyOf_20 : decode cX4_copyOf 20 = .ok (.invokestatic 28, 3) := by decide +kernel
theorem dX4_copyOf_23 : decode cX4_copyOf 23 = .ok (.return_, 1) := by decide +kernel
theorem dX4_add_0 : decode cX4_add 0 = .ok (.aload_n 0, 1) := by decide +kernel
theorem dX4_add_1 : decode cX4_add 1 = .ok (.getfield 25, 3) := by decide +kernel
theorem dX4_add_4 : decode cX4_add 4 = .ok (.ifCond .lt 12, 3) := by decide +kernel
theorem dX4_add_7 : decode cX4_add 7 = .ok (.aload_n 0, 1) := by decide +kernel
theorem dX4_add_8 : decode cX4_add 8 = .ok (.getfield 25, 3) := by decide +kernel
theorem dX4_add_11 : decode cX4_add 11 = .ok (.bipush 6, 2) := by decide +kernel
theorem dX4_add_13 : decode cX4_add 13 = .ok (.if_icmp .lt 6, 3) := by decide +kernel
theorem dX4_add_16 : decode cX4_add 16 = .ok (.bipush (-4), 2) := by decide +kernel
theorem dX4_add_18 : decode cX4_add 18 = .ok (.ireturn, 1) := by decide +kernel
theorem dX4_add_19 : decode cX4_add 19 = .ok (.aload_n 0, 1) := by decide +kernel
theorem dX4_add_20 : decode cX4_add 20 = .ok (.getfield 25, 3) := by decide +kernel
theorem dX4_add_23 : decode cX4_add 23 = .ok (.bipush 6, 2) := by decide +kernel
theorem dX4_add_25 : decode cX4_add 25 = .ok (.imul, 1) := by decide +kernel
theorem dX4_add_26 : decode cX4_add 26 = .ok (.istore 7, 2) := by decide +kernel
theorem dX4_add_28 : decode cX4_add 28 = .ok (.aload_n 0, 1) := by decide +kernel
theorem dX4_add_29 : decode cX4_add 29 = .ok (.getfield 11, 3) := by decide +kernel
theorem dX4_add_32 : decode cX4_add 32 = .ok (.iload 7, 2) := by decide +kernel
theorem dX4_add_34 : decode cX4_add 34 = .ok (.iload_n 1, 1) := by decide +kernel
theorem dX4_add_35 : decode cX4_add 35 = .ok (.iastore, 1) := by decide +kernel
theorem dX4_add_36 : decode cX4_add 36 = .ok (.aload_n 0, 1) := by decide +kernel
theorem dX4_add_37 : decode cX4_add 37 = .ok (.getfield 11, 3) := by decide +kernel
theorem dX4_add_40 : decode cX4_add 40 = .ok (.iload 7, 2) := by decide +kernel
theorem dX4_add_42 : decode cX4_add 42 = .ok (.iconst 1, 1) := by decide +kernel
theorem dX4_add_43 : decode cX4_add 43 = .ok (.iadd, 1) := by decide +kernel
theorem dX4_add_44 : decode cX4_add 44 = .ok (.iload_n 2, 1) := by decide +kernel
theorem dX4_add_45 : decode cX4_add 45 = .ok (.iastore, 1) := by decide +kernel
theorem dX4_add_46 : decode cX4_add 46 = .ok (.aload_n 0, 1) := by decide +kernel
theorem dX4_add_47 : decode cX4_add 47 = .ok (.getfield 11, 3) := by decide +kernel
theorem dX4_add_50 : decode cX4_add 50 = .ok (.iload 7, 2) := by decide +kernel
theorem dX4_add_52 : decode cX4_add 52 = .ok (.iconst 2, 1) := by decide +kernel
theorem dX4_add_53 : decode cX4_add 53 = .ok (.iadd, 1) := by decide +kernel
theorem dX4_add_54 : decode cX4_add 54 = .ok (.iload_n 3, 1) := by decide +kernel
theorem dX4_add_55 : decode cX4_add 55 = .ok (.iastore, 1) := by decide +kernel
theorem dX4_add_56 : decode cX4_add 56 = .ok (.aload_n 0, 1) := by decide +kernel
theorem dX4_add_57 : decode cX4_add 57 = .ok (.getfield 11, 3) := by decide +kernel
theorem dX4_add_60 : decode cX4_add 60 = .ok (.iload 7, 2) := by decide +kernel
theorem dX4_add_62 : decode cX4_add 62 = .ok (.iconst 3, 1) := by decide +kernel
theorem dX4_add_63 : decode cX4_add 63 = .ok (.iadd, 1) := by decide +kernel
theorem dX4_add_64 : decode cX4_add 64 = .ok (.iload 4, 2) := by decide +kernel
theorem dX4_add_66 : decode cX4_add 66 = .ok (.iastore, 1) := by decide +kernel
theorem dX4_add_67 : decode cX4_add 67 = .ok (.aload_n 0, 1) := by decide +kernel
theorem dX4_add_68 : decode cX4_add 68 = .ok (.getfield 11, 3) := by decide +kernel
theorem dX4_add_71 : decode cX4_add 71 = .ok (.iload 7, 2) := by decide +kernel
theorem dX4_add_73 : decode cX4_add 73 = .ok (.iconst 4, 1) := by decide +kernel
theorem dX4_add_74 : decode cX4_add 74 = .ok (.iadd, 1) := by decide +kernel
theorem dX4_add_75 : decode cX4_add 75 = .ok (.iload 5, 2) := by decide +kernel
theorem dX4_add_77 : decode cX4_add 77 = .ok (.iastore, 1) := by decide +kernel
theorem dX4_add_78 : decode cX4_add 78 = .ok (.aload_n 0, 1) := by decide +kernel
theorem dX4_add_79 : decode cX4_add 79 = .ok (.getfield 11, 3) := by decide +kernel
theorem dX4_add_82 : decode cX4_add 82 = .ok (.iload 7, 2) := by decide +kernel
theorem dX4_add_84 : decode cX4_add 84 = .ok (.iconst 5, 1) := by decide +kernel
theorem dX4_add_85 : decode cX4_add 85 = .ok (.iadd, 1) := by decide +kernel
theorem dX4_add_86 : decode cX4_add 86 = .ok (.iload 6, 2) := by decide +kernel
theorem dX4_add_88 : decode cX4_add 88 = .ok (.iastore, 1) := by decide +kernel
theorem dX4_add_89 : decode cX4_add 89 = .ok (.aload_n 0, 1) := by decide +kernel
theorem dX4_add_90 : decode cX4_add 90 = .ok (.dup, 1) := by decide +kernel
theorem dX4_add_91 : decode cX4_add 91 = .ok (.getfield 25, 3) := by decide +kernel
theorem dX4_add_94 : decode cX4_add 94 = .ok (.iconst 1, 1) := by decide +kernel
theorem dX4_add_95 : decode cX4_add 95 = .ok (.iadd, 1) := by decide +kernel
theorem dX4_add_96 : decode cX4_add 96 = .ok (.putfield 25, 3) := by decide +kernel
theorem dX4_add_99 : decode cX4_add 99 = .ok (.aload_n 0, 1) := by decide +kernel
theorem dX4_add_100 : decode cX4_add 100 = .ok (.getfield 25, 3) := by decide +kernel
theorem dX4_add_103 : decode cX4_add 103 = .ok (.ireturn, 1) := by decide +kernel
theorem dX4_at_0 : decode cX4_at 0 = .ok (.iload_n 1, 1) := by decide +kernel
theorem dX4_at_1 : decode cX4_at 1 = .ok (.iconst 0, 1) := by decide +kernel
theorem dX4_at_2 : decode cX4_at 2 = .ok (.iconst 5, 1) := by decide +kernel
theorem dX4_at_3 : decode cX4_at 3 = .ok (.invokestatic 34, 3) := by decide +kernel
theorem dX4_at_6 : decode cX4_at 6 = .ok (.ifCond .eq 16, 3) := by decide +kernel
theorem dX4_at_9 : decode cX4_at 9 = .ok (.iload_n 2, 1) := by decide +kernel
theorem dX4_at_10 : decode cX4_at 10 = .ok (.iconst 0, 1) := by decide +kernel
theorem dX4_at_11 : decode cX4_at 11 = .ok (.iconst 5, 1) := by decide +kernel
theorem dX4_at_12 : decode cX4_at 12 = .ok (.invokestatic 34, 3) := by decide +kernel
theorem dX4_at_15 : decode cX4_at 15 = .ok (.ifCond .eq 7, 3) := by decide +kernel
theorem dX4_at_18 : decode cX4_at 18 = .ok (.iconst 1, 1) := by decide +kernel
theorem dX4_at_19 : decode cX4_at 19 = .ok (.goto 4, 3) := by decide +kernel
theorem dX4_at_22 : decode cX4_at 22 = .ok (.iconst 0, 1) := by decide +kernel
theorem dX4_at_23 : decode cX4_at 23 = .ok (.istore_n 3, 1) := by decide +kernel
theorem dX4_at_24 : decode cX4_at 24 = .ok (.iload_n 3, 1) := by decide +kernel
theorem dX4_at_25 : decode cX4_at 25 = .ok (.ifCond .eq 17, 3) := by decide +kernel
theorem dX4_at_28 : decode cX4_at 28 = .ok (.aload_n 0, 1) := by decide +kernel
theorem dX4_at_29 : decode cX4_at 29 = .ok (.getfield 11, 3) := by decide +kernel
theorem dX4_at_32 : decode cX4_at 32 = .ok (.iload_n 1, 1) := by decide +kernel
theorem dX4_at_33 : decode cX4_at 33 = .ok (.bipush 6, 2) := by decide +kernel
theorem dX4_at_35 : decode cX4_at 35 = .ok (.imul, 1) := by decide +kernel
theorem dX4_at_36 : decode cX4_at 36 = .ok (.iload_n 2, 1) := by decide +kernel
theorem dX4_at_37 : decode cX4_at 37 = .ok (.iadd, 1) := by decide +kernel
theorem dX4_at_38 : decode cX4_at 38 = .ok (.iaload, 1) := by decide +kernel
theorem dX4_at_39 : decode cX4_at 39 = .ok (.goto 4, 3) := by decide +kernel
theorem dX4_at_42 : decode cX4_at 42 = .ok (.iconst 0, 1) := by decide +kernel
theorem dX4_at_43 : decode cX4_at 43 = .ok (.ireturn, 1) := by decide +kernel
theorem dX4_foldInto_0 : decode cX4_foldInto 0 = .ok (.iconst 0, 1) := by decide +kernel
theorem dX4_foldInto_1 : decode cX4_foldInto 1 = .ok (.istore 4, 2) := by decide +kernel
theorem dX4_foldInto_3 : decode cX4_foldInto 3 = .ok (.iload 4, 2) := by decide +kernel
theorem dX4_foldInto_5 : decode cX4_foldInto 5 = .ok (.aload_n 0, 1) := by decide +kernel
theorem dX4_foldInto_6 : decode cX4_foldInto 6 = .ok (.getfield 25, 3) := by decide +kernel
theorem dX4_foldInto_9 : decode cX4_foldInto 9 = .ok (.if_icmp .ge 40, 3) := by decide +kernel
theorem dX4_foldInto_12 : decode cX4_foldInto 12 = .ok (.iconst 0, 1) := by decide +kernel
theorem dX4_foldInto_13 : decode cX4_foldInto 13 = .ok (.istore 5, 2) := by decide +kernel
theorem dX4_foldInto_15 : decode cX4_foldInto 15 = .ok (.iload 5, 2) := by decide +kernel
theorem dX4_foldInto_17 : decode cX4_foldInto 17 = .ok (.iload_n 3, 1) := by decide +kernel
theorem dX4_foldInto_18 : decode cX4_foldInto 18 = .ok (.if_icmp .ge 25, 3) := by decide +kernel
theorem dX4_foldInto_21 : decode cX4_foldInto 21 = .ok (.ldc2_w 38, 3) := by decide +kernel
theorem dX4_foldInto_24 : decode cX4_foldInto 24 = .ok (.lload_n 1, 1) := by decide +kernel
theorem dX4_foldInto_25 : decode cX4_foldInto 25 = .ok (.lmul, 1) := by decide +kernel
theorem dX4_foldInto_26 : decode cX4_foldInto 26 = .ok (.aload_n 0, 1) := by decide +kernel
theorem dX4_foldInto_27 : decode cX4_foldInto 27 = .ok (.iload 4, 2) := by decide +kernel
theorem dX4_foldInto_29 : decode cX4_foldInto 29 = .ok (.iload 5, 2) := by decide +kernel
theorem dX4_foldInto_31 : decode cX4_foldInto 31 = .ok (.invokevirtual 40, 3) := by decide +kernel
theorem dX4_foldInto_34 : decode cX4_foldInto 34 = .ok (.i2l, 1) := by decide +kernel
theorem dX4_foldInto_35 : decode cX4_foldInto 35 = .ok (.ladd, 1) := by decide +kernel
theorem dX4_foldInto_36 : decode cX4_foldInto 36 = .ok (.lstore_n 1, 1) := by decide +kernel
theorem dX4_foldInto_37 : decode cX4_foldInto 37 = .ok (.iinc 5 1, 3) := by decide +kernel
theorem dX4_foldInto_40 : decode cX4_foldInto 40 = .ok (.goto (-25), 3) := by decide +kernel
theorem dX4_foldInto_43 : decode cX4_foldInto 43 = .ok (.iinc 4 1, 3) := by decide +kernel
theorem dX4_foldInto_46 : decode cX4_foldInto 46 = .ok (.goto (-43), 3) := by decide +kernel
theorem dX4_foldInto_49 : decode cX4_foldInto 49 = .ok (.lload_n 1, 1) := by decide +kernel
theorem dX4_foldInto_50 : decode cX4_foldInto 50 = .ok (.lreturn, 1) := by decide +kernel
theorem dX5_init_0 : decode cX5_init 0 = .ok (.aload_n 0, 1) := by decide +kernel
theorem dX5_init_1 : decode cX5_init 1 = .ok (.invokespecial 3, 3) := by decide +kernel
theorem dX5_init_4 : decode cX5_init 4 = .ok (.aload_n 0, 1) := by decide +kernel
theorem dX5_init_5 : decode cX5_init 5 = .ok (.sipush 150, 3) := by decide +kernel
theorem dX5_init_8 : decode cX5_init 8 = .ok (.newarray .int, 2) := by decide +kernel
theorem dX5_init_10 : decode cX5_init 10 = .ok (.putfield 11, 3) := by decide +kernel
theorem dX5_init_13 : decode cX5_init 13 = .ok (.return_, 1) := by decide +kernel
theorem dX5_isFull_0 : decode cX5_isFull 0 = .ok (.aload_n 0, 1) := by decide +kernel
theorem dX5_isFull_1 : decode cX5_isFull 1 = .ok (.getfield 15, 3) := by decide +kernel
theorem dX5_isFull_4 : decode cX5_isFull 4 = .ok (.sipush 150, 3) := by decide +kernel
theorem dX5_isFull_7 : decode cX5_isFull 7 = .ok (.if_icmp .lt 7, 3) := by decide +kernel
theorem dX5_isFull_10 : decode cX5_isFull 10 = .ok (.iconst 1, 1) := by decide +kernel
theorem dX5_isFull_11 : decode cX5_isFull 11 = .ok (.goto 4, 3) := by decide +kernel
theorem dX5_isFull_14 : decode cX5_isFull 14 = .ok (.iconst 0, 1) := by decide +kernel
theorem dX5_isFull_15 : decode cX5_isFull 15 = .ok (.ireturn, 1) := by decide +kernel
theorem dX5_add_0 : decode cX5_add 0 = .ok (.iconst 0, 1) := by decide +kernel
theorem dX5_add_1 : decode cX5_add 1 = .ok (.aload_n 0, 1) := by decide +kernel
theorem dX5_add_2 : decode cX5_add 2 = .ok (.getfield 15, 3) := by decide +kernel
theorem dX5_add_5 : decode cX5_add 5 = .ok (.if_icmp .gt 30, 3) := by decide +kernel
theorem dX5_add_8 : decode cX5_add 8 = .ok (.aload_n 0, 1) := by decide +kernel
theorem dX5_add_9 : decode cX5_add 9 = .ok (.getfield 15, 3) := by decide +kernel
theorem dX5_add_12 : decode cX5_add 12 = .ok (.sipush 150, 3) := by decide +kernel
theorem dX5_add_15 : decode cX5_add 15 = .ok (.if_icmp .ge 20, 3) := by decide +kernel
theorem dX5_add_18 : decode cX5_add 18 = .ok (.aload_n 0, 1) := by decide +kernel
theorem dX5_add_19 : decode cX5_add 19 = .ok (.getfield 11, 3) := by decide +kernel
theorem dX5_add_22 : decode cX5_add 22 = .ok (.aload_n 0, 1) := by decide +kernel
theorem dX5_add_23 : decode cX5_add 23 = .ok (.dup, 1) := by decide +kernel
theorem dX5_add_24 : decode cX5_add 24 = .ok (.getfield 15, 3) := by decide +kernel
theorem dX5_add_27 : decode cX5_add 27 = .ok (.dup_x1, 1) := by decide +kernel
theorem dX5_add_28 : decode cX5_add 28 = .ok (.iconst 1, 1) := by decide +kernel
theorem dX5_add_29 : decode cX5_add 29 = .ok (.iadd, 1) := by decide +kernel
theorem dX5_add_30 : decode cX5_add 30 = .ok (.putfield 15, 3) := by decide +kernel
theorem dX5_add_33 : decode cX5_add 33 = .ok (.iload_n 1, 1) := by decide +kernel
theorem dX5_add_34 : decode cX5_add 34 = .ok (.iastore, 1) := by decide +kernel
theorem dX5_add_35 : decode cX5_add 35 = .ok (.return_, 1) := by decide +kernel
theorem dX5_readInto_0 : decode cX5_readInto 0 = .ok (.aload_n 1, 1) := by decide +kernel
theorem dX5_readInto_1 : decode cX5_readInto 1 = .ok (.iconst 0, 1) := by decide +kernel
theorem dX5_readInto_2 : decode cX5_readInto 2 = .ok (.invokevirtual 19, 3) := by decide +kernel
theorem dX5_readInto_5 : decode cX5_readInto 5 = .ok (.aload_n 0, 1) := by decide +kernel
theorem dX5_readInto_6 : decode cX5_readInto 6 = .ok (.iconst 0, 1) := by decide +kernel
theorem dX5_readInto_7 : decode cX5_readInto 7 = .ok (.putfield 25, 3) := by decide +kernel
theorem dX5_readInto_10 : decode cX5_readInto 10 = .ok (.aload_n 0, 1) := by decide +kernel
theorem dX5_readInto_11 : decode cX5_readInto 11 = .ok (.iconst 0, 1) := by decide +kernel
theorem dX5_readInto_12 : decode cX5_readInto 12 = .ok (.putfield 28, 3) := by decide +kernel
theorem dX5_readInto_15 : decode cX5_readInto 15 = .ok (.iconst 0, 1) := by decide +kernel
theorem dX5_readInto_16 : decode cX5_readInto 16 = .ok (.istore_n 2, 1) := by decide +kernel
theorem dX5_readInto_17 : decode cX5_readInto 17 = .ok (.iload_n 2, 1) := by decide +kernel
theorem dX5_readInto_18 : decode cX5_readInto 18 = .ok (.sipush 150, 3) := by decide +kernel
theorem dX5_readInto_21 : decode cX5_readInto 21 = .ok (.if_icmp .gt 64, 3) := by decide +kernel
theorem dX5_readInto_24 : decode cX5_readInto 24 = .ok (.aload_n 0, 1) := by decide +kernel
theorem dX5_readInto_25 : decode cX5_readInto 25 = .ok (.invokevirtual 31, 3) := by decide +kernel
theorem dX5_readInto_28 : decode cX5_readInto 28 = .ok (.aload_n 0, 1) := by decide +kernel
theorem dX5_readInto_29 : decode cX5_readInto 29 = .ok (.getfield 34, 3) := by decide +kernel
theorem dX5_readInto_32 : decode cX5_readInto 32 = .ok (.ifCond .ne 9, 3) := by decide +kernel
theorem dX5_readInto_35 : decode cX5_readInto 35 = .ok (.iload_n 2, 1) := by decide +kernel
theorem dX5_readInto_36 : decode cX5_readInto 36 = .ok (.ifCond .le 5, 3) := by decide +kernel
theorem dX5_readInto_39 : decode cX5_readInto 39 = .ok (.iload_n 2, 1) := by decide +kernel
theorem dX5_readInto_40 : decode cX5_readInto 40 = .ok (.ireturn, 1) := by decide +kernel
theorem dX5_readInto_41 : decode cX5_readInto 41 = .ok (.aload_n 0, 1) := by decide +kernel
theorem dX5_readInto_42 : decode cX5_readInto 42 = .ok (.aload_n 1, 1) := by decide +kernel
theorem dX5_readInto_43 : decode cX5_readInto 43 = .ok (.iload_n 2, 1) := by decide +kernel
theorem dX5_readInto_44 : decode cX5_readInto 44 = .ok (.ifCond .ne 7, 3) := by decide +kernel
theorem dX5_readInto_47 : decode cX5_readInto 47 = .ok (.iconst 1, 1) := by decide +kernel
theorem dX5_readInto_48 : decode cX5_readInto 48 = .ok (.goto 4, 3) := by decide +kernel
theorem dX5_readInto_51 : decode cX5_readInto 51 = .ok (.iconst 0, 1) := by decide +kernel
theorem dX5_readInto_52 : decode cX5_readInto 52 = .ok (.invokevirtual 37, 3) := by decide +kernel
theorem dX5_readInto_55 : decode cX5_readInto 55 = .ok (.ifCond .ne 5, 3) := by decide +kernel
theorem dX5_readInto_58 : decode cX5_readInto 58 = .ok (.iconst (-1), 1) := by decide +kernel
theorem dX5_readInto_59 : decode cX5_readInto 59 = .ok (.ireturn, 1) := by decide +kernel
theorem dX5_readInto_60 : decode cX5_readInto 60 = .ok (.aload_n 0, 1) := by decide +kernel
theorem dX5_readInto_61 : decode cX5_readInto 61 = .ok (.invokevirtual 31, 3) := by decide +kernel
theorem dX5_readInto_64 : decode cX5_readInto 64 = .ok (.aload_n 0, 1) := by decide +kernel
theorem dX5_readInto_65 : decode cX5_readInto 65 = .ok (.getfield 34, 3) := by decide +kernel
theorem dX5_readInto_68 : decode cX5_readInto 68 = .ok (.iconst 3, 1) := by decide +kernel
theorem dX5_readInto_69 : decode cX5_readInto 69 = .ok (.if_icmp .eq 10, 3) := by decide +kernel
theorem dX5_readInto_72 : decode cX5_readInto 72 = .ok (.aload_n 0, 1) := by decide +kernel
theorem dX5_readInto_73 : decode cX5_readInto 73 = .ok (.invokevirtual 41, 3) := by decide +kernel
theorem dX5_readInto_76 : decode cX5_readInto 76 = .ok (.pop, 1) := by decide +kernel
theorem dX5_readInto_77 : decode cX5_readInto 77 = .ok (.iconst (-1), 1) := by decide +kernel
theorem dX5_readInto_78 : decode cX5_readInto 78 = .ok (.ireturn, 1) := by decide +kernel
theorem dX5_readInto_79 : decode cX5_readInto 79 = .ok (.iinc 2 1, 3) := by decide +kernel
theorem dX5_readInto_82 : decode cX5_readInto 82 = .ok (.goto (-65), 3) := by decide +kernel
theorem dX5_readInto_85 : decode cX5_readInto 85 = .ok (.iconst (-1), 1) := by decide +kernel
theorem dX5_readInto_86 : decode cX5_readInto 86 = .ok (.ireturn, 1) := by decide +kernel
theorem dX5_readItem_0 : decode cX5_readItem 0 = .ok (.iload_n 2, 1) := by decide +kernel
theorem dX5_readItem_1 : decode cX5_readItem 1 = .ok (.ifCond .eq 25, 3) := by decide +kernel
theorem dX5_readItem_4 : decode cX5_readItem 4 = .ok (.aload_n 0, 1) := by decide +kernel
theorem dX5_readItem_5 : decode cX5_readItem 5 = .ok (.ldc 45, 2) := by decide +kernel
theorem dX5_readItem_7 : decode cX5_readItem 7 = .ok (.invokevirtual 47, 3) := by decide +kernel
theorem dX5_readItem_10 : decode cX5_readItem 10 = .ok (.ifCond .eq 11, 3) := by decide +kernel
theorem dX5_readItem_13 : decode cX5_readItem 13 = .ok (.aload_n 0, 1) := by decide +kernel
theorem dX5_readItem_14 : decode cX5_readItem 14 = .ok (.aload_n 1, 1) := by decide +kernel
theorem dX5_readItem_15 : decode cX5_readItem 15 = .ok (.invokevirtual 51, 3) := by decide +kernel
theorem dX5_readItem_18 : decode cX5_readItem 18 = .ok (.goto 7, 3) := by decide +kernel
theorem dX5_readItem_21 : decode cX5_readItem 21 = .ok (.aload_n 0, 1) := by decide +kernel
theorem dX5_readItem_22 : decode cX5_readItem 22 = .ok (.invokevirtual 41, 3) := by decide +kernel
theorem dX5_readItem_25 : decode cX5_readItem 25 = .ok (.ireturn, 1) := by decide +kernel
theorem dX5_readItem_26 : decode cX5_readItem 26 = .ok (.aload_n 0, 1) := by decide +kernel
theorem dX5_readItem_27 : decode cX5_readItem 27 = .ok (.ldc 55, 2) := by decide +kernel
theorem dX5_readItem_29 : decode cX5_readItem 29 = .ok (.invokevirtual 47, 3) := by decide +kernel
theorem dX5_readItem_32 : decode cX5_readItem 32 = .ok (.ifCond .eq 9, 3) := by decide +kernel
theorem dX5_readItem_35 : decode cX5_readItem 35 = .ok (.aload_n 0, 1) := by decide +kernel
theorem dX5_readItem_36 : decode cX5_readItem 36 = .ok (.aload_n 1, 1) := by decide +kernel
theorem dX5_readItem_37 : decode cX5_readItem 37 = .ok (.invokevirtual 57, 3) := by decide +kernel
theorem dX5_readItem_40 : decode cX5_readItem 40 = .ok (.ireturn, 1) := by decide +kernel
theorem dX5_readItem_41 : decode cX5_readItem 41 = .ok (.aload_n 0, 1) := by decide +kernel
theorem dX5_readItem_42 : decode cX5_readItem 42 = .ok (.ldc 60, 2) := by decide +kernel
theorem dX5_readItem_44 : decode cX5_readItem 44 = .ok (.invokevirtual 47, 3) := by decide +kernel
theorem dX5_readItem_47 : decode cX5_readItem 47 = .ok (.ifCond .eq 9, 3) := by decide +kernel
theorem dX5_readItem_50 : decode cX5_readItem 50 = .ok (.aload_n 0, 1) := by decide +kernel
theorem dX5_readItem_51 : decode cX5_readItem 51 = .ok (.aload_n 1, 1) := by decide +kernel
theorem dX5_readItem_52 : decode cX5_readItem 52 = .ok (.invokevirtual 62, 3) := by decide +kernel
theorem dX5_readItem_55 : decode cX5_readItem 55 = .ok (.ireturn, 1) := by decide +kernel
theorem dX5_readItem_56 : decode cX5_readItem 56 = .ok (.aload_n 0, 1) := by decide +kernel
theorem dX5_readItem_57 : decode cX5_readItem 57 = .ok (.ldc 65, 2) := by decide +kernel
theorem dX5_readItem_59 : decode cX5_readItem 59 = .ok (.invokevirtual 47, 3) := by decide +kernel
theorem dX5_readItem_62 : decode cX5_readItem 62 = .ok (.ifCond .eq 9, 3) := by decide +kernel
theorem dX5_readItem_65 : decode cX5_readItem 65 = .ok (.aload_n 0, 1) := by decide +kernel
theorem dX5_readItem_66 : decode cX5_readItem 66 = .ok (.aload_n 1, 1) := by decide +kernel
theorem dX5_readItem_67 : decode cX5_readItem 67 = .ok (.invokevirtual 67, 3) := by decide +kernel
theorem dX5_readItem_70 : decode cX5_readItem 70 = .ok (.ireturn, 1) := by decide +kernel
theorem dX5_readItem_71 : decode cX5_readItem 71 = .ok (.aload_n 0, 1) := by decide +kernel
theorem dX5_readItem_72 : decode cX5_readItem 72 = .ok (.ldc 70, 2) := by decide +kernel
theorem dX5_readItem_74 : decode cX5_readItem 74 = .ok (.invokevirtual 47, 3) := by decide +kernel
theorem dX5_readItem_77 : decode cX5_readItem 77 = .ok (.ifCond .eq 9, 3) := by decide +kernel
theorem dX5_readItem_80 : decode cX5_readItem 80 = .ok (.aload_n 0, 1) := by decide +kernel
theorem dX5_readItem_81 : decode cX5_readItem 81 = .ok (.aload_n 1, 1) := by decide +kernel
theorem dX5_readItem_82 : decode cX5_readItem 82 = .ok (.invokevirtual 72, 3) := by decide +kernel
theorem dX5_readItem_85 : decode cX5_readItem 85 = .ok (.ireturn, 1) := by decide +kernel
theorem dX5_readItem_86 : decode cX5_readItem 86 = .ok (.aload_n 0, 1) := by decide +kernel
theorem dX5_readItem_87 : decode cX5_readItem 87 = .ok (.invokevirtual 41, 3) := by decide +kernel
theorem dX5_readItem_90 : decode cX5_readItem 90 = .ok (.ireturn, 1) := by decide +kernel
theorem dX5_readNumber_0 : decode cX5_readNumber 0 = .ok (.aload_n 0, 1) := by decide +kernel
theorem dX5_readNumber_1 : decode cX5_readNumber 1 = .ok (.iconst 0, 1) := by decide +kernel
theorem dX5_readNumber_2 : decode cX5_readNumber 2 = .ok (.bipush 99, 2) := by decide +kernel
theorem dX5_readNumber_4 : decode cX5_readNumber 4 = .ok (.invokevirtual 75, 3) := by decide +kernel
theorem dX5_readNumber_7 : decode cX5_readNumber 7 = .ok (.ifCond .ne 5, 3) := by decide +kernel
theorem dX5_readNumber_10 : decode cX5_readNumber 10 = .ok (.iconst 0, 1) := by decide +kernel
theorem dX5_readNumber_11 : decode cX5_readNumber 11 = .ok (.ireturn, 1) := by decide +kernel
theorem dX5_readNumber_12 : decode cX5_readNumber 12 = .ok (.aload_n 1, 1) := by decide +kernel
theorem dX5_readNumber_13 : decode cX5_readNumber 13 = .ok (.aload_n 0, 1) := by decide +kernel
theorem dX5_readNumber_14 : decode cX5_readNumber 14 = .ok (.getfield 79, 3) := by decide +kernel
theorem dX5_readNumber_17 : decode cX5_readNumber 17 = .ok (.invokevirtual 19, 3) := by decide +kernel
theorem dX5_readNumber_20 : decode cX5_readNumber 20 = .ok (.iconst 1, 1) := by decide +kernel
theorem dX5_readNumber_21 : decode cX5_readNumber 21 = .ok (.ireturn, 1) := by decide +kernel
theorem dX5_readPlayer_0 : decode cX5_readPlayer 0 = .ok (.aload_n 1, 1) := by decide +kernel
theorem dX5_readPlayer_1 : decode cX5_readPlayer 1 = .ok (.getfield 82, 3) := by decide +kernel
theorem dX5_readPlayer_4 : decode cX5_readPlayer 4 = .ok (.iconst 3, 1) := by decide +kernel
theorem dX5_readPlayer_5 : decode cX5_readPlayer 5 = .ok (.if_icmp .lt 8, 3) := by decide +kernel
theorem dX5_readPlayer_8 : decode cX5_readPlayer 8 = .ok (.aload_n 0, 1) := by decide +kernel
theorem dX5_readPlayer_9 : decode cX5_readPlayer 9 = .ok (.invokevirtual 41, 3) := by decide +kernel
theorem dX5_readPlayer_12 : decode cX5_readPlayer 12 = .ok (.ireturn, 1) := by decide +kernel
theorem dX5_readPlayer_13 : decode cX5_readPlayer 13 = .ok (.aload_n 0, 1) := by decide +kernel
theorem dX5_readPlayer_14 : decode cX5_readPlayer 14 = .ok (.iconst 0, 1) := by decide +kernel
theorem dX5_readPlayer_15 : decode cX5_readPlayer 15 = .ok (.iconst 5, 1) := by decide +kernel
theorem dX5_readPlayer_16 : decode cX5_readPlayer 16 = .ok (.invokevirtual 75, 3) := by decide +kernel
theorem dX5_readPlayer_19 : decode cX5_readPlayer 19 = .ok (.ifCond .ne 5, 3) := by decide +kernel
theorem dX5_readPlayer_22 : decode cX5_readPlayer 22 = .ok (.iconst 0, 1) := by decide +kernel
theorem dX5_readPlayer_23 : decode cX5_readPlayer 23 = .ok (.ireturn, 1) := by decide +kernel
theorem dX5_readPlayer_24 : decode cX5_readPlayer 24 = .ok (.aload_n 0, 1) := by decide +kernel
theorem dX5_readPlayer_25 : decode cX5_readPlayer 25 = .ok (.getfield 79, 3) := by decide +kernel
theorem dX5_readPlayer_28 : decode cX5_readPlayer 28 = .ok (.istore_n 2, 1) := by decide +kernel
theorem dX5_readPlayer_29 : decode cX5_readPlayer 29 = .ok (.aload_n 0, 1) := by decide +kernel
theorem dX5_readPlayer_30 : decode cX5_readPlayer 30 = .ok (.iconst 1, 1) := by decide +kernel
theorem dX5_readPlayer_31 : decode cX5_readPlayer 31 = .ok (.bipush 9, 2) := by decide +kernel
theorem dX5_readPlayer_33 : decode cX5_readPlayer 33 = .ok (.invokevirtual 75, 3) := by decide +kernel
theorem dX5_readPlayer_36 : decode cX5_readPlayer 36 = .ok (.ifCond .ne 5, 3) := by decide +kernel
theorem dX5_readPlayer_39 : decode cX5_readPlayer 39 = .ok (.iconst 0, 1) := by decide +kernel
theorem dX5_readPlayer_40 : decode cX5_readPlayer 40 = .ok (.ireturn, 1) := by decide +kernel
theorem dX5_readPlayer_41 : decode cX5_readPlayer 41 = .ok (.aload_n 1, 1) := by decide +kernel
theorem dX5_readPlayer_42 : decode cX5_readPlayer 42 = .ok (.iload_n 2, 1) := by decide +kernel
theorem dX5_readPlayer_43 : decode cX5_readPlayer 43 = .ok (.aload_n 0, 1) := by decide +kernel
theorem dX5_readPlayer_44 : decode cX5_readPlayer 44 = .ok (.getfield 79, 3) := by decide +kernel
theorem dX5_readPlayer_47 : decode cX5_readPlayer 47 = .ok (.invokevirtual 85, 3) := by decide +kernel
theorem dX5_readPlayer_50 : decode cX5_readPlayer 50 = .ok (.pop, 1) := by decide +kernel
theorem dX5_readPlayer_51 : decode cX5_readPlayer 51 = .ok (.iconst 1, 1) := by decide +kernel
theorem dX5_readPlayer_52 : decode cX5_readPlayer 52 = .ok (.ireturn, 1) := by decide +kernel
theorem dX5_readNut_0 : decode cX5_readNut 0 = .ok (.aload_n 1, 1) := by decide +kernel
theorem dX5_readNut_1 : decode cX5_readNut 1 = .ok (.getfield 89, 3) := by decide +kernel
theorem dX5_readNut_4 : decode cX5_readNut 4 = .ok (.bipush 6, 2) := by decide +kernel
theorem dX5_readNut_6 : decode cX5_readNut 6 = .ok (.if_icmp .lt 8, 3) := by decide +kernel
theorem dX5_readNut_9 : decode cX5_readNut 9 = .ok (.aload_n 0, 1) := by decide +kernel
theorem dX5_readNut_10 : decode cX5_readNut 10 = .ok (.invokevirtual 41, 3) := by decide +kernel
theorem dX5_readNut_13 : decode cX5_readNut 13 = .ok (.ireturn, 1) := by decide +kernel
theorem dX5_readNut_14 : decode cX5_readNut 14 = .ok (.aload_n 0, 1) := by decide +kernel
theorem dX5_readNut_15 : decode cX5_readNut 15 = .ok (.iconst 0, 1) := by decide +kernel
theorem dX5_readNut_16 : decode cX5_readNut 16 = .ok (.aload_n 1, 1) := by decide +kernel
theorem dX5_readNut_17 : decode cX5_readNut 17 = .ok (.getfield 82, 3) := by decide +kernel
theorem dX5_readNut_20 : decode cX5_readNut 20 = .ok (.iconst 1, 1) := by decide +kernel
theorem dX5_readNut_21 : decode cX5_readNut 21 = .ok (.isub, 1) := by decide +kernel
theorem dX5_readNut_22 : decode cX5_readNut 22 = .ok (.invokevirtual 75, 3) := by decide +kernel
theorem dX5_readNut_25 : decode cX5_readNut 25 = .ok (.ifCond .ne 5, 3) := by decide +kernel
theorem dX5_readNut_28 : decode cX5_readNut 28 = .ok (.iconst 0, 1) := by decide +kernel
theorem dX5_readNut_29 : decode cX5_readNut 29 = .ok (.ireturn, 1) := by decide +kernel
theorem dX5_readNut_30 : decode cX5_readNut 30 = .ok (.aload_n 0, 1) := by decide +kernel
theorem dX5_readNut_31 : decode cX5_readNut 31 = .ok (.getfield 79, 3) := by decide +kernel
theorem dX5_readNut_34 : decode cX5_readNut 34 = .ok (.istore_n 2, 1) := by decide +kernel
theorem dX5_readNut_35 : decode cX5_readNut 35 = .ok (.aload_n 0, 1) := by decide +kernel
theorem dX5_readNut_36 : decode cX5_readNut 36 = .ok (.iconst 0, 1) := by decide +kernel
theorem dX5_readNut_37 : decode cX5_readNut 37 = .ok (.iconst 5, 1) := by decide +kernel
theorem dX5_readNut_38 : decode cX5_readNut 38 = .ok (.invokevirtual 75, 3) := by decide +kernel
theorem dX5_readNut_41 : decode cX5_readNut 41 = .ok (.ifCond .ne 5, 3) := by decide +kernel
theorem dX5_readNut_44 : decode cX5_readNut 44 = .ok (.iconst 0, 1) := by decide +kernel
theorem dX5_readNut_45 : decode cX5_readNut 45 = .ok (.ireturn, 1) := by decide +kernel
theorem dX5_readNut_46 : decode cX5_readNut 46 = .ok (.aload_n 0, 1) := by decide +kernel
theorem dX5_readNut_47 : decode cX5_readNut 47 = .ok (.getfield 79, 3) := by decide +kernel
theorem dX5_readNut_50 : decode cX5_readNut 50 = .ok (.istore_n 3, 1) := by decide +kernel
theorem dX5_readNut_51 : decode cX5_readNut 51 = .ok (.aload_n 0, 1) := by decide +kernel
theorem dX5_readNut_52 : decode cX5_readNut 52 = .ok (.iconst 0, 1) := by decide +kernel
theorem dX5_readNut_53 : decode cX5_readNut 53 = .ok (.bipush 9, 2) := by decide +kernel
theorem dX5_readNut_55 : decode cX5_readNut 55 = .ok (.invokevirtual 75, 3) := by decide +kernel
theorem dX5_readNut_58 : decode cX5_readNut 58 = .ok (.ifCond .ne 5, 3) := by decide +kernel
theorem dX5_readNut_61 : decode cX5_readNut 61 = .ok (.iconst 0, 1) := by decide +kernel
theorem dX5_readNut_62 : decode cX5_readNut 62 = .ok (.ireturn, 1) := by decide +kernel
theorem dX5_readNut_63 : decode cX5_readNut 63 = .ok (.aload_n 0, 1) := by decide +kernel
theorem dX5_readNut_64 : decode cX5_readNut 64 = .ok (.getfield 79, 3) := by decide +kernel
theorem dX5_readNut_67 : decode cX5_readNut 67 = .ok (.istore 4, 2) := by decide +kernel
theorem dX5_readNut_69 : decode cX5_readNut 69 = .ok (.aload_n 0, 1) := by decide +kernel
theorem dX5_readNut_70 : decode cX5_readNut 70 = .ok (.iconst 1, 1) := by decide +kernel
theorem dX5_readNut_71 : decode cX5_readNut 71 = .ok (.bipush 9, 2) := by decide +kernel
theorem dX5_readNut_73 : decode cX5_readNut 73 = .ok (.invokevirtual 75, 3) := by decide +kernel
theorem dX5_readNut_76 : decode cX5_readNut 76 = .ok (.ifCond .ne 5, 3) := by decide +kernel
theorem dX5_readNut_79 : decode cX5_readNut 79 = .ok (.iconst 0, 1) := by decide +kernel
theorem dX5_readNut_80 : decode cX5_readNut 80 = .ok (.ireturn, 1) := by decide +kernel
theorem dX5_readNut_81 : decode cX5_readNut 81 = .ok (.aload_n 1, 1) := by decide +kernel
theorem dX5_readNut_82 : decode cX5_readNut 82 = .ok (.iload_n 2, 1) := by decide +kernel
theorem dX5_readNut_83 : decode cX5_readNut 83 = .ok (.iload_n 3, 1) := by decide +kernel
theorem dX5_readNut_84 : decode cX5_readNut 84 = .ok (.iload 4, 2) := by decide +kernel
theorem dX5_readNut_86 : decode cX5_readNut 86 = .ok (.aload_n 0, 1) := by decide +kernel
theorem dX5_readNut_87 : decode cX5_readNut 87 = .ok (.getfield 79, 3) := by decide +kernel
theorem dX5_readNut_90 : decode cX5_readNut 90 = .ok (.invokevirtual 92, 3) := by decide +kernel
theorem dX5_readNut_93 : decode cX5_readNut 93 = .ok (.pop, 1) := by decide +kernel
theorem dX5_readNut_94 : decode cX5_readNut 94 = .ok (.iconst 1, 1) := by decide +kernel
theorem dX5_readNut_95 : decode cX5_readNut 95 = .ok (.ireturn, 1) := by decide +kernel
theorem dX5_readStrike_0 : decode cX5_readStrike 0 = .ok (.aload_n 0, 1) := by decide +kernel
theorem dX5_readStrike_1 : decode cX5_readStrike 1 = .ok (.iconst 0, 1) := by decide +kernel
theorem dX5_readStrike_2 : decode cX5_readStrike 2 = .ok (.aload_n 1, 1) := by decide +kernel
theorem dX5_readStrike_3 : decode cX5_readStrike 3 = .ok (.getfield 89, 3) := by decide +kernel
theorem dX5_readStrike_6 : decode cX5_readStrike 6 = .ok (.iconst 1, 1) := by decide +kernel
theorem dX5_readStrike_7 : decode cX5_readStrike 7 = .ok (.isub, 1) := by decide +kernel
theorem dX5_readStrike_8 : decode cX5_readStrike 8 = .ok (.invokevirtual 75, 3) := by decide +kernel
theorem dX5_readStrike_11 : decode cX5_readStrike 11 = .ok (.ifCond .ne 5, 3) := by decide +kernel
theorem dX5_readStrike_14 : decode cX5_readStrike 14 = .ok (.iconst 0, 1) := by decide +kernel
theorem dX5_readStrike_15 : decode cX5_readStrike 15 = .ok (.ireturn, 1) := by decide +kernel
theorem dX5_readStrike_16 : decode cX5_readStrike 16 = .ok (.aload_n 0, 1) := by decide +kernel
theorem dX5_readStrike_17 : decode cX5_readStrike 17 = .ok (.getfield 79, 3) := by decide +kernel
theorem dX5_readStrike_20 : decode cX5_readStrike 20 = .ok (.istore_n 2, 1) := by decide +kernel
theorem dX5_readStrike_21 : decode cX5_readStrike 21 = .ok (.aload_n 1, 1) := by decide +kernel
theorem dX5_readStrike_22 : decode cX5_readStrike 22 = .ok (.iload_n 2, 1) := by decide +kernel
theorem dX5_readStrike_23 : decode cX5_readStrike 23 = .ok (.invokevirtual 96, 3) := by decide +kernel
theorem dX5_readStrike_26 : decode cX5_readStrike 26 = .ok (.ifCond .eq 8, 3) := by decide +kernel
theorem dX5_readStrike_29 : decode cX5_readStrike 29 = .ok (.aload_n 0, 1) := by decide +kernel
theorem dX5_readStrike_30 : decode cX5_readStrike 30 = .ok (.invokevirtual 41, 3) := by decide +kernel
theorem dX5_readStrike_33 : decode cX5_readStrike 33 = .ok (.ireturn, 1) := by decide +kernel
theorem dX5_readStrike_34 : decode cX5_readStrike 34 = .ok (.aload_n 0, 1) := by decide +kernel
theorem dX5_readStrike_35 : decode cX5_readStrike 35 = .ok (.iconst 0, 1) := by decide +kernel
theorem dX5_readStrike_36 : decode cX5_readStrike 36 = .ok (.aload_n 1, 1) := by decide +kernel
theorem dX5_readStrike_37 : decode cX5_readStrike 37 = .ok (.getfield 89, 3) := by decide +kernel
theorem dX5_readStrike_40 : decode cX5_readStrike 40 = .ok (.iconst 1, 1) := by decide +kernel
theorem dX5_readStrike_41 : decode cX5_readStrike 41 = .ok (.isub, 1) := by decide +kernel
theorem dX5_readStrike_42 : decode cX5_readStrike 42 = .ok (.invokevirtual 75, 3) := by decide +kernel
theorem dX5_readStrike_45 : decode cX5_readStrike 45 = .ok (.ifCond .ne 5, 3) := by decide +kernel
theorem dX5_readStrike_48 : decode cX5_readStrike 48 = .ok (.iconst 0, 1) := by decide +kernel
theorem dX5_readStrike_49 : decode cX5_readStrike 49 = .ok (.ireturn, 1) := by decide +kernel
theorem dX5_readStrike_50 : decode cX5_readStrike 50 = .ok (.aload_n 1, 1) := by decide +kernel
theorem dX5_readStrike_51 : decode cX5_readStrike 51 = .ok (.iload_n 2, 1) := by decide +kernel
theorem dX5_readStrike_52 : decode cX5_readStrike 52 = .ok (.aload_n 0, 1) := by decide +kernel
theorem dX5_readStrike_53 : decode cX5_readStrike 53 = .ok (.getfield 79, 3) := by decide +kernel
theorem dX5_readStrike_56 : decode cX5_readStrike 56 = .ok (.invokevirtual 100, 3) := by decide +kernel
theorem dX5_readStrike_59 : decode cX5_readStrike 59 = .ok (.ifCond .ne 10, 3) := by decide +kernel
theorem dX5_readStrike_62 : decode cX5_readStrike 62 = .ok (.aload_n 0, 1) := by decide +kernel
theorem dX5_readStrike_63 : decode cX5_readStrike 63 = .ok (.invokevirtual 41, 3) := by decide +kernel
theorem dX5_readStrike_66 : decode cX5_readStrike 66 = .ok (.ifCond .eq 7, 3) := by decide +kernel
theorem dX5_readStrike_69 : decode cX5_readStrike 69 = .ok (.iconst 1, 1) := by decide +kernel
theorem dX5_readStrike_70 : decode cX5_readStrike 70 = .ok (.goto 4, 3) := by decide +kernel
theorem dX5_readStrike_73 : decode cX5_readStrike 73 = .ok (.iconst 0, 1) := by decide +kernel
theorem dX5_readStrike_74 : decode cX5_readStrike 74 = .ok (.ireturn, 1) := by decide +kernel
theorem dX5_readWait_0 : decode cX5_readWait 0 = .ok (.aload_n 0, 1) := by decide +kernel
theorem dX5_readWait_1 : decode cX5_readWait 1 = .ok (.iconst 1, 1) := by decide +kernel
theorem dX5_readWait_2 : decode cX5_readWait 2 = .ok (.bipush 99, 2) := by decide +kernel
theorem dX5_readWait_4 : decode cX5_readWait 4 = .ok (.invokevirtual 75, 3) := by decide +kernel
theorem dX5_readWait_7 : decode cX5_readWait 7 = .ok (.ifCond .ne 5, 3) := by decide +kernel
theorem dX5_readWait_10 : decode cX5_readWait 10 = .ok (.iconst 0, 1) := by decide +kernel
theorem dX5_readWait_11 : decode cX5_readWait 11 = .ok (.ireturn, 1) := by decide +kernel
theorem dX5_readWait_12 : decode cX5_readWait 12 = .ok (.aload_n 1, 1) := by decide +kernel
theorem dX5_readWait_13 : decode cX5_readWait 13 = .ok (.aload_n 0, 1) := by decide +kernel
theorem dX5_readWait_14 : decode cX5_readWait 14 = .ok (.getfield 79, 3) := by decide +kernel
theorem dX5_readWait_17 : decode cX5_readWait 17 = .ok (.invokevirtual 102, 3) := by decide +kernel
theorem dX5_readWait_20 : decode cX5_readWait 20 = .ok (.iconst 1, 1) := by decide +kernel
theorem dX5_readWait_21 : decode cX5_readWait 21 = .ok (.ireturn, 1) := by decide +kernel
theorem dX5_take_0 : decode cX5_take 0 = .ok (.aload_n 0, 1) := by decide +kernel
theorem dX5_take_1 : decode cX5_take 1 = .ok (.invokevirtual 31, 3) := by decide +kernel
theorem dX5_take_4 : decode cX5_take 4 = .ok (.aload_n 0, 1) := by decide +kernel
theorem dX5_take_5 : decode cX5_take 5 = .ok (.getfield 34, 3) := by decide +kernel
theorem dX5_take_8 : decode cX5_take 8 = .ok (.iconst 2, 1) := by decide +kernel
theorem dX5_take_9 : decode cX5_take 9 = .ok (.if_icmp .ne 15, 3) := by decide +kernel
theorem dX5_take_12 : decode cX5_take 12 = .ok (.aload_n 0, 1) := by decide +kernel
theorem dX5_take_13 : decode cX5_take 13 = .ok (.getfield 79, 3) := by decide +kernel
theorem dX5_take_16 : decode cX5_take 16 = .ok (.iload_n 1, 1) := by decide +kernel
theorem dX5_take_17 : decode cX5_take 17 = .ok (.iload_n 2, 1) := by decide +kernel
theorem dX5_take_18 : decode cX5_take 18 = .ok (.invokestatic 105, 3) := by decide +kernel
theorem dX5_take_21 : decode cX5_take 21 = .ok (.ifCond .ne 10, 3) := by decide +kernel
theorem dX5_take_24 : decode cX5_take 24 = .ok (.aload_n 0, 1) := by decide +kernel
theorem dX5_take_25 : decode cX5_take 25 = .ok (.invokevirtual 41, 3) := by decide +kernel
theorem dX5_take_28 : decode cX5_take 28 = .ok (.ifCond .eq 7, 3) := by decide +kernel
theorem dX5_take_31 : decode cX5_take 31 = .ok (.iconst 1, 1) := by decide +kernel
theorem dX5_take_32 : decode cX5_take 32 = .ok (.goto 4, 3) := by decide +kernel
theorem dX5_take_35 : decode cX5_take 35 = .ok (.iconst 0, 1) := by decide +kernel
theorem dX5_take_36 : decode cX5_take 36 = .ok (.ireturn, 1) := by decide +kernel
theorem dX5_faultHere_0 : decode cX5_faultHere 0 = .ok (.aload_n 0, 1) := by decide +kernel
theorem dX5_faultHere_1 : decode cX5_faultHere 1 = .ok (.aload_n 0, 1) := by decide +kernel
theorem dX5_faultHere_2 : decode cX5_faultHere 2 = .ok (.getfield 34, 3) := by decide +kernel
theorem dX5_faultHere_5 : decode cX5_faultHere 5 = .ok (.ifCond .ne 10, 3) := by decide +kernel
theorem dX5_faultHere_8 : decode cX5_faultHere 8 = .ok (.aload_n 0, 1) := by decide +kernel
theorem dX5_faultHere_9 : decode cX5_faultHere 9 = .ok (.getfield 15, 3) := by decide +kernel
theorem dX5_faultHere_12 : decode cX5_faultHere 12 = .ok (.goto 7, 3) := by decide +kernel
theorem dX5_faultHere_15 : decode cX5_faultHere 15 = .ok (.aload_n 0, 1) := by decide +kernel
theorem dX5_faultHere_16 : decode cX5_faultHere 16 = .ok (.getfield 109, 3) := by decide +kernel
theorem dX5_faultHere_19 : decode cX5_faultHere 19 = .ok (.putfield 25, 3) := by decide +kernel
theorem dX5_faultHere_22 : decode cX5_faultHere 22 = .ok (.iconst 0, 1) := by decide +kernel
theorem dX5_faultHere_23 : decode cX5_faultHere 23 = .ok (.ireturn, 1) := by decide +kernel
theorem dX5_nextToken_0 : decode cX5_nextToken 0 = .ok (.aload_n 0, 1) := by decide +kernel
theorem dX5_nextToken_1 : decode cX5_nextToken 1 = .ok (.aload_n 0, 1) := by decide +kernel
theorem dX5_nextToken_2 : decode cX5_nextToken 2 = .ok (.getfield 28, 3) := by decide +kernel
theorem dX5_nextToken_5 : decode cX5_nextToken 5 = .ok (.putfield 109, 3) := by decide +kernel
theorem dX5_nextToken_8 : decode cX5_nextToken 8 = .ok (.aload_n 0, 1) := by decide +kernel
theorem dX5_nextToken_9 : decode cX5_nextToken 9 = .ok (.getfield 109, 3) := by decide +kernel
theorem dX5_nextToken_12 : decode cX5_nextToken 12 = .ok (.aload_n 0, 1) := by decide +kernel
theorem dX5_nextToken_13 : decode cX5_nextToken 13 = .ok (.getfield 15, 3) := by decide +kernel
theorem dX5_nextToken_16 : decode cX5_nextToken 16 = .ok (.if_icmp .ge 29, 3) := by decide +kernel
theorem dX5_nextToken_19 : decode cX5_nextToken 19 = .ok (.aload_n 0, 1) := by decide +kernel
theorem dX5_nextToken_20 : decode cX5_nextToken 20 = .ok (.aload_n 0, 1) := by decide +kernel
theorem dX5_nextToken_21 : decode cX5_nextToken 21 = .ok (.getfield 109, 3) := by decide +kernel
theorem dX5_nextToken_24 : decode cX5_nextToken 24 = .ok (.invokevirtual 112, 3) := by decide +kernel
theorem dX5_nextToken_27 : decode cX5_nextToken 27 = .ok (.bipush 32, 2) := by decide +kernel
theorem dX5_nextToken_29 : decode cX5_nextToken 29 = .ok (.if_icmp .ne 16, 3) := by decide +kernel
theorem dX5_nextToken_32 : decode cX5_nextToken 32 = .ok (.aload_n 0, 1) := by decide +kernel
theorem dX5_nextToken_33 : decode cX5_nextToken 33 = .ok (.dup, 1) := by decide +kernel
theorem dX5_nextToken_34 : decode cX5_nextToken 34 = .ok (.getfield 109, 3) := by decide +kernel
theorem dX5_nextToken_37 : decode cX5_nextToken 37 = .ok (.iconst 1, 1) := by decide +kernel
theorem dX5_nextToken_38 : decode cX5_nextToken 38 = .ok (.iadd, 1) := by decide +kernel
theorem dX5_nextToken_39 : decode cX5_nextToken 39 = .ok (.putfield 109, 3) := by decide +kernel
theorem dX5_nextToken_42 : decode cX5_nextToken 42 = .ok (.goto (-34), 3) := by decide +kernel
theorem dX5_nextToken_45 : decode cX5_nextToken 45 = .ok (.aload_n 0, 1) := by decide +kernel
theorem dX5_nextToken_46 : decode cX5_nextToken 46 = .ok (.aload_n 0, 1) := by decide +kernel
theorem dX5_nextToken_47 : decode cX5_nextToken 47 = .ok (.getfield 109, 3) := by decide +kernel
theorem dX5_nextToken_50 : decode cX5_nextToken 50 = .ok (.iconst 1, 1) := by decide +kernel
theorem dX5_nextToken_51 : decode cX5_nextToken 51 = .ok (.iadd, 1) := by decide +kernel
theorem dX5_nextToken_52 : decode cX5_nextToken 52 = .ok (.putfield 28, 3) := by decide +kernel
theorem dX5_nextToken_55 : decode cX5_nextToken 55 = .ok (.aload_n 0, 1) := by decide +kernel
theorem dX5_nextToken_56 : decode cX5_nextToken 56 = .ok (.aload_n 0, 1) := by decide +kernel
theorem dX5_nextToken_57 : decode cX5_nextToken 57 = .ok (.getfield 109, 3) := by decide +kernel
theorem dX5_nextToken_60 : decode cX5_nextToken 60 = .ok (.invokevirtual 112, 3) := by decide +kernel
theorem dX5_nextToken_63 : decode cX5_nextToken 63 = .ok (.istore_n 1, 1) := by decide +kernel
theorem dX5_nextToken_64 : decode cX5_nextToken 64 = .ok (.aload_n 0, 1) := by decide +kernel
theorem dX5_nextToken_65 : decode cX5_nextToken 65 = .ok (.getfield 109, 3) := by decide +kernel
theorem dX5_nextToken_68 : decode cX5_nextToken 68 = .ok (.aload_n 0, 1) := by decide +kernel
theorem dX5_nextToken_69 : decode cX5_nextToken 69 = .ok (.getfield 15, 3) := by decide +kernel
theorem dX5_nextToken_72 : decode cX5_nextToken 72 = .ok (.if_icmp .lt 11, 3) := by decide +kernel
theorem dX5_nextToken_75 : decode cX5_nextToken 75 = .ok (.aload_n 0, 1) := by decide +kernel
theorem dX5_nextToken_76 : decode cX5_nextToken 76 = .ok (.iconst 0, 1) := by decide +kernel
theorem dX5_nextToken_77 : decode cX5_nextToken 77 = .ok (.putfield 34, 3) := by decide +kernel
theorem dX5_nextToken_80 : decode cX5_nextToken 80 = .ok (.goto 46, 3) := by decide +kernel
theorem dX5_nextToken_83 : decode cX5_nextToken 83 = .ok (.iload_n 1, 1) := by decide +kernel
theorem dX5_nextToken_84 : decode cX5_nextToken 84 = .ok (.invokestatic 116, 3) := by decide +kernel
theorem dX5_nextToken_87 : decode cX5_nextToken 87 = .ok (.ifCond .eq 10, 3) := by decide +kernel
theorem dX5_nextToken_90 : decode cX5_nextToken 90 = .ok (.aload_n 0, 1) := by decide +kernel
theorem dX5_nextToken_91 : decode cX5_nextToken 91 = .ok (.invokevirtual 119, 3) := by decide +kernel
theorem dX5_nextToken_94 : decode cX5_nextToken 94 = .ok (.goto 32, 3) := by decide +kernel
theorem dX5_nextToken_97 : decode cX5_nextToken 97 = .ok (.iload_n 1, 1) := by decide +kernel
theorem dX5_nextToken_98 : decode cX5_nextToken 98 = .ok (.invokestatic 122, 3) := by decide +kernel
theorem dX5_nextToken_101 : decode cX5_nextToken 101 = .ok (.ifCond .eq 10, 3) := by decide +kernel
theorem dX5_nextToken_104 : decode cX5_nextToken 104 = .ok (.aload_n 0, 1) := by decide +kernel
theorem dX5_nextToken_105 : decode cX5_nextToken 105 = .ok (.invokevirtual 125, 3) := by decide +kernel
theorem dX5_nextToken_108 : decode cX5_nextToken 108 = .ok (.goto 18, 3) := by decide +kernel
theorem dX5_nextToken_111 : decode cX5_nextToken 111 = .ok (.aload_n 0, 1) := by decide +kernel
theorem dX5_nextToken_112 : decode cX5_nextToken 112 = .ok (.iload_n 1, 1) := by decide +kernel
theorem dX5_nextToken_113 : decode cX5_nextToken 113 = .ok (.bipush 59, 2) := by decide +kernel
theorem dX5_nextToken_115 : decode cX5_nextToken 115 = .ok (.if_icmp .ne 7, 3) := by decide +kernel
theorem dX5_nextToken_118 : decode cX5_nextToken 118 = .ok (.iconst 3, 1) := by decide +kernel
theorem dX5_nextToken_119 : decode cX5_nextToken 119 = .ok (.goto 4, 3) := by decide +kernel
theorem dX5_nextToken_122 : decode cX5_nextToken 122 = .ok (.iconst 4, 1) := by decide +kernel
theorem dX5_nextToken_123 : decode cX5_nextToken 123 = .ok (.putfield 34, 3) := by decide +kernel
theorem dX5_nextToken_126 : decode cX5_nextToken 126 = .ok (.return_, 1) := by decide +kernel
theorem dX5_endWord_0 : decode cX5_endWord 0 = .ok (.aload_n 0, 1) := by decide +kernel
theorem dX5_endWord_1 : decode cX5_endWord 1 = .ok (.iconst 1, 1) := by decide +kernel
theorem dX5_endWord_2 : decode cX5_endWord 2 = .ok (.putfield 34, 3) := by decide +kernel
theorem dX5_endWord_5 : decode cX5_endWord 5 = .ok (.aload_n 0, 1) := by decide +kernel
theorem dX5_endWord_6 : decode cX5_endWord 6 = .ok (.getfield 28, 3) := by decide +kernel
theorem dX5_endWord_9 : decode cX5_endWord 9 = .ok (.aload_n 0, 1) := by decide +kernel
theorem dX5_endWord_10 : decode cX5_endWord 10 = .ok (.getfield 15, 3) := by decide +kernel
theorem dX5_endWord_13 : decode cX5_endWord 13 = .ok (.if_icmp .ge 30, 3) := by decide +kernel
theorem dX5_endWord_16 : decode cX5_endWord 16 = .ok (.aload_n 0, 1) := by decide +kernel
theorem dX5_endWord_17 : decode cX5_endWord 17 = .ok (.aload_n 0, 1) := by decide +kernel
theorem dX5_endWord_18 : decode cX5_endWord 18 = .ok (.getfield 28, 3) := by decide +kernel
theorem dX5_endWord_21 : decode cX5_endWord 21 = .ok (.invokevirtual 112, 3) := by decide +kernel
theorem dX5_endWord_24 : decode cX5_endWord 24 = .ok (.invokestatic 116, 3) := by decide +kernel
theorem dX5_endWord_27 : decode cX5_endWord 27 = .ok (.ifCond .eq 16, 3) := by decide +kernel
theorem dX5_endWord_30 : decode cX5_endWord 30 = .ok (.aload_n 0, 1) := by decide +kernel
theorem dX5_endWord_31 : decode cX5_endWord 31 = .ok (.dup, 1) := by decide +kernel
theorem dX5_endWord_32 : decode cX5_endWord 32 = .ok (.getfield 28, 3) := by decide +kernel
theorem dX5_endWord_35 : decode cX5_endWord 35 = .ok (.iconst 1, 1) := by decide +kernel
theorem dX5_endWord_36 : decode cX5_endWord 36 = .ok (.iadd, 1) := by decide +kernel
theorem dX5_endWord_37 : decode cX5_endWord 37 = .ok (.putfield 28, 3) := by decide +kernel
theorem dX5_endWord_40 : decode cX5_endWord 40 = .ok (.goto (-35), 3) := by decide +kernel
theorem dX5_endWord_43 : decode cX5_endWord 43 = .ok (.return_, 1) := by decide +kernel
theorem dX5_endNumber_0 : decode cX5_endNumber 0 = .ok (.aload_n 0, 1) := by decide +kernel
theorem dX5_endNumber_1 : decode cX5_endNumber 1 = .ok (.getfield 28, 3) := by decide +kernel
theorem dX5_endNumber_4 : decode cX5_endNumber 4 = .ok (.aload_n 0, 1) := by decide +kernel
theorem dX5_endNumber_5 : decode cX5_endNumber 5 = .ok (.getfield 15, 3) := by decide +kernel
theorem dX5_endNumber_8 : decode cX5_endNumber 8 = .ok (.if_icmp .ge 30, 3) := by decide +kernel
theorem dX5_endNumber_11 : decode cX5_endNumber 11 = .ok (.aload_n 0, 1) := by decide +kernel
theorem dX5_endNumber_12 : decode cX5_endNumber 12 = .ok (.aload_n 0, 1) := by decide +kernel
theorem dX5_endNumber_13 : decode cX5_endNumber 13 = .ok (.getfield 28, 3) := by decide +kernel
theorem dX5_endNumber_16 : decode cX5_endNumber 16 = .ok (.invokevirtual 112, 3) := by decide +kernel
theorem dX5_endNumber_19 : decode cX5_endNumber 19 = .ok (.invokestatic 122, 3) := by decide +kernel
theorem dX5_endNumber_22 : decode cX5_endNumber 22 = .ok (.ifCond .eq 16, 3) := by decide +kernel
theorem dX5_endNumber_25 : decode cX5_endNumber 25 = .ok (.aload_n 0, 1) := by decide +kernel
theorem dX5_endNumber_26 : decode cX5_endNumber 26 = .ok (.dup, 1) := by decide +kernel
theorem dX5_endNumber_27 : decode cX5_endNumber 27 = .ok (.getfield 28, 3) := by decide +kernel
theorem dX5_endNumber_30 : decode cX5_endNumber 30 = .ok (.iconst 1, 1) := by decide +kernel
theorem dX5_endNumber_31 : decode cX5_endNumber 31 = .ok (.iadd, 1) := by decide +kernel

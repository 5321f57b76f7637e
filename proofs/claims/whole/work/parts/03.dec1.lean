theorem dX5_init_0 : decode cX5_init 0 = .ok (.aload_n 0, 1) := by decide +kernel
theorem dX5_init_1 : decode cX5_init 1 = .ok (.invokespecial 3, 3) := by decide +kernel
theorem dX5_init_4 : decode cX5_init 4 = .ok (.aload_n 0, 1) := by decide +kernel
theorem dX5_init_5 : decode cX5_init 5 = .ok (.sipush 256, 3) := by decide +kernel
theorem dX5_init_8 : decode cX5_init 8 = .ok (.newarray .int, 2) := by decide +kernel
theorem dX5_init_10 : decode cX5_init 10 = .ok (.putfield 11, 3) := by decide +kernel
theorem dX5_init_13 : decode cX5_init 13 = .ok (.aload_n 0, 1) := by decide +kernel
theorem dX5_init_14 : decode cX5_init 14 = .ok (.sipush 256, 3) := by decide +kernel
theorem dX5_init_17 : decode cX5_init 17 = .ok (.newarray .int, 2) := by decide +kernel
theorem dX5_init_19 : decode cX5_init 19 = .ok (.putfield 15, 3) := by decide +kernel
theorem dX5_init_22 : decode cX5_init 22 = .ok (.aload_n 0, 1) := by decide +kernel
theorem dX5_init_23 : decode cX5_init 23 = .ok (.sipush 256, 3) := by decide +kernel
theorem dX5_init_26 : decode cX5_init 26 = .ok (.newarray .int, 2) := by decide +kernel
theorem dX5_init_28 : decode cX5_init 28 = .ok (.putfield 18, 3) := by decide +kernel
theorem dX5_init_31 : decode cX5_init 31 = .ok (.aload_n 0, 1) := by decide +kernel
theorem dX5_init_32 : decode cX5_init 32 = .ok (.iconst 0, 1) := by decide +kernel
theorem dX5_init_33 : decode cX5_init 33 = .ok (.putfield 21, 3) := by decide +kernel
theorem dX5_init_36 : decode cX5_init 36 = .ok (.aload_n 0, 1) := by decide +kernel
theorem dX5_init_37 : decode cX5_init 37 = .ok (.aload_n 1, 1) := by decide +kernel
theorem dX5_init_38 : decode cX5_init 38 = .ok (.putfield 25, 3) := by decide +kernel
theorem dX5_init_41 : decode cX5_init 41 = .ok (.return_, 1) := by decide +kernel
theorem dX5_solve_0 : decode cX5_solve 0 = .ok (.aload_n 0, 1) := by decide +kernel
theorem dX5_solve_1 : decode cX5_solve 1 = .ok (.iload_n 1, 1) := by decide +kernel
theorem dX5_solve_2 : decode cX5_solve 2 = .ok (.invokevirtual 29, 3) := by decide +kernel
theorem dX5_solve_5 : decode cX5_solve 5 = .ok (.ifCond .ne 6, 3) := by decide +kernel
theorem dX5_solve_8 : decode cX5_solve 8 = .ok (.bipush (-3), 2) := by decide +kernel
theorem dX5_solve_10 : decode cX5_solve 10 = .ok (.ireturn, 1) := by decide +kernel
theorem dX5_solve_11 : decode cX5_solve 11 = .ok (.aload_n 0, 1) := by decide +kernel
theorem dX5_solve_12 : decode cX5_solve 12 = .ok (.iload_n 1, 1) := by decide +kernel
theorem dX5_solve_13 : decode cX5_solve 13 = .ok (.iload_n 2, 1) := by decide +kernel
theorem dX5_solve_14 : decode cX5_solve 14 = .ok (.invokevirtual 33, 3) := by decide +kernel
theorem dX5_solve_17 : decode cX5_solve 17 = .ok (.istore 4, 2) := by decide +kernel
theorem dX5_solve_19 : decode cX5_solve 19 = .ok (.iload 4, 2) := by decide +kernel
theorem dX5_solve_21 : decode cX5_solve 21 = .ok (.ifCond .ge 6, 3) := by decide +kernel
theorem dX5_solve_24 : decode cX5_solve 24 = .ok (.bipush (-2), 2) := by decide +kernel
theorem dX5_solve_26 : decode cX5_solve 26 = .ok (.ireturn, 1) := by decide +kernel
theorem dX5_solve_27 : decode cX5_solve 27 = .ok (.iload_n 3, 1) := by decide +kernel
theorem dX5_solve_28 : decode cX5_solve 28 = .ok (.ifCond .ne 13, 3) := by decide +kernel
theorem dX5_solve_31 : decode cX5_solve 31 = .ok (.aload_n 0, 1) := by decide +kernel
theorem dX5_solve_32 : decode cX5_solve 32 = .ok (.getfield 15, 3) := by decide +kernel
theorem dX5_solve_35 : decode cX5_solve 35 = .ok (.iload 4, 2) := by decide +kernel
theorem dX5_solve_37 : decode cX5_solve 37 = .ok (.iaload, 1) := by decide +kernel
theorem dX5_solve_38 : decode cX5_solve 38 = .ok (.goto 10, 3) := by decide +kernel
theorem dX5_solve_41 : decode cX5_solve 41 = .ok (.aload_n 0, 1) := by decide +kernel
theorem dX5_solve_42 : decode cX5_solve 42 = .ok (.getfield 18, 3) := by decide +kernel
theorem dX5_solve_45 : decode cX5_solve 45 = .ok (.iload 4, 2) := by decide +kernel
theorem dX5_solve_47 : decode cX5_solve 47 = .ok (.iaload, 1) := by decide +kernel
theorem dX5_solve_48 : decode cX5_solve 48 = .ok (.ireturn, 1) := by decide +kernel
theorem dX5_isSound_0 : decode cX5_isSound 0 = .ok (.iconst 0, 1) := by decide +kernel
theorem dX5_isSound_1 : decode cX5_isSound 1 = .ok (.istore_n 2, 1) := by decide +kernel
theorem dX5_isSound_2 : decode cX5_isSound 2 = .ok (.iload_n 2, 1) := by decide +kernel
theorem dX5_isSound_3 : decode cX5_isSound 3 = .ok (.iload_n 1, 1) := by decide +kernel
theorem dX5_isSound_4 : decode cX5_isSound 4 = .ok (.if_icmp .ge 49, 3) := by decide +kernel
theorem dX5_isSound_7 : decode cX5_isSound 7 = .ok (.aload_n 0, 1) := by decide +kernel
theorem dX5_isSound_8 : decode cX5_isSound 8 = .ok (.getfield 25, 3) := by decide +kernel
theorem dX5_isSound_11 : decode cX5_isSound 11 = .ok (.iconst 2, 1) := by decide +kernel
theorem dX5_isSound_12 : decode cX5_isSound 12 = .ok (.iload_n 2, 1) := by decide +kernel
theorem dX5_isSound_13 : decode cX5_isSound 13 = .ok (.imul, 1) := by decide +kernel
theorem dX5_isSound_14 : decode cX5_isSound 14 = .ok (.invokevirtual 37, 3) := by decide +kernel
theorem dX5_isSound_17 : decode cX5_isSound 17 = .ok (.aload_n 0, 1) := by decide +kernel
theorem dX5_isSound_18 : decode cX5_isSound 18 = .ok (.getfield 25, 3) := by decide +kernel
theorem dX5_isSound_21 : decode cX5_isSound 21 = .ok (.iconst 2, 1) := by decide +kernel
theorem dX5_isSound_22 : decode cX5_isSound 22 = .ok (.iload_n 2, 1) := by decide +kernel
theorem dX5_isSound_23 : decode cX5_isSound 23 = .ok (.imul, 1) := by decide +kernel
theorem dX5_isSound_24 : decode cX5_isSound 24 = .ok (.iconst 1, 1) := by decide +kernel
theorem dX5_isSound_25 : decode cX5_isSound 25 = .ok (.iadd, 1) := by decide +kernel
theorem dX5_isSound_26 : decode cX5_isSound 26 = .ok (.invokevirtual 37, 3) := by decide +kernel
theorem dX5_isSound_29 : decode cX5_isSound 29 = .ok (.ior, 1) := by decide +kernel
theorem dX5_isSound_30 : decode cX5_isSound 30 = .ok (.istore_n 3, 1) := by decide +kernel
theorem dX5_isSound_31 : decode cX5_isSound 31 = .ok (.iload_n 3, 1) := by decide +kernel
theorem dX5_isSound_32 : decode cX5_isSound 32 = .ok (.iload_n 1, 1) := by decide +kernel
theorem dX5_isSound_33 : decode cX5_isSound 33 = .ok (.ishr, 1) := by decide +kernel
theorem dX5_isSound_34 : decode cX5_isSound 34 = .ok (.ifCond .ne 11, 3) := by decide +kernel
theorem dX5_isSound_37 : decode cX5_isSound 37 = .ok (.iload_n 3, 1) := by decide +kernel
theorem dX5_isSound_38 : decode cX5_isSound 38 = .ok (.iload_n 2, 1) := by decide +kernel
theorem dX5_isSound_39 : decode cX5_isSound 39 = .ok (.ishr, 1) := by decide +kernel
theorem dX5_isSound_40 : decode cX5_isSound 40 = .ok (.iconst 1, 1) := by decide +kernel
theorem dX5_isSound_41 : decode cX5_isSound 41 = .ok (.iand, 1) := by decide +kernel
theorem dX5_isSound_42 : decode cX5_isSound 42 = .ok (.ifCond .eq 5, 3) := by decide +kernel
theorem dX5_isSound_45 : decode cX5_isSound 45 = .ok (.iconst 0, 1) := by decide +kernel
theorem dX5_isSound_46 : decode cX5_isSound 46 = .ok (.ireturn, 1) := by decide +kernel
theorem dX5_isSound_47 : decode cX5_isSound 47 = .ok (.iinc 2 1, 3) := by decide +kernel
theorem dX5_isSound_50 : decode cX5_isSound 50 = .ok (.goto (-48), 3) := by decide +kernel
theorem dX5_isSound_53 : decode cX5_isSound 53 = .ok (.iconst 1, 1) := by decide +kernel
theorem dX5_isSound_54 : decode cX5_isSound 54 = .ok (.ireturn, 1) := by decide +kernel
theorem dX5_walk_0 : decode cX5_walk 0 = .ok (.aload_n 0, 1) := by decide +kernel
theorem dX5_walk_1 : decode cX5_walk 1 = .ok (.getfield 15, 3) := by decide +kernel
theorem dX5_walk_4 : decode cX5_walk 4 = .ok (.iconst (-1), 1) := by decide +kernel
theorem dX5_walk_5 : decode cX5_walk 5 = .ok (.invokestatic 43, 3) := by decide +kernel
theorem dX5_walk_8 : decode cX5_walk 8 = .ok (.aload_n 0, 1) := by decide +kernel
theorem dX5_walk_9 : decode cX5_walk 9 = .ok (.getfield 15, 3) := by decide +kernel
theorem dX5_walk_12 : decode cX5_walk 12 = .ok (.iconst 0, 1) := by decide +kernel
theorem dX5_walk_13 : decode cX5_walk 13 = .ok (.iconst 0, 1) := by decide +kernel
theorem dX5_walk_14 : decode cX5_walk 14 = .ok (.iastore, 1) := by decide +kernel
theorem dX5_walk_15 : decode cX5_walk 15 = .ok (.aload_n 0, 1) := by decide +kernel
theorem dX5_walk_16 : decode cX5_walk 16 = .ok (.getfield 11, 3) := by decide +kernel
theorem dX5_walk_19 : decode cX5_walk 19 = .ok (.iconst 0, 1) := by decide +kernel
theorem dX5_walk_20 : decode cX5_walk 20 = .ok (.iconst 0, 1) := by decide +kernel
theorem dX5_walk_21 : decode cX5_walk 21 = .ok (.iastore, 1) := by decide +kernel
theorem dX5_walk_22 : decode cX5_walk 22 = .ok (.aload_n 0, 1) := by decide +kernel
theorem dX5_walk_23 : decode cX5_walk 23 = .ok (.iconst 1, 1) := by decide +kernel
theorem dX5_walk_24 : decode cX5_walk 24 = .ok (.putfield 21, 3) := by decide +kernel
theorem dX5_walk_27 : decode cX5_walk 27 = .ok (.iconst 0, 1) := by decide +kernel
theorem dX5_walk_28 : decode cX5_walk 28 = .ok (.istore_n 3, 1) := by decide +kernel
theorem dX5_walk_29 : decode cX5_walk 29 = .ok (.iload_n 3, 1) := by decide +kernel
theorem dX5_walk_30 : decode cX5_walk 30 = .ok (.aload_n 0, 1) := by decide +kernel
theorem dX5_walk_31 : decode cX5_walk 31 = .ok (.getfield 21, 3) := by decide +kernel
theorem dX5_walk_34 : decode cX5_walk 34 = .ok (.if_icmp .ge 70, 3) := by decide +kernel
theorem dX5_walk_37 : decode cX5_walk 37 = .ok (.iload_n 3, 1) := by decide +kernel
theorem dX5_walk_38 : decode cX5_walk 38 = .ok (.sipush 256, 3) := by decide +kernel
theorem dX5_walk_41 : decode cX5_walk 41 = .ok (.if_icmp .ge 63, 3) := by decide +kernel
theorem dX5_walk_44 : decode cX5_walk 44 = .ok (.aload_n 0, 1) := by decide +kernel
theorem dX5_walk_45 : decode cX5_walk 45 = .ok (.getfield 11, 3) := by decide +kernel
theorem dX5_walk_48 : decode cX5_walk 48 = .ok (.iload_n 3, 1) := by decide +kernel
theorem dX5_walk_49 : decode cX5_walk 49 = .ok (.iaload, 1) := by decide +kernel
theorem dX5_walk_50 : decode cX5_walk 50 = .ok (.istore 4, 2) := by decide +kernel
theorem dX5_walk_52 : decode cX5_walk 52 = .ok (.iload 4, 2) := by decide +kernel
theorem dX5_walk_54 : decode cX5_walk 54 = .ok (.iload_n 2, 1) := by decide +kernel
theorem dX5_walk_55 : decode cX5_walk 55 = .ok (.ishr, 1) := by decide +kernel
theorem dX5_walk_56 : decode cX5_walk 56 = .ok (.iconst 1, 1) := by decide +kernel
theorem dX5_walk_57 : decode cX5_walk 57 = .ok (.iand, 1) := by decide +kernel
theorem dX5_walk_58 : decode cX5_walk 58 = .ok (.ifCond .eq 6, 3) := by decide +kernel
theorem dX5_walk_61 : decode cX5_walk 61 = .ok (.iload 4, 2) := by decide +kernel
theorem dX5_walk_63 : decode cX5_walk 63 = .ok (.ireturn, 1) := by decide +kernel
theorem dX5_walk_64 : decode cX5_walk 64 = .ok (.iconst 0, 1) := by decide +kernel
theorem dX5_walk_65 : decode cX5_walk 65 = .ok (.istore 5, 2) := by decide +kernel
theorem dX5_walk_67 : decode cX5_walk 67 = .ok (.iload 5, 2) := by decide +kernel
theorem dX5_walk_69 : decode cX5_walk 69 = .ok (.iload_n 1, 1) := by decide +kernel
theorem dX5_walk_70 : decode cX5_walk 70 = .ok (.if_icmp .ge 28, 3) := by decide +kernel
theorem dX5_walk_73 : decode cX5_walk 73 = .ok (.aload_n 0, 1) := by decide +kernel
theorem dX5_walk_74 : decode cX5_walk 74 = .ok (.iload 4, 2) := by decide +kernel
theorem dX5_walk_76 : decode cX5_walk 76 = .ok (.iload 5, 2) := by decide +kernel
theorem dX5_walk_78 : decode cX5_walk 78 = .ok (.invokevirtual 49, 3) := by decide +kernel
theorem dX5_walk_81 : decode cX5_walk 81 = .ok (.ifCond .eq 11, 3) := by decide +kernel
theorem dX5_walk_84 : decode cX5_walk 84 = .ok (.aload_n 0, 1) := by decide +kernel
theorem dX5_walk_85 : decode cX5_walk 85 = .ok (.iload 4, 2) := by decide +kernel
theorem dX5_walk_87 : decode cX5_walk 87 = .ok (.iload 5, 2) := by decide +kernel
theorem dX5_walk_89 : decode cX5_walk 89 = .ok (.invokevirtual 53, 3) := by decide +kernel
theorem dX5_walk_92 : decode cX5_walk 92 = .ok (.iinc 5 1, 3) := by decide +kernel
theorem dX5_walk_95 : decode cX5_walk 95 = .ok (.goto (-28), 3) := by decide +kernel
theorem dX5_walk_98 : decode cX5_walk 98 = .ok (.iinc 3 1, 3) := by decide +kernel
theorem dX5_walk_101 : decode cX5_walk 101 = .ok (.goto (-72), 3) := by decide +kernel
theorem dX5_walk_104 : decode cX5_walk 104 = .ok (.iconst (-1), 1) := by decide +kernel
theorem dX5_walk_105 : decode cX5_walk 105 = .ok (.ireturn, 1) := by decide +kernel
theorem dX5_canMove_0 : decode cX5_canMove 0 = .ok (.aload_n 0, 1) := by decide +kernel
theorem dX5_canMove_1 : decode cX5_canMove 1 = .ok (.getfield 25, 3) := by decide +kernel
theorem dX5_canMove_4 : decode cX5_canMove 4 = .ok (.iconst 2, 1) := by decide +kernel
theorem dX5_canMove_5 : decode cX5_canMove 5 = .ok (.iload_n 2, 1) := by decide +kernel
theorem dX5_canMove_6 : decode cX5_canMove 6 = .ok (.imul, 1) := by decide +kernel
theorem dX5_canMove_7 : decode cX5_canMove 7 = .ok (.invokevirtual 37, 3) := by decide +kernel
theorem dX5_canMove_10 : decode cX5_canMove 10 = .ok (.istore_n 3, 1) := by decide +kernel
theorem dX5_canMove_11 : decode cX5_canMove 11 = .ok (.aload_n 0, 1) := by decide +kernel
theorem dX5_canMove_12 : decode cX5_canMove 12 = .ok (.getfield 25, 3) := by decide +kernel
theorem dX5_canMove_15 : decode cX5_canMove 15 = .ok (.iconst 2, 1) := by decide +kernel
theorem dX5_canMove_16 : decode cX5_canMove 16 = .ok (.iload_n 2, 1) := by decide +kernel
theorem dX5_canMove_17 : decode cX5_canMove 17 = .ok (.imul, 1) := by decide +kernel
theorem dX5_canMove_18 : decode cX5_canMove 18 = .ok (.iconst 1, 1) := by decide +kernel
theorem dX5_canMove_19 : decode cX5_canMove 19 = .ok (.iadd, 1) := by decide +kernel
theorem dX5_canMove_20 : decode cX5_canMove 20 = .ok (.invokevirtual 37, 3) := by decide +kernel
theorem dX5_canMove_23 : decode cX5_canMove 23 = .ok (.istore 4, 2) := by decide +kernel
theorem dX5_canMove_25 : decode cX5_canMove 25 = .ok (.iload_n 1, 1) := by decide +kernel
theorem dX5_canMove_26 : decode cX5_canMove 26 = .ok (.iload_n 3, 1) := by decide +kernel
theorem dX5_canMove_27 : decode cX5_canMove 27 = .ok (.iand, 1) := by decide +kernel
theorem dX5_canMove_28 : decode cX5_canMove 28 = .ok (.iload_n 3, 1) := by decide +kernel
theorem dX5_canMove_29 : decode cX5_canMove 29 = .ok (.if_icmp .ne 14, 3) := by decide +kernel
theorem dX5_canMove_32 : decode cX5_canMove 32 = .ok (.iload_n 1, 1) := by decide +kernel
theorem dX5_canMove_33 : decode cX5_canMove 33 = .ok (.iload 4, 2) := by decide +kernel
theorem dX5_canMove_35 : decode cX5_canMove 35 = .ok (.iand, 1) := by decide +kernel
theorem dX5_canMove_36 : decode cX5_canMove 36 = .ok (.ifCond .ne 7, 3) := by decide +kernel
theorem dX5_canMove_39 : decode cX5_canMove 39 = .ok (.iconst 1, 1) := by decide +kernel
theorem dX5_canMove_40 : decode cX5_canMove 40 = .ok (.goto 4, 3) := by decide +kernel
theorem dX5_canMove_43 : decode cX5_canMove 43 = .ok (.iconst 0, 1) := by decide +kernel
theorem dX5_canMove_44 : decode cX5_canMove 44 = .ok (.ireturn, 1) := by decide +kernel
theorem dX5_reach_0 : decode cX5_reach 0 = .ok (.iload_n 1, 1) := by decide +kernel
theorem dX5_reach_1 : decode cX5_reach 1 = .ok (.iconst 1, 1) := by decide +kernel
theorem dX5_reach_2 : decode cX5_reach 2 = .ok (.iload_n 2, 1) := by decide +kernel
theorem dX5_reach_3 : decode cX5_reach 3 = .ok (.ishl, 1) := by decide +kernel
theorem dX5_reach_4 : decode cX5_reach 4 = .ok (.ixor, 1) := by decide +kernel
theorem dX5_reach_5 : decode cX5_reach 5 = .ok (.istore_n 3, 1) := by decide +kernel
theorem dX5_reach_6 : decode cX5_reach 6 = .ok (.iload_n 3, 1) := by decide +kernel
theorem dX5_reach_7 : decode cX5_reach 7 = .ok (.ifCond .lt 29, 3) := by decide +kernel
theorem dX5_reach_10 : decode cX5_reach 10 = .ok (.iload_n 3, 1) := by decide +kernel
theorem dX5_reach_11 : decode cX5_reach 11 = .ok (.sipush 256, 3) := by decide +kernel
theorem dX5_reach_14 : decode cX5_reach 14 = .ok (.if_icmp .ge 22, 3) := by decide +kernel
theorem dX5_reach_17 : decode cX5_reach 17 = .ok (.aload_n 0, 1) := by decide +kernel
theorem dX5_reach_18 : decode cX5_reach 18 = .ok (.getfield 21, 3) := by decide +kernel
theorem dX5_reach_21 : decode cX5_reach 21 = .ok (.sipush 256, 3) := by decide +kernel
theorem dX5_reach_24 : decode cX5_reach 24 = .ok (.if_icmp .ge 12, 3) := by decide +kernel
theorem dX5_reach_27 : decode cX5_reach 27 = .ok (.aload_n 0, 1) := by decide +kernel
theorem dX5_reach_28 : decode cX5_reach 28 = .ok (.getfield 15, 3) := by decide +kernel
theorem dX5_reach_31 : decode cX5_reach 31 = .ok (.iload_n 3, 1) := by decide +kernel
theorem dX5_reach_32 : decode cX5_reach 32 = .ok (.iaload, 1) := by decide +kernel
theorem dX5_reach_33 : decode cX5_reach 33 = .ok (.ifCond .lt 4, 3) := by decide +kernel
theorem dX5_reach_36 : decode cX5_reach 36 = .ok (.return_, 1) := by decide +kernel
theorem dX5_reach_37 : decode cX5_reach 37 = .ok (.aload_n 0, 1) := by decide +kernel
theorem dX5_reach_38 : decode cX5_reach 38 = .ok (.getfield 15, 3) := by decide +kernel
theorem dX5_reach_41 : decode cX5_reach 41 = .ok (.iload_n 3, 1) := by decide +kernel
theorem dX5_reach_42 : decode cX5_reach 42 = .ok (.aload_n 0, 1) := by decide +kernel
theorem dX5_reach_43 : decode cX5_reach 43 = .ok (.getfield 15, 3) := by decide +kernel
theorem dX5_reach_46 : decode cX5_reach 46 = .ok (.iload_n 1, 1) := by decide +kernel
theorem dX5_reach_47 : decode cX5_reach 47 = .ok (.iaload, 1) := by decide +kernel
theorem dX5_reach_48 : decode cX5_reach 48 = .ok (.iconst 1, 1) := by decide +kernel
theorem dX5_reach_49 : decode cX5_reach 49 = .ok (.iadd, 1) := by decide +kernel
theorem dX5_reach_50 : decode cX5_reach 50 = .ok (.iastore, 1) := by decide +kernel
theorem dX5_reach_51 : decode cX5_reach 51 = .ok (.aload_n 0, 1) := by decide +kernel
theorem dX5_reach_52 : decode cX5_reach 52 = .ok (.getfield 18, 3) := by decide +kernel
theorem dX5_reach_55 : decode cX5_reach 55 = .ok (.iload_n 3, 1) := by decide +kernel
theorem dX5_reach_56 : decode cX5_reach 56 = .ok (.iload_n 1, 1) := by decide +kernel
theorem dX5_reach_57 : decode cX5_reach 57 = .ok (.ifCond .ne 7, 3) := by decide +kernel
theorem dX5_reach_60 : decode cX5_reach 60 = .ok (.iload_n 2, 1) := by decide +kernel
theorem dX5_reach_61 : decode cX5_reach 61 = .ok (.goto 9, 3) := by decide +kernel
theorem dX5_reach_64 : decode cX5_reach 64 = .ok (.aload_n 0, 1) := by decide +kernel
theorem dX5_reach_65 : decode cX5_reach 65 = .ok (.getfield 18, 3) := by decide +kernel
theorem dX5_reach_68 : decode cX5_reach 68 = .ok (.iload_n 1, 1) := by decide +kernel
theorem dX5_reach_69 : decode cX5_reach 69 = .ok (.iaload, 1) := by decide +kernel
theorem dX5_reach_70 : decode cX5_reach 70 = .ok (.iastore, 1) := by decide +kernel
theorem dX5_reach_71 : decode cX5_reach 71 = .ok (.aload_n 0, 1) := by decide +kernel
theorem dX5_reach_72 : decode cX5_reach 72 = .ok (.getfield 11, 3) := by decide +kernel
theorem dX5_reach_75 : decode cX5_reach 75 = .ok (.aload_n 0, 1) := by decide +kernel
theorem dX5_reach_76 : decode cX5_reach 76 = .ok (.getfield 21, 3) := by decide +kernel
theorem dX5_reach_79 : decode cX5_reach 79 = .ok (.iload_n 3, 1) := by decide +kernel
theorem dX5_reach_80 : decode cX5_reach 80 = .ok (.iastore, 1) := by decide +kernel
theorem dX5_reach_81 : decode cX5_reach 81 = .ok (.aload_n 0, 1) := by decide +kernel
theorem dX5_reach_82 : decode cX5_reach 82 = .ok (.dup, 1) := by decide +kernel
theorem dX5_reach_83 : decode cX5_reach 83 = .ok (.getfield 21, 3) := by decide +kernel
theorem dX5_reach_86 : decode cX5_reach 86 = .ok (.iconst 1, 1) := by decide +kernel
theorem dX5_reach_87 : decode cX5_reach 87 = .ok (.iadd, 1) := by decide +kernel
theorem dX5_reach_88 : decode cX5_reach 88 = .ok (.putfield 21, 3) := by decide +kernel
theorem dX5_reach_91 : decode cX5_reach 91 = .ok (.return_, 1) := by decide +kernel
theorem dX6_init_0 : decode cX6_init 0 = .ok (.aload_n 0, 1) := by decide +kernel
theorem dX6_init_1 : decode cX6_init 1 = .ok (.invokespecial 3, 3) := by decide +kernel
theorem dX6_init_4 : decode cX6_init 4 = .ok (.aload_n 0, 1) := by decide +kernel
theorem dX6_init_5 : decode cX6_init 5 = .ok (.bipush 24, 2) := by decide +kernel
theorem dX6_init_7 : decode cX6_init 7 = .ok (.newarray .int, 2) := by decide +kernel
theorem dX6_init_9 : decode cX6_init 9 = .ok (.putfield 11, 3) := by decide +kernel
theorem dX6_init_12 : decode cX6_init 12 = .ok (.aload_n 0, 1) := by decide +kernel
theorem dX6_init_13 : decode cX6_init 13 = .ok (.bipush 24, 2) := by decide +kernel
theorem dX6_init_15 : decode cX6_init 15 = .ok (.newarray .int, 2) := by decide +kernel
theorem dX6_init_17 : decode cX6_init 17 = .ok (.putfield 15, 3) := by decide +kernel
theorem dX6_init_20 : decode cX6_init 20 = .ok (.aload_n 0, 1) := by decide +kernel
theorem dX6_init_21 : decode cX6_init 21 = .ok (.sipush 1024, 3) := by decide +kernel
theorem dX6_init_24 : decode cX6_init 24 = .ok (.newarray .int, 2) := by decide +kernel
theorem dX6_init_26 : decode cX6_init 26 = .ok (.putfield 18, 3) := by decide +kernel
theorem dX6_init_29 : decode cX6_init 29 = .ok (.aload_n 0, 1) := by decide +kernel
theorem dX6_init_30 : decode cX6_init 30 = .ok (.sipush 256, 3) := by decide +kernel
theorem dX6_init_33 : decode cX6_init 33 = .ok (.newarray .int, 2) := by decide +kernel
theorem dX6_init_35 : decode cX6_init 35 = .ok (.putfield 21, 3) := by decide +kernel
theorem dX6_init_38 : decode cX6_init 38 = .ok (.aload_n 0, 1) := by decide +kernel
theorem dX6_init_39 : decode cX6_init 39 = .ok (.sipush 256, 3) := by decide +kernel
theorem dX6_init_42 : decode cX6_init 42 = .ok (.newarray .int, 2) := by decide +kernel
theorem dX6_init_44 : decode cX6_init 44 = .ok (.putfield 24, 3) := by decide +kernel
theorem dX6_init_47 : decode cX6_init 47 = .ok (.aload_n 0, 1) := by decide +kernel
theorem dX6_init_48 : decode cX6_init 48 = .ok (.aload_n 1, 1) := by decide +kernel
theorem dX6_init_49 : decode cX6_init 49 = .ok (.putfield 27, 3) := by decide +kernel
theorem dX6_init_52 : decode cX6_init 52 = .ok (.return_, 1) := by decide +kernel
theorem dX6_fewestDrawers_0 : decode cX6_fewestDrawers 0 = .ok (.aload_n 1, 1) := by decide +kernel
theorem dX6_fewestDrawers_1 : decode cX6_fewestDrawers 1 = .ok (.getfield 31, 3) := by decide +kernel
theorem dX6_fewestDrawers_4 : decode cX6_fewestDrawers 4 = .ok (.ifCond .ne 5, 3) := by decide +kernel
theorem dX6_fewestDrawers_7 : decode cX6_fewestDrawers 7 = .ok (.iconst 0, 1) := by decide +kernel
theorem dX6_fewestDrawers_8 : decode cX6_fewestDrawers 8 = .ok (.ireturn, 1) := by decide +kernel
theorem dX6_fewestDrawers_9 : decode cX6_fewestDrawers 9 = .ok (.aload_n 0, 1) := by decide +kernel
theorem dX6_fewestDrawers_10 : decode cX6_fewestDrawers 10 = .ok (.aload_n 1, 1) := by decide +kernel
theorem dX6_fewestDrawers_11 : decode cX6_fewestDrawers 11 = .ok (.invokevirtual 37, 3) := by decide +kernel
theorem dX6_fewestDrawers_14 : decode cX6_fewestDrawers 14 = .ok (.istore_n 2, 1) := by decide +kernel
theorem dX6_fewestDrawers_15 : decode cX6_fewestDrawers 15 = .ok (.iconst 1, 1) := by decide +kernel
theorem dX6_fewestDrawers_16 : decode cX6_fewestDrawers 16 = .ok (.aload_n 1, 1) := by decide +kernel
theorem dX6_fewestDrawers_17 : decode cX6_fewestDrawers 17 = .ok (.getfield 31, 3) := by decide +kernel
theorem dX6_fewestDrawers_20 : decode cX6_fewestDrawers 20 = .ok (.ishl, 1) := by decide +kernel
theorem dX6_fewestDrawers_21 : decode cX6_fewestDrawers 21 = .ok (.iconst 1, 1) := by decide +kernel
theorem dX6_fewestDrawers_22 : decode cX6_fewestDrawers 22 = .ok (.isub, 1) := by decide +kernel
theorem dX6_fewestDrawers_23 : decode cX6_fewestDrawers 23 = .ok (.istore_n 3, 1) := by decide +kernel
theorem dX6_fewestDrawers_24 : decode cX6_fewestDrawers 24 = .ok (.iload_n 2, 1) := by decide +kernel
theorem dX6_fewestDrawers_25 : decode cX6_fewestDrawers 25 = .ok (.ifCond .eq 10, 3) := by decide +kernel
theorem dX6_fewestDrawers_28 : decode cX6_fewestDrawers 28 = .ok (.iload_n 3, 1) := by decide +kernel
theorem dX6_fewestDrawers_29 : decode cX6_fewestDrawers 29 = .ok (.sipush 1024, 3) := by decide +kernel
theorem dX6_fewestDrawers_32 : decode cX6_fewestDrawers 32 = .ok (.if_icmp .lt 6, 3) := by decide +kernel
theorem dX6_fewestDrawers_35 : decode cX6_fewestDrawers 35 = .ok (.bipush (-2), 2) := by decide +kernel
theorem dX6_fewestDrawers_37 : decode cX6_fewestDrawers 37 = .ok (.ireturn, 1) := by decide +kernel
theorem dX6_fewestDrawers_38 : decode cX6_fewestDrawers 38 = .ok (.iload_n 2, 1) := by decide +kernel
theorem dX6_fewestDrawers_39 : decode cX6_fewestDrawers 39 = .ok (.iconst 1, 1) := by decide +kernel
theorem dX6_fewestDrawers_40 : decode cX6_fewestDrawers 40 = .ok (.iadd, 1) := by decide +kernel
theorem dX6_fewestDrawers_41 : decode cX6_fewestDrawers 41 = .ok (.sipush 128, 3) := by decide +kernel
theorem dX6_fewestDrawers_44 : decode cX6_fewestDrawers 44 = .ok (.imul, 1) := by decide +kernel
theorem dX6_fewestDrawers_45 : decode cX6_fewestDrawers 45 = .ok (.istore 4, 2) := by decide +kernel
theorem dX6_fewestDrawers_47 : decode cX6_fewestDrawers 47 = .ok (.aload_n 0, 1) := by decide +kernel
theorem dX6_fewestDrawers_48 : decode cX6_fewestDrawers 48 = .ok (.getfield 18, 3) := by decide +kernel
theorem dX6_fewestDrawers_51 : decode cX6_fewestDrawers 51 = .ok (.iload 4, 2) := by decide +kernel
theorem dX6_fewestDrawers_53 : decode cX6_fewestDrawers 53 = .ok (.invokestatic 41, 3) := by decide +kernel
theorem dX6_fewestDrawers_56 : decode cX6_fewestDrawers 56 = .ok (.aload_n 0, 1) := by decide +kernel
theorem dX6_fewestDrawers_57 : decode cX6_fewestDrawers 57 = .ok (.getfield 18, 3) := by decide +kernel
theorem dX6_fewestDrawers_60 : decode cX6_fewestDrawers 60 = .ok (.iconst 0, 1) := by decide +kernel
theorem dX6_fewestDrawers_61 : decode cX6_fewestDrawers 61 = .ok (.sipush 128, 3) := by decide +kernel
theorem dX6_fewestDrawers_64 : decode cX6_fewestDrawers 64 = .ok (.iastore, 1) := by decide +kernel
theorem dX6_fewestDrawers_65 : decode cX6_fewestDrawers 65 = .ok (.iconst 0, 1) := by decide +kernel
theorem dX6_fewestDrawers_66 : decode cX6_fewestDrawers 66 = .ok (.istore 5, 2) := by decide +kernel
theorem dX6_fewestDrawers_68 : decode cX6_fewestDrawers 68 = .ok (.iload 5, 2) := by decide +kernel
theorem dX6_fewestDrawers_70 : decode cX6_fewestDrawers 70 = .ok (.iload_n 3, 1) := by decide +kernel
theorem dX6_fewestDrawers_71 : decode cX6_fewestDrawers 71 = .ok (.if_icmp .ge 93, 3) := by decide +kernel
theorem dX6_fewestDrawers_74 : decode cX6_fewestDrawers 74 = .ok (.iconst 0, 1) := by decide +kernel
theorem dX6_fewestDrawers_75 : decode cX6_fewestDrawers 75 = .ok (.istore 6, 2) := by decide +kernel
theorem dX6_fewestDrawers_77 : decode cX6_fewestDrawers 77 = .ok (.iload 6, 2) := by decide +kernel
theorem dX6_fewestDrawers_79 : decode cX6_fewestDrawers 79 = .ok (.aload_n 1, 1) := by decide +kernel
theorem dX6_fewestDrawers_80 : decode cX6_fewestDrawers 80 = .ok (.getfield 31, 3) := by decide +kernel
theorem dX6_fewestDrawers_83 : decode cX6_fewestDrawers 83 = .ok (.if_icmp .ge 75, 3) := by decide +kernel
theorem dX6_fewestDrawers_86 : decode cX6_fewestDrawers 86 = .ok (.aload_n 0, 1) := by decide +kernel
theorem dX6_fewestDrawers_87 : decode cX6_fewestDrawers 87 = .ok (.getfield 18, 3) := by decide +kernel
theorem dX6_fewestDrawers_90 : decode cX6_fewestDrawers 90 = .ok (.iload 5, 2) := by decide +kernel
theorem dX6_fewestDrawers_92 : decode cX6_fewestDrawers 92 = .ok (.iaload, 1) := by decide +kernel
theorem dX6_fewestDrawers_93 : decode cX6_fewestDrawers 93 = .ok (.iload 4, 2) := by decide +kernel
theorem dX6_fewestDrawers_95 : decode cX6_fewestDrawers 95 = .ok (.if_icmp .ge 63, 3) := by decide +kernel
theorem dX6_fewestDrawers_98 : decode cX6_fewestDrawers 98 = .ok (.iload 5, 2) := by decide +kernel
theorem dX6_fewestDrawers_100 : decode cX6_fewestDrawers 100 = .ok (.iconst 1, 1) := by decide +kernel
theorem dX6_fewestDrawers_101 : decode cX6_fewestDrawers 101 = .ok (.iload 6, 2) := by decide +kernel
theorem dX6_fewestDrawers_103 : decode cX6_fewestDrawers 103 = .ok (.ishl, 1) := by decide +kernel
theorem dX6_fewestDrawers_104 : decode cX6_fewestDrawers 104 = .ok (.ior, 1) := by decide +kernel
theorem dX6_fewestDrawers_105 : decode cX6_fewestDrawers 105 = .ok (.istore 7, 2) := by decide +kernel
theorem dX6_fewestDrawers_107 : decode cX6_fewestDrawers 107 = .ok (.iload 7, 2) := by decide +kernel
theorem dX6_fewestDrawers_109 : decode cX6_fewestDrawers 109 = .ok (.iload 5, 2) := by decide +kernel
theorem dX6_fewestDrawers_111 : decode cX6_fewestDrawers 111 = .ok (.if_icmp .eq 41, 3) := by decide +kernel
theorem dX6_fewestDrawers_114 : decode cX6_fewestDrawers 114 = .ok (.aload_n 0, 1) := by decide +kernel
theorem dX6_fewestDrawers_115 : decode cX6_fewestDrawers 115 = .ok (.getfield 18, 3) := by decide +kernel
theorem dX6_fewestDrawers_118 : decode cX6_fewestDrawers 118 = .ok (.iload 7, 2) := by decide +kernel
theorem dX6_fewestDrawers_120 : decode cX6_fewestDrawers 120 = .ok (.aload_n 0, 1) := by decide +kernel
theorem dX6_fewestDrawers_121 : decode cX6_fewestDrawers 121 = .ok (.getfield 18, 3) := by decide +kernel
theorem dX6_fewestDrawers_124 : decode cX6_fewestDrawers 124 = .ok (.iload 7, 2) := by decide +kernel
theorem dX6_fewestDrawers_126 : decode cX6_fewestDrawers 126 = .ok (.iaload, 1) := by decide +kernel
theorem dX6_fewestDrawers_127 : decode cX6_fewestDrawers 127 = .ok (.aload_n 0, 1) := by decide +kernel
theorem dX6_fewestDrawers_128 : decode cX6_fewestDrawers 128 = .ok (.aload_n 0, 1) := by decide +kernel
theorem dX6_fewestDrawers_129 : decode cX6_fewestDrawers 129 = .ok (.getfield 18, 3) := by decide +kernel
theorem dX6_fewestDrawers_132 : decode cX6_fewestDrawers 132 = .ok (.iload 5, 2) := by decide +kernel
theorem dX6_fewestDrawers_134 : decode cX6_fewestDrawers 134 = .ok (.iaload, 1) := by decide +kernel
theorem dX6_fewestDrawers_135 : decode cX6_fewestDrawers 135 = .ok (.aload_n 1, 1) := by decide +kernel
theorem dX6_fewestDrawers_136 : decode cX6_fewestDrawers 136 = .ok (.getfield 47, 3) := by decide +kernel
theorem dX6_fewestDrawers_139 : decode cX6_fewestDrawers 139 = .ok (.iload 6, 2) := by decide +kernel
theorem dX6_fewestDrawers_141 : decode cX6_fewestDrawers 141 = .ok (.iaload, 1) := by decide +kernel
theorem dX6_fewestDrawers_142 : decode cX6_fewestDrawers 142 = .ok (.iload_n 2, 1) := by decide +kernel
theorem dX6_fewestDrawers_143 : decode cX6_fewestDrawers 143 = .ok (.iload 4, 2) := by decide +kernel
theorem dX6_fewestDrawers_145 : decode cX6_fewestDrawers 145 = .ok (.invokevirtual 50, 3) := by decide +kernel
theorem dX6_fewestDrawers_148 : decode cX6_fewestDrawers 148 = .ok (.invokestatic 54, 3) := by decide +kernel
theorem dX6_fewestDrawers_151 : decode cX6_fewestDrawers 151 = .ok (.iastore, 1) := by decide +kernel
theorem dX6_fewestDrawers_152 : decode cX6_fewestDrawers 152 = .ok (.iinc 6 1, 3) := by decide +kernel
theorem dX6_fewestDrawers_155 : decode cX6_fewestDrawers 155 = .ok (.goto (-78), 3) := by decide +kernel
theorem dX6_fewestDrawers_158 : decode cX6_fewestDrawers 158 = .ok (.iinc 5 1, 3) := by decide +kernel
theorem dX6_fewestDrawers_161 : decode cX6_fewestDrawers 161 = .ok (.goto (-93), 3) := by decide +kernel
theorem dX6_fewestDrawers_164 : decode cX6_fewestDrawers 164 = .ok (.aload_n 0, 1) := by decide +kernel
theorem dX6_fewestDrawers_165 : decode cX6_fewestDrawers 165 = .ok (.getfield 18, 3) := by decide +kernel
theorem dX6_fewestDrawers_168 : decode cX6_fewestDrawers 168 = .ok (.iload_n 3, 1) := by decide +kernel
theorem dX6_fewestDrawers_169 : decode cX6_fewestDrawers 169 = .ok (.iaload, 1) := by decide +kernel
theorem dX6_fewestDrawers_170 : decode cX6_fewestDrawers 170 = .ok (.iload 4, 2) := by decide +kernel
theorem dX6_fewestDrawers_172 : decode cX6_fewestDrawers 172 = .ok (.if_icmp .ge 16, 3) := by decide +kernel
theorem dX6_fewestDrawers_175 : decode cX6_fewestDrawers 175 = .ok (.aload_n 0, 1) := by decide +kernel
theorem dX6_fewestDrawers_176 : decode cX6_fewestDrawers 176 = .ok (.getfield 18, 3) := by decide +kernel
theorem dX6_fewestDrawers_179 : decode cX6_fewestDrawers 179 = .ok (.iload_n 3, 1) := by decide +kernel
theorem dX6_fewestDrawers_180 : decode cX6_fewestDrawers 180 = .ok (.iaload, 1) := by decide +kernel
theorem dX6_fewestDrawers_181 : decode cX6_fewestDrawers 181 = .ok (.sipush 128, 3) := by decide +kernel
theorem dX6_fewestDrawers_184 : decode cX6_fewestDrawers 184 = .ok (.idiv, 1) := by decide +kernel
theorem dX6_fewestDrawers_185 : decode cX6_fewestDrawers 185 = .ok (.goto 5, 3) := by decide +kernel
theorem dX6_fewestDrawers_188 : decode cX6_fewestDrawers 188 = .ok (.bipush (-2), 2) := by decide +kernel
theorem dX6_fewestDrawers_190 : decode cX6_fewestDrawers 190 = .ok (.ireturn, 1) := by decide +kernel
theorem dX6_sortRooms_0 : decode cX6_sortRooms 0 = .ok (.iconst 0, 1) := by decide +kernel
theorem dX6_sortRooms_1 : decode cX6_sortRooms 1 = .ok (.istore_n 2, 1) := by decide +kernel
theorem dX6_sortRooms_2 : decode cX6_sortRooms 2 = .ok (.iconst 0, 1) := by decide +kernel
theorem dX6_sortRooms_3 : decode cX6_sortRooms 3 = .ok (.istore_n 3, 1) := by decide +kernel
theorem dX6_sortRooms_4 : decode cX6_sortRooms 4 = .ok (.iload_n 3, 1) := by decide +kernel
theorem dX6_sortRooms_5 : decode cX6_sortRooms 5 = .ok (.bipush 12, 2) := by decide +kernel
theorem dX6_sortRooms_7 : decode cX6_sortRooms 7 = .ok (.if_icmp .ge 81, 3) := by decide +kernel
theorem dX6_sortRooms_10 : decode cX6_sortRooms 10 = .ok (.aload_n 1, 1) := by decide +kernel
theorem dX6_sortRooms_11 : decode cX6_sortRooms 11 = .ok (.iload_n 3, 1) := by decide +kernel
theorem dX6_sortRooms_12 : decode cX6_sortRooms 12 = .ok (.invokevirtual 60, 3) := by decide +kernel
theorem dX6_sortRooms_15 : decode cX6_sortRooms 15 = .ok (.ifCond .eq 67, 3) := by decide +kernel
theorem dX6_sortRooms_18 : decode cX6_sortRooms 18 = .ok (.iload_n 2, 1) := by decide +kernel
theorem dX6_sortRooms_19 : decode cX6_sortRooms 19 = .ok (.istore 4, 2) := by decide +kernel
theorem dX6_sortRooms_21 : decode cX6_sortRooms 21 = .ok (.iload 4, 2) := by decide +kernel
theorem dX6_sortRooms_23 : decode cX6_sortRooms 23 = .ok (.ifCond .le 43, 3) := by decide +kernel
theorem dX6_sortRooms_26 : decode cX6_sortRooms 26 = .ok (.aload_n 0, 1) := by decide +kernel
theorem dX6_sortRooms_27 : decode cX6_sortRooms 27 = .ok (.getfield 11, 3) := by decide +kernel
theorem dX6_sortRooms_30 : decode cX6_sortRooms 30 = .ok (.iload 4, 2) := by decide +kernel
theorem dX6_sortRooms_32 : decode cX6_sortRooms 32 = .ok (.iconst 1, 1) := by decide +kernel
theorem dX6_sortRooms_33 : decode cX6_sortRooms 33 = .ok (.isub, 1) := by decide +kernel
theorem dX6_sortRooms_34 : decode cX6_sortRooms 34 = .ok (.iaload, 1) := by decide +kernel
theorem dX6_sortRooms_35 : decode cX6_sortRooms 35 = .ok (.aload_n 1, 1) := by decide +kernel
theorem dX6_sortRooms_36 : decode cX6_sortRooms 36 = .ok (.getfield 64, 3) := by decide +kernel
theorem dX6_sortRooms_39 : decode cX6_sortRooms 39 = .ok (.iload_n 3, 1) := by decide +kernel
theorem dX6_sortRooms_40 : decode cX6_sortRooms 40 = .ok (.iaload, 1) := by decide +kernel
theorem dX6_sortRooms_41 : decode cX6_sortRooms 41 = .ok (.if_icmp .ge 25, 3) := by decide +kernel
theorem dX6_sortRooms_44 : decode cX6_sortRooms 44 = .ok (.aload_n 0, 1) := by decide +kernel
theorem dX6_sortRooms_45 : decode cX6_sortRooms 45 = .ok (.getfield 11, 3) := by decide +kernel
theorem dX6_sortRooms_48 : decode cX6_sortRooms 48 = .ok (.iload 4, 2) := by decide +kernel
theorem dX6_sortRooms_50 : decode cX6_sortRooms 50 = .ok (.aload_n 0, 1) := by decide +kernel
theorem dX6_sortRooms_51 : decode cX6_sortRooms 51 = .ok (.getfield 11, 3) := by decide +kernel
theorem dX6_sortRooms_54 : decode cX6_sortRooms 54 = .ok (.iload 4, 2) := by decide +kernel
theorem dX6_sortRooms_56 : decode cX6_sortRooms 56 = .ok (.iconst 1, 1) := by decide +kernel
theorem dX6_sortRooms_57 : decode cX6_sortRooms 57 = .ok (.isub, 1) := by decide +kernel
theorem dX6_sortRooms_58 : decode cX6_sortRooms 58 = .ok (.iaload, 1) := by decide +kernel
theorem dX6_sortRooms_59 : decode cX6_sortRooms 59 = .ok (.iastore, 1) := by decide +kernel
theorem dX6_sortRooms_60 : decode cX6_sortRooms 60 = .ok (.iinc 4 (-1), 3) := by decide +kernel
theorem dX6_sortRooms_63 : decode cX6_sortRooms 63 = .ok (.goto (-42), 3) := by decide +kernel
theorem dX6_sortRooms_66 : decode cX6_sortRooms 66 = .ok (.aload_n 0, 1) := by decide +kernel
theorem dX6_sortRooms_67 : decode cX6_sortRooms 67 = .ok (.getfield 11, 3) := by decide +kernel
theorem dX6_sortRooms_70 : decode cX6_sortRooms 70 = .ok (.iload 4, 2) := by decide +kernel
theorem dX6_sortRooms_72 : decode cX6_sortRooms 72 = .ok (.aload_n 1, 1) := by decide +kernel
theorem dX6_sortRooms_73 : decode cX6_sortRooms 73 = .ok (.getfield 64, 3) := by decide +kernel
theorem dX6_sortRooms_76 : decode cX6_sortRooms 76 = .ok (.iload_n 3, 1) := by decide +kernel
theorem dX6_sortRooms_77 : decode cX6_sortRooms 77 = .ok (.iaload, 1) := by decide +kernel
theorem dX6_sortRooms_78 : decode cX6_sortRooms 78 = .ok (.iastore, 1) := by decide +kernel
theorem dX6_sortRooms_79 : decode cX6_sortRooms 79 = .ok (.iinc 2 1, 3) := by decide +kernel
theorem dX6_sortRooms_82 : decode cX6_sortRooms 82 = .ok (.iinc 3 1, 3) := by decide +kernel
theorem dX6_sortRooms_85 : decode cX6_sortRooms 85 = .ok (.goto (-81), 3) := by decide +kernel
theorem dX6_sortRooms_88 : decode cX6_sortRooms 88 = .ok (.iload_n 2, 1) := by decide +kernel
theorem dX6_sortRooms_89 : decode cX6_sortRooms 89 = .ok (.ireturn, 1) := by decide +kernel
theorem dX6_packOne_0 : decode cX6_packOne 0 = .ok (.iload_n 1, 1) := by decide +kernel
theorem dX6_packOne_1 : decode cX6_packOne 1 = .ok (.sipush 128, 3) := by decide +kernel
theorem dX6_packOne_4 : decode cX6_packOne 4 = .ok (.idiv, 1) := by decide +kernel
theorem dX6_packOne_5 : decode cX6_packOne 5 = .ok (.istore 5, 2) := by decide +kernel
theorem dX6_packOne_7 : decode cX6_packOne 7 = .ok (.iload_n 1, 1) := by decide +kernel
theorem dX6_packOne_8 : decode cX6_packOne 8 = .ok (.sipush 128, 3) := by decide +kernel
theorem dX6_packOne_11 : decode cX6_packOne 11 = .ok (.irem, 1) := by decide +kernel
theorem dX6_packOne_12 : decode cX6_packOne 12 = .ok (.istore 6, 2) := by decide +kernel
theorem dX6_packOne_14 : decode cX6_packOne 14 = .ok (.iload 5, 2) := by decide +kernel
theorem dX6_packOne_16 : decode cX6_packOne 16 = .ok (.iconst 1, 1) := by decide +kernel
theorem dX6_packOne_17 : decode cX6_packOne 17 = .ok (.if_icmp .lt 9, 3) := by decide +kernel
theorem dX6_packOne_20 : decode cX6_packOne 20 = .ok (.iload 5, 2) := by decide +kernel
theorem dX6_packOne_22 : decode cX6_packOne 22 = .ok (.iload_n 3, 1) := by decide +kernel
theorem dX6_packOne_23 : decode cX6_packOne 23 = .ok (.if_icmp .le 6, 3) := by decide +kernel
theorem dX6_packOne_26 : decode cX6_packOne 26 = .ok (.iload 4, 2) := by decide +kernel
theorem dX6_packOne_28 : decode cX6_packOne 28 = .ok (.ireturn, 1) := by decide +kernel
theorem dX6_packOne_29 : decode cX6_packOne 29 = .ok (.iload 6, 2) := by decide +kernel
theorem dX6_packOne_31 : decode cX6_packOne 31 = .ok (.iload_n 2, 1) := by decide +kernel
theorem dX6_packOne_32 : decode cX6_packOne 32 = .ok (.iadd, 1) := by decide +kernel
theorem dX6_packOne_33 : decode cX6_packOne 33 = .ok (.aload_n 0, 1) := by decide +kernel
theorem dX6_packOne_34 : decode cX6_packOne 34 = .ok (.getfield 11, 3) := by decide +kernel
theorem dX6_packOne_37 : decode cX6_packOne 37 = .ok (.iload 5, 2) := by decide +kernel
theorem dX6_packOne_39 : decode cX6_packOne 39 = .ok (.iconst 1, 1) := by decide +kernel
theorem dX6_packOne_40 : decode cX6_packOne 40 = .ok (.isub, 1) := by decide +kernel
theorem dX6_packOne_41 : decode cX6_packOne 41 = .ok (.iaload, 1) := by decide +kernel
theorem dX6_packOne_42 : decode cX6_packOne 42 = .ok (.if_icmp .gt 7, 3) := by decide +kernel
theorem dX6_packOne_45 : decode cX6_packOne 45 = .ok (.iload_n 1, 1) := by decide +kernel
theorem dX6_packOne_46 : decode cX6_packOne 46 = .ok (.iload_n 2, 1) := by decide +kernel
theorem dX6_packOne_47 : decode cX6_packOne 47 = .ok (.iadd, 1) := by decide +kernel
theorem dX6_packOne_48 : decode cX6_packOne 48 = .ok (.ireturn, 1) := by decide +kernel
theorem dX6_packOne_49 : decode cX6_packOne 49 = .ok (.iload 5, 2) := by decide +kernel
theorem dX6_packOne_51 : decode cX6_packOne 51 = .ok (.iload_n 3, 1) := by decide +kernel
theorem dX6_packOne_52 : decode cX6_packOne 52 = .ok (.if_icmp .ge 25, 3) := by decide +kernel
theorem dX6_packOne_55 : decode cX6_packOne 55 = .ok (.iload_n 2, 1) := by decide +kernel
theorem dX6_packOne_56 : decode cX6_packOne 56 = .ok (.aload_n 0, 1) := by decide +kernel
theorem dX6_packOne_57 : decode cX6_packOne 57 = .ok (.getfield 11, 3) := by decide +kernel
theorem dX6_packOne_60 : decode cX6_packOne 60 = .ok (.iload 5, 2) := by decide +kernel
theorem dX6_packOne_62 : decode cX6_packOne 62 = .ok (.iaload, 1) := by decide +kernel
theorem dX6_packOne_63 : decode cX6_packOne 63 = .ok (.if_icmp .gt 14, 3) := by decide +kernel
theorem dX6_packOne_66 : decode cX6_packOne 66 = .ok (.iload 5, 2) := by decide +kernel
theorem dX6_packOne_68 : decode cX6_packOne 68 = .ok (.iconst 1, 1) := by decide +kernel
theorem dX6_packOne_69 : decode cX6_packOne 69 = .ok (.iadd, 1) := by decide +kernel
theorem dX6_packOne_70 : decode cX6_packOne 70 = .ok (.sipush 128, 3) := by decide +kernel
theorem dX6_packOne_73 : decode cX6_packOne 73 = .ok (.imul, 1) := by decide +kernel
theorem dX6_packOne_74 : decode cX6_packOne 74 = .ok (.iload_n 2, 1) := by decide +kernel
theorem dX6_packOne_75 : decode cX6_packOne 75 = .ok (.iadd, 1) := by decide +kernel
theorem dX6_packOne_76 : decode cX6_packOne 76 = .ok (.ireturn, 1) := by decide +kernel
theorem dX6_packOne_77 : decode cX6_packOne 77 = .ok (.iload 4, 2) := by decide +kernel
theorem dX6_packOne_79 : decode cX6_packOne 79 = .ok (.ireturn, 1) := by decide +kernel
theorem dX6_mostNested_0 : decode cX6_mostNested 0 = .ok (.aload_n 0, 1) := by decide +kernel
theorem dX6_mostNested_1 : decode cX6_mostNested 1 = .ok (.getfield 11, 3) := by decide +kernel
theorem dX6_mostNested_4 : decode cX6_mostNested 4 = .ok (.iconst 1, 1) := by decide +kernel
theorem dX6_mostNested_5 : decode cX6_mostNested 5 = .ok (.invokestatic 41, 3) := by decide +kernel
theorem dX6_mostNested_8 : decode cX6_mostNested 8 = .ok (.iconst 1, 1) := by decide +kernel
theorem dX6_mostNested_9 : decode cX6_mostNested 9 = .ok (.istore_n 2, 1) := by decide +kernel
theorem dX6_mostNested_10 : decode cX6_mostNested 10 = .ok (.iconst 0, 1) := by decide +kernel
theorem dX6_mostNested_11 : decode cX6_mostNested 11 = .ok (.istore_n 3, 1) := by decide +kernel
theorem dX6_mostNested_12 : decode cX6_mostNested 12 = .ok (.iload_n 3, 1) := by decide +kernel
theorem dX6_mostNested_13 : decode cX6_mostNested 13 = .ok (.iload_n 1, 1) := by decide +kernel
theorem dX6_mostNested_14 : decode cX6_mostNested 14 = .ok (.if_icmp .ge 88, 3) := by decide +kernel
theorem dX6_mostNested_17 : decode cX6_mostNested 17 = .ok (.iconst 0, 1) := by decide +kernel
theorem dX6_mostNested_18 : decode cX6_mostNested 18 = .ok (.istore 4, 2) := by decide +kernel
theorem dX6_mostNested_20 : decode cX6_mostNested 20 = .ok (.iload 4, 2) := by decide +kernel
theorem dX6_mostNested_22 : decode cX6_mostNested 22 = .ok (.iload_n 1, 1) := by decide +kernel
theorem dX6_mostNested_23 : decode cX6_mostNested 23 = .ok (.if_icmp .ge 73, 3) := by decide +kernel
theorem dX6_mostNested_26 : decode cX6_mostNested 26 = .ok (.iconst 0, 1) := by decide +kernel
theorem dX6_mostNested_27 : decode cX6_mostNested 27 = .ok (.istore 5, 2) := by decide +kernel
theorem dX6_mostNested_29 : decode cX6_mostNested 29 = .ok (.iload 5, 2) := by decide +kernel
theorem dX6_mostNested_31 : decode cX6_mostNested 31 = .ok (.iload_n 1, 1) := by decide +kernel
theorem dX6_mostNested_32 : decode cX6_mostNested 32 = .ok (.if_icmp .ge 58, 3) := by decide +kernel
theorem dX6_mostNested_35 : decode cX6_mostNested 35 = .ok (.aload_n 0, 1) := by decide +kernel
theorem dX6_mostNested_36 : decode cX6_mostNested 36 = .ok (.iload 5, 2) := by decide +kernel
theorem dX6_mostNested_38 : decode cX6_mostNested 38 = .ok (.iload 4, 2) := by decide +kernel
theorem dX6_mostNested_40 : decode cX6_mostNested 40 = .ok (.invokevirtual 67, 3) := by decide +kernel
theorem dX6_mostNested_43 : decode cX6_mostNested 43 = .ok (.ifCond .eq 41, 3) := by decide +kernel
theorem dX6_mostNested_46 : decode cX6_mostNested 46 = .ok (.aload_n 0, 1) := by decide +kernel
theorem dX6_mostNested_47 : decode cX6_mostNested 47 = .ok (.getfield 11, 3) := by decide +kernel
theorem dX6_mostNested_50 : decode cX6_mostNested 50 = .ok (.iload 4, 2) := by decide +kernel
theorem dX6_mostNested_52 : decode cX6_mostNested 52 = .ok (.aload_n 0, 1) := by decide +kernel
theorem dX6_mostNested_53 : decode cX6_mostNested 53 = .ok (.getfield 11, 3) := by decide +kernel
theorem dX6_mostNested_56 : decode cX6_mostNested 56 = .ok (.iload 4, 2) := by decide +kernel
theorem dX6_mostNested_58 : decode cX6_mostNested 58 = .ok (.iaload, 1) := by decide +kernel
theorem dX6_mostNested_59 : decode cX6_mostNested 59 = .ok (.aload_n 0, 1) := by decide +kernel
theorem dX6_mostNested_60 : decode cX6_mostNested 60 = .ok (.getfield 11, 3) := by decide +kernel
theorem dX6_mostNested_63 : decode cX6_mostNested 63 = .ok (.iload 5, 2) := by decide +kernel
theorem dX6_mostNested_65 : decode cX6_mostNested 65 = .ok (.iaload, 1) := by decide +kernel
theorem dX6_mostNested_66 : decode cX6_mostNested 66 = .ok (.iconst 1, 1) := by decide +kernel
theorem dX6_mostNested_67 : decode cX6_mostNested 67 = .ok (.iadd, 1) := by decide +kernel
theorem dX6_mostNested_68 : decode cX6_mostNested 68 = .ok (.invokestatic 71, 3) := by decide +kernel
theorem dX6_mostNested_71 : decode cX6_mostNested 71 = .ok (.iastore, 1) := by decide +kernel
theorem dX6_mostNested_72 : decode cX6_mostNested 72 = .ok (.iload_n 2, 1) := by decide +kernel
theorem dX6_mostNested_73 : decode cX6_mostNested 73 = .ok (.aload_n 0, 1) := by decide +kernel
theorem dX6_mostNested_74 : decode cX6_mostNested 74 = .ok (.getfield 11, 3) := by decide +kernel
theorem dX6_mostNested_77 : decode cX6_mostNested 77 = .ok (.iload 4, 2) := by decide +kernel
theorem dX6_mostNested_79 : decode cX6_mostNested 79 = .ok (.iaload, 1) := by decide +kernel
theorem dX6_mostNested_80 : decode cX6_mostNested 80 = .ok (.invokestatic 71, 3) := by decide +kernel
theorem dX6_mostNested_83 : decode cX6_mostNested 83 = .ok (.istore_n 2, 1) := by decide +kernel
theorem dX6_mostNested_84 : decode cX6_mostNested 84 = .ok (.iinc 5 1, 3) := by decide +kernel
theorem dX6_mostNested_87 : decode cX6_mostNested 87 = .ok (.goto (-58), 3) := by decide +kernel
theorem dX6_mostNested_90 : decode cX6_mostNested 90 = .ok (.iinc 4 1, 3) := by decide +kernel
theorem dX6_mostNested_93 : decode cX6_mostNested 93 = .ok (.goto (-73), 3) := by decide +kernel
theorem dX6_mostNested_96 : decode cX6_mostNested 96 = .ok (.iinc 3 1, 3) := by decide +kernel
theorem dX6_mostNested_99 : decode cX6_mostNested 99 = .ok (.goto (-87), 3) := by decide +kernel
theorem dX6_mostNested_102 : decode cX6_mostNested 102 = .ok (.iload_n 2, 1) := by decide +kernel
theorem dX6_mostNested_103 : decode cX6_mostNested 103 = .ok (.ireturn, 1) := by decide +kernel
theorem dX6_goesUnder_0 : decode cX6_goesUnder 0 = .ok (.aload_n 0, 1) := by decide +kernel
theorem dX6_goesUnder_1 : decode cX6_goesUnder 1 = .ok (.getfield 27, 3) := by decide +kernel
theorem dX6_goesUnder_4 : decode cX6_goesUnder 4 = .ok (.iconst 2, 1) := by decide +kernel
theorem dX6_goesUnder_5 : decode cX6_goesUnder 5 = .ok (.iload_n 1, 1) := by decide +kernel
theorem dX6_goesUnder_6 : decode cX6_goesUnder 6 = .ok (.imul, 1) := by decide +kernel
theorem dX6_goesUnder_7 : decode cX6_goesUnder 7 = .ok (.invokevirtual 74, 3) := by decide +kernel
theorem dX6_goesUnder_10 : decode cX6_goesUnder 10 = .ok (.aload_n 0, 1) := by decide +kernel
theorem dX6_goesUnder_11 : decode cX6_goesUnder 11 = .ok (.getfield 27, 3) := by decide +kernel
theorem dX6_goesUnder_14 : decode cX6_goesUnder 14 = .ok (.iconst 2, 1) := by decide +kernel
theorem dX6_goesUnder_15 : decode cX6_goesUnder 15 = .ok (.iload_n 2, 1) := by decide +kernel
theorem dX6_goesUnder_16 : decode cX6_goesUnder 16 = .ok (.imul, 1) := by decide +kernel
theorem dX6_goesUnder_17 : decode cX6_goesUnder 17 = .ok (.invokevirtual 74, 3) := by decide +kernel
theorem dX6_goesUnder_20 : decode cX6_goesUnder 20 = .ok (.if_icmp .ge 34, 3) := by decide +kernel
theorem dX6_goesUnder_23 : decode cX6_goesUnder 23 = .ok (.aload_n 0, 1) := by decide +kernel
theorem dX6_goesUnder_24 : decode cX6_goesUnder 24 = .ok (.getfield 27, 3) := by decide +kernel
theorem dX6_goesUnder_27 : decode cX6_goesUnder 27 = .ok (.iconst 2, 1) := by decide +kernel
theorem dX6_goesUnder_28 : decode cX6_goesUnder 28 = .ok (.iload_n 1, 1) := by decide +kernel
theorem dX6_goesUnder_29 : decode cX6_goesUnder 29 = .ok (.imul, 1) := by decide +kernel
theorem dX6_goesUnder_30 : decode cX6_goesUnder 30 = .ok (.iconst 1, 1) := by decide +kernel
theorem dX6_goesUnder_31 : decode cX6_goesUnder 31 = .ok (.iadd, 1) := by decide +kernel
theorem dX6_goesUnder_32 : decode cX6_goesUnder 32 = .ok (.invokevirtual 74, 3) := by decide +kernel
theorem dX6_goesUnder_35 : decode cX6_goesUnder 35 = .ok (.aload_n 0, 1) := by decide +kernel
theorem dX6_goesUnder_36 : decode cX6_goesUnder 36 = .ok (.getfield 27, 3) := by decide +kernel
theorem dX6_goesUnder_39 : decode cX6_goesUnder 39 = .ok (.iconst 2, 1) := by decide +kernel
theorem dX6_goesUnder_40 : decode cX6_goesUnder 40 = .ok (.iload_n 2, 1) := by decide +kernel
theorem dX6_goesUnder_41 : decode cX6_goesUnder 41 = .ok (.imul, 1) := by decide +kernel
theorem dX6_goesUnder_42 : decode cX6_goesUnder 42 = .ok (.iconst 1, 1) := by decide +kernel
theorem dX6_goesUnder_43 : decode cX6_goesUnder 43 = .ok (.iadd, 1) := by decide +kernel
theorem dX6_goesUnder_44 : decode cX6_goesUnder 44 = .ok (.invokevirtual 74, 3) := by decide +kernel
theorem dX6_goesUnder_47 : decode cX6_goesUnder 47 = .ok (.if_icmp .ge 7, 3) := by decide +kernel
theorem dX6_goesUnder_50 : decode cX6_goesUnder 50 = .ok (.iconst 1, 1) := by decide +kernel
theorem dX6_goesUnder_51 : decode cX6_goesUnder 51 = .ok (.goto 4, 3) := by decide +kernel
theorem dX6_goesUnder_54 : decode cX6_goesUnder 54 = .ok (.iconst 0, 1) := by decide +kernel
theorem dX6_goesUnder_55 : decode cX6_goesUnder 55 = .ok (.ireturn, 1) := by decide +kernel
theorem dX6_longestRising_0 : decode cX6_longestRising 0 = .ok (.iconst 0, 1) := by decide +kernel
theorem dX6_longestRising_1 : decode cX6_longestRising 1 = .ok (.istore_n 2, 1) := by decide +kernel
theorem dX6_longestRising_2 : decode cX6_longestRising 2 = .ok (.iconst 0, 1) := by decide +kernel
theorem dX6_longestRising_3 : decode cX6_longestRising 3 = .ok (.istore_n 3, 1) := by decide +kernel
theorem dX6_longestRising_4 : decode cX6_longestRising 4 = .ok (.iload_n 3, 1) := by decide +kernel
theorem dX6_longestRising_5 : decode cX6_longestRising 5 = .ok (.iload_n 1, 1) := by decide +kernel
theorem dX6_longestRising_6 : decode cX6_longestRising 6 = .ok (.if_icmp .ge 86, 3) := by decide +kernel
theorem dX6_longestRising_9 : decode cX6_longestRising 9 = .ok (.aload_n 0, 1) := by decide +kernel
theorem dX6_longestRising_10 : decode cX6_longestRising 10 = .ok (.getfield 11, 3) := by decide +kernel
theorem dX6_longestRising_13 : decode cX6_longestRising 13 = .ok (.iload_n 3, 1) := by decide +kernel
theorem dX6_longestRising_14 : decode cX6_longestRising 14 = .ok (.iconst 1, 1) := by decide +kernel
theorem dX6_longestRising_15 : decode cX6_longestRising 15 = .ok (.iastore, 1) := by decide +kernel
theorem dX6_longestRising_16 : decode cX6_longestRising 16 = .ok (.iconst 0, 1) := by decide +kernel
theorem dX6_longestRising_17 : decode cX6_longestRising 17 = .ok (.istore 4, 2) := by decide +kernel
theorem dX6_longestRising_19 : decode cX6_longestRising 19 = .ok (.iload 4, 2) := by decide +kernel
theorem dX6_longestRising_21 : decode cX6_longestRising 21 = .ok (.iload_n 3, 1) := by decide +kernel
theorem dX6_longestRising_22 : decode cX6_longestRising 22 = .ok (.if_icmp .ge 53, 3) := by decide +kernel
theorem dX6_longestRising_25 : decode cX6_longestRising 25 = .ok (.aload_n 0, 1) := by decide +kernel
theorem dX6_longestRising_26 : decode cX6_longestRising 26 = .ok (.getfield 27, 3) := by decide +kernel
theorem dX6_longestRising_29 : decode cX6_longestRising 29 = .ok (.iload 4, 2) := by decide +kernel
theorem dX6_longestRising_31 : decode cX6_longestRising 31 = .ok (.invokevirtual 74, 3) := by decide +kernel
theorem dX6_longestRising_34 : decode cX6_longestRising 34 = .ok (.aload_n 0, 1) := by decide +kernel
theorem dX6_longestRising_35 : decode cX6_longestRising 35 = .ok (.getfield 27, 3) := by decide +kernel
theorem dX6_longestRising_38 : decode cX6_longestRising 38 = .ok (.iload_n 3, 1) := by decide +kernel
theorem dX6_longestRising_39 : decode cX6_longestRising 39 = .ok (.invokevirtual 74, 3) := by decide +kernel
theorem dX6_longestRising_42 : decode cX6_longestRising 42 = .ok (.if_icmp .gt 27, 3) := by decide +kernel
theorem dX6_longestRising_45 : decode cX6_longestRising 45 = .ok (.aload_n 0, 1) := by decide +kernel
theorem dX6_longestRising_46 : decode cX6_longestRising 46 = .ok (.getfield 11, 3) := by decide +kernel
theorem dX6_longestRising_49 : decode cX6_longestRising 49 = .ok (.iload_n 3, 1) := by decide +kernel
theorem dX6_longestRising_50 : decode cX6_longestRising 50 = .ok (.aload_n 0, 1) := by decide +kernel
theorem dX6_longestRising_51 : decode cX6_longestRising 51 = .ok (.getfield 11, 3) := by decide +kernel
theorem dX6_longestRising_54 : decode cX6_longestRising 54 = .ok (.iload_n 3, 1) := by decide +kernel
theorem dX6_longestRising_55 : decode cX6_longestRising 55 = .ok (.iaload, 1) := by decide +kernel
theorem dX6_longestRising_56 : decode cX6_longestRising 56 = .ok (.aload_n 0, 1) := by decide +kernel
theorem dX6_longestRising_57 : decode cX6_longestRising 57 = .ok (.getfield 11, 3) := by decide +kernel
theorem dX6_longestRising_60 : decode cX6_longestRising 60 = .ok (.iload 4, 2) := by decide +kernel
theorem dX6_longestRising_62 : decode cX6_longestRising 62 = .ok (.iaload, 1) := by decide +kernel
theorem dX6_longestRising_63 : decode cX6_longestRising 63 = .ok (.iconst 1, 1) := by decide +kernel
theorem dX6_longestRising_64 : decode cX6_longestRising 64 = .ok (.iadd, 1) := by decide +kernel
theorem dX6_longestRising_65 : decode cX6_longestRising 65 = .ok (.invokestatic 71, 3) := by decide +kernel
theorem dX6_longestRising_68 : decode cX6_longestRising 68 = .ok (.iastore, 1) := by decide +kernel
theorem dX6_longestRising_69 : decode cX6_longestRising 69 = .ok (.iinc 4 1, 3) := by decide +kernel
theorem dX6_longestRising_72 : decode cX6_longestRising 72 = .ok (.goto (-53), 3) := by decide +kernel
theorem dX6_longestRising_75 : decode cX6_longestRising 75 = .ok (.iload_n 2, 1) := by decide +kernel
theorem dX6_longestRising_76 : decode cX6_longestRising 76 = .ok (.aload_n 0, 1) := by decide +kernel
theorem dX6_longestRising_77 : decode cX6_longestRising 77 = .ok (.getfield 11, 3) := by decide +kernel
theorem dX6_longestRising_80 : decode cX6_longestRising 80 = .ok (.iload_n 3, 1) := by decide +kernel
theorem dX6_longestRising_81 : decode cX6_longestRising 81 = .ok (.iaload, 1) := by decide +kernel
theorem dX6_longestRising_82 : decode cX6_longestRising 82 = .ok (.invokestatic 71, 3) := by decide +kernel
theorem dX6_longestRising_85 : decode cX6_longestRising 85 = .ok (.istore_n 2, 1) := by decide +kernel
theorem dX6_longestRising_86 : decode cX6_longestRising 86 = .ok (.iinc 3 1, 3) := by decide +kernel
theorem dX6_longestRising_89 : decode cX6_longestRising 89 = .ok (.goto (-85), 3) := by decide +kernel
theorem dX6_longestRising_92 : decode cX6_longestRising 92 = .ok (.iload_n 2, 1) := by decide +kernel
theorem dX6_longestRising_93 : decode cX6_longestRising 93 = .ok (.ireturn, 1) := by decide +kernel
theorem dX6_balancePlace_0 : decode cX6_balancePlace 0 = .ok (.iconst 0, 1) := by decide +kernel
theorem dX6_balancePlace_1 : decode cX6_balancePlace 1 = .ok (.istore_n 2, 1) := by decide +kernel
theorem dX6_balancePlace_2 : decode cX6_balancePlace 2 = .ok (.iconst 0, 1) := by decide +kernel
theorem dX6_balancePlace_3 : decode cX6_balancePlace 3 = .ok (.istore_n 3, 1) := by decide +kernel
theorem dX6_balancePlace_4 : decode cX6_balancePlace 4 = .ok (.iconst 0, 1) := by decide +kernel
theorem dX6_balancePlace_5 : decode cX6_balancePlace 5 = .ok (.istore 4, 2) := by decide +kernel
theorem dX6_balancePlace_7 : decode cX6_balancePlace 7 = .ok (.iload 4, 2) := by decide +kernel
theorem dX6_balancePlace_9 : decode cX6_balancePlace 9 = .ok (.iload_n 1, 1) := by decide +kernel
theorem dX6_balancePlace_10 : decode cX6_balancePlace 10 = .ok (.if_icmp .ge 53, 3) := by decide +kernel
theorem dX6_balancePlace_13 : decode cX6_balancePlace 13 = .ok (.iload_n 2, 1) := by decide +kernel
theorem dX6_balancePlace_14 : decode cX6_balancePlace 14 = .ok (.aload_n 0, 1) := by decide +kernel
theorem dX6_balancePlace_15 : decode cX6_balancePlace 15 = .ok (.getfield 27, 3) := by decide +kernel
theorem dX6_balancePlace_18 : decode cX6_balancePlace 18 = .ok (.iconst 2, 1) := by decide +kernel
theorem dX6_balancePlace_19 : decode cX6_balancePlace 19 = .ok (.iload 4, 2) := by decide +kernel
theorem dX6_balancePlace_21 : decode cX6_balancePlace 21 = .ok (.imul, 1) := by decide +kernel
theorem dX6_balancePlace_22 : decode cX6_balancePlace 22 = .ok (.iconst 1, 1) := by decide +kernel
theorem dX6_balancePlace_23 : decode cX6_balancePlace 23 = .ok (.iadd, 1) := by decide +kernel
theorem dX6_balancePlace_24 : decode cX6_balancePlace 24 = .ok (.invokevirtual 74, 3) := by decide +kernel
theorem dX6_balancePlace_27 : decode cX6_balancePlace 27 = .ok (.iadd, 1) := by decide +kernel
theorem dX6_balancePlace_28 : decode cX6_balancePlace 28 = .ok (.istore_n 2, 1) := by decide +kernel
theorem dX6_balancePlace_29 : decode cX6_balancePlace 29 = .ok (.iload_n 3, 1) := by decide +kernel
theorem dX6_balancePlace_30 : decode cX6_balancePlace 30 = .ok (.aload_n 0, 1) := by decide +kernel
theorem dX6_balancePlace_31 : decode cX6_balancePlace 31 = .ok (.getfield 27, 3) := by decide +kernel
theorem dX6_balancePlace_34 : decode cX6_balancePlace 34 = .ok (.iconst 2, 1) := by decide +kernel
theorem dX6_balancePlace_35 : decode cX6_balancePlace 35 = .ok (.iload 4, 2) := by decide +kernel
theorem dX6_balancePlace_37 : decode cX6_balancePlace 37 = .ok (.imul, 1) := by decide +kernel
theorem dX6_balancePlace_38 : decode cX6_balancePlace 38 = .ok (.invokevirtual 74, 3) := by decide +kernel
theorem dX6_balancePlace_41 : decode cX6_balancePlace 41 = .ok (.aload_n 0, 1) := by decide +kernel
theorem dX6_balancePlace_42 : decode cX6_balancePlace 42 = .ok (.getfield 27, 3) := by decide +kernel
theorem dX6_balancePlace_45 : decode cX6_balancePlace 45 = .ok (.iconst 2, 1) := by decide +kernel
theorem dX6_balancePlace_46 : decode cX6_balancePlace 46 = .ok (.iload 4, 2) := by decide +kernel
theorem dX6_balancePlace_48 : decode cX6_balancePlace 48 = .ok (.imul, 1) := by decide +kernel
theorem dX6_balancePlace_49 : decode cX6_balancePlace 49 = .ok (.iconst 1, 1) := by decide +kernel
theorem dX6_balancePlace_50 : decode cX6_balancePlace 50 = .ok (.iadd, 1) := by decide +kernel
theorem dX6_balancePlace_51 : decode cX6_balancePlace 51 = .ok (.invokevirtual 74, 3) := by decide +kernel
theorem dX6_balancePlace_54 : decode cX6_balancePlace 54 = .ok (.imul, 1) := by decide +kernel
theorem dX6_balancePlace_55 : decode cX6_balancePlace 55 = .ok (.iadd, 1) := by decide +kernel
theorem dX6_balancePlace_56 : decode cX6_balancePlace 56 = .ok (.istore_n 3, 1) := by decide +kernel
theorem dX6_balancePlace_57 : decode cX6_balancePlace 57 = .ok (.iinc 4 1, 3) := by decide +kernel
theorem dX6_balancePlace_60 : decode cX6_balancePlace 60 = .ok (.goto (-53), 3) := by decide +kernel
theorem dX6_balancePlace_63 : decode cX6_balancePlace 63 = .ok (.iload_n 2, 1) := by decide +kernel
theorem dX6_balancePlace_64 : decode cX6_balancePlace 64 = .ok (.ifCond .ne 5, 3) := by decide +kernel
theorem dX6_balancePlace_67 : decode cX6_balancePlace 67 = .ok (.iconst 0, 1) := by decide +kernel
theorem dX6_balancePlace_68 : decode cX6_balancePlace 68 = .ok (.ireturn, 1) := by decide +kernel
theorem dX6_balancePlace_69 : decode cX6_balancePlace 69 = .ok (.iload_n 3, 1) := by decide +kernel
theorem dX6_balancePlace_70 : decode cX6_balancePlace 70 = .ok (.iload_n 2, 1) := by decide +kernel
theorem dX6_balancePlace_71 : decode cX6_balancePlace 71 = .ok (.irem, 1) := by decide +kernel
theorem dX6_balancePlace_72 : decode cX6_balancePlace 72 = .ok (.ifCond .ne 9, 3) := by decide +kernel
theorem dX6_balancePlace_75 : decode cX6_balancePlace 75 = .ok (.iload_n 3, 1) := by decide +kernel
theorem dX6_balancePlace_76 : decode cX6_balancePlace 76 = .ok (.iload_n 2, 1) := by decide +kernel
theorem dX6_balancePlace_77 : decode cX6_balancePlace 77 = .ok (.idiv, 1) := by decide +kernel
theorem dX6_balancePlace_78 : decode cX6_balancePlace 78 = .ok (.goto 5, 3) := by decide +kernel
theorem dX6_balancePlace_81 : decode cX6_balancePlace 81 = .ok (.bipush (-2), 2) := by decide +kernel
theorem dX6_balancePlace_83 : decode cX6_balancePlace 83 = .ok (.ireturn, 1) := by decide +kernel
theorem dX6_holesFilled_0 : decode cX6_holesFilled 0 = .ok (.iload_n 1, 1) := by decide +kernel
theorem dX6_holesFilled_1 : decode cX6_holesFilled 1 = .ok (.iconst 1, 1) := by decide +kernel
theorem dX6_holesFilled_2 : decode cX6_holesFilled 2 = .ok (.if_icmp .lt 9, 3) := by decide +kernel
theorem dX6_holesFilled_5 : decode cX6_holesFilled 5 = .ok (.iload_n 1, 1) := by decide +kernel
theorem dX6_holesFilled_6 : decode cX6_holesFilled 6 = .ok (.bipush 24, 2) := by decide +kernel
theorem dX6_holesFilled_8 : decode cX6_holesFilled 8 = .ok (.if_icmp .le 5, 3) := by decide +kernel
theorem dX6_holesFilled_11 : decode cX6_holesFilled 11 = .ok (.iconst (-1), 1) := by decide +kernel
theorem dX6_holesFilled_12 : decode cX6_holesFilled 12 = .ok (.ireturn, 1) := by decide +kernel
theorem dX6_holesFilled_13 : decode cX6_holesFilled 13 = .ok (.aload_n 0, 1) := by decide +kernel
theorem dX6_holesFilled_14 : decode cX6_holesFilled 14 = .ok (.getfield 11, 3) := by decide +kernel
theorem dX6_holesFilled_17 : decode cX6_holesFilled 17 = .ok (.iconst 0, 1) := by decide +kernel
theorem dX6_holesFilled_18 : decode cX6_holesFilled 18 = .ok (.invokestatic 41, 3) := by decide +kernel
theorem dX6_holesFilled_21 : decode cX6_holesFilled 21 = .ok (.iconst 0, 1) := by decide +kernel
theorem dX6_holesFilled_22 : decode cX6_holesFilled 22 = .ok (.istore 4, 2) := by decide +kernel
theorem dX6_holesFilled_24 : decode cX6_holesFilled 24 = .ok (.iconst 0, 1) := by decide +kernel
theorem dX6_holesFilled_25 : decode cX6_holesFilled 25 = .ok (.istore 5, 2) := by decide +kernel
theorem dX6_holesFilled_27 : decode cX6_holesFilled 27 = .ok (.iconst 0, 1) := by decide +kernel
theorem dX6_holesFilled_28 : decode cX6_holesFilled 28 = .ok (.istore 6, 2) := by decide +kernel
theorem dX6_holesFilled_30 : decode cX6_holesFilled 30 = .ok (.iload 6, 2) := by decide +kernel
theorem dX6_holesFilled_32 : decode cX6_holesFilled 32 = .ok (.iload_n 2, 1) := by decide +kernel
theorem dX6_holesFilled_33 : decode cX6_holesFilled 33 = .ok (.if_icmp .ge 69, 3) := by decide +kernel
theorem dX6_holesFilled_36 : decode cX6_holesFilled 36 = .ok (.aload_n 0, 1) := by decide +kernel
theorem dX6_holesFilled_37 : decode cX6_holesFilled 37 = .ok (.getfield 27, 3) := by decide +kernel
theorem dX6_holesFilled_40 : decode cX6_holesFilled 40 = .ok (.iload 6, 2) := by decide +kernel
theorem dX6_holesFilled_42 : decode cX6_holesFilled 42 = .ok (.invokevirtual 74, 3) := by decide +kernel
theorem dX6_holesFilled_45 : decode cX6_holesFilled 45 = .ok (.iload_n 1, 1) := by decide +kernel
theorem dX6_holesFilled_46 : decode cX6_holesFilled 46 = .ok (.irem, 1) := by decide +kernel
theorem dX6_holesFilled_47 : decode cX6_holesFilled 47 = .ok (.istore 5, 2) := by decide +kernel
theorem dX6_holesFilled_49 : decode cX6_holesFilled 49 = .ok (.iinc 4 1, 3) := by decide +kernel
theorem dX6_holesFilled_52 : decode cX6_holesFilled 52 = .ok (.iconst 0, 1) := by decide +kernel
theorem dX6_holesFilled_53 : decode cX6_holesFilled 53 = .ok (.istore 7, 2) := by decide +kernel
theorem dX6_holesFilled_55 : decode cX6_holesFilled 55 = .ok (.iload 7, 2) := by decide +kernel
theorem dX6_holesFilled_57 : decode cX6_holesFilled 57 = .ok (.iload_n 1, 1) := by decide +kernel
theorem dX6_holesFilled_58 : decode cX6_holesFilled 58 = .ok (.if_icmp .ge 30, 3) := by decide +kernel
theorem dX6_holesFilled_61 : decode cX6_holesFilled 61 = .ok (.aload_n 0, 1) := by decide +kernel
theorem dX6_holesFilled_62 : decode cX6_holesFilled 62 = .ok (.getfield 11, 3) := by decide +kernel
theorem dX6_holesFilled_65 : decode cX6_holesFilled 65 = .ok (.iload 5, 2) := by decide +kernel
theorem dX6_holesFilled_67 : decode cX6_holesFilled 67 = .ok (.iaload, 1) := by decide +kernel
theorem dX6_holesFilled_68 : decode cX6_holesFilled 68 = .ok (.ifCond .eq 20, 3) := by decide +kernel
theorem dX6_holesFilled_71 : decode cX6_holesFilled 71 = .ok (.iload 5, 2) := by decide +kernel
theorem dX6_holesFilled_73 : decode cX6_holesFilled 73 = .ok (.iconst 1, 1) := by decide +kernel
theorem dX6_holesFilled_74 : decode cX6_holesFilled 74 = .ok (.iadd, 1) := by decide +kernel
theorem dX6_holesFilled_75 : decode cX6_holesFilled 75 = .ok (.iload_n 1, 1) := by decide +kernel
theorem dX6_holesFilled_76 : decode cX6_holesFilled 76 = .ok (.irem, 1) := by decide +kernel
theorem dX6_holesFilled_77 : decode cX6_holesFilled 77 = .ok (.istore 5, 2) := by decide +kernel
theorem dX6_holesFilled_79 : decode cX6_holesFilled 79 = .ok (.iinc 4 1, 3) := by decide +kernel
theorem dX6_holesFilled_82 : decode cX6_holesFilled 82 = .ok (.iinc 7 1, 3) := by decide +kernel
theorem dX6_holesFilled_85 : decode cX6_holesFilled 85 = .ok (.goto (-30), 3) := by decide +kernel
theorem dX6_holesFilled_88 : decode cX6_holesFilled 88 = .ok (.aload_n 0, 1) := by decide +kernel
theorem dX6_holesFilled_89 : decode cX6_holesFilled 89 = .ok (.getfield 11, 3) := by decide +kernel
theorem dX6_holesFilled_92 : decode cX6_holesFilled 92 = .ok (.iload 5, 2) := by decide +kernel
theorem dX6_holesFilled_94 : decode cX6_holesFilled 94 = .ok (.iconst 1, 1) := by decide +kernel
theorem dX6_holesFilled_95 : decode cX6_holesFilled 95 = .ok (.iastore, 1) := by decide +kernel
theorem dX6_holesFilled_96 : decode cX6_holesFilled 96 = .ok (.iinc 6 1, 3) := by decide +kernel
theorem dX6_holesFilled_99 : decode cX6_holesFilled 99 = .ok (.goto (-69), 3) := by decide +kernel
theorem dX6_holesFilled_102 : decode cX6_holesFilled 102 = .ok (.iload_n 3, 1) := by decide +kernel
theorem dX6_holesFilled_103 : decode cX6_holesFilled 103 = .ok (.lookupswitch 31 #[(0, 25), (1, 28)], 25) := by decide +kernel
theorem dX6_holesFilled_128 : decode cX6_holesFilled 128 = .ok (.iload 4, 2) := by decide +kernel
theorem dX6_holesFilled_130 : decode cX6_holesFilled 130 = .ok (.ireturn, 1) := by decide +kernel
theorem dX6_holesFilled_131 : decode cX6_holesFilled 131 = .ok (.iload 5, 2) := by decide +kernel
theorem dX6_holesFilled_133 : decode cX6_holesFilled 133 = .ok (.ireturn, 1) := by decide +kernel
theorem dX6_holesFilled_134 : decode cX6_holesFilled 134 = .ok (.aload_n 0, 1) := by decide +kernel
theorem dX6_holesFilled_135 : decode cX6_holesFilled 135 = .ok (.iload_n 1, 1) := by decide +kernel
theorem dX6_holesFilled_136 : decode cX6_holesFilled 136 = .ok (.invokevirtual 80, 3) := by decide +kernel
theorem dX6_holesFilled_139 : decode cX6_holesFilled 139 = .ok (.ireturn, 1) := by decide +kernel
theorem dX6_longestRound_0 : decode cX6_longestRound 0 = .ok (.iconst 0, 1) := by decide +kernel
theorem dX6_longestRound_1 : decode cX6_longestRound 1 = .ok (.istore_n 2, 1) := by decide +kernel
theorem dX6_longestRound_2 : decode cX6_longestRound 2 = .ok (.iconst 0, 1) := by decide +kernel
theorem dX6_longestRound_3 : decode cX6_longestRound 3 = .ok (.istore_n 3, 1) := by decide +kernel
theorem dX6_longestRound_4 : decode cX6_longestRound 4 = .ok (.iconst 0, 1) := by decide +kernel
theorem dX6_longestRound_5 : decode cX6_longestRound 5 = .ok (.istore 4, 2) := by decide +kernel
theorem dX6_longestRound_7 : decode cX6_longestRound 7 = .ok (.iload 4, 2) := by decide +kernel
theorem dX6_longestRound_9 : decode cX6_longestRound 9 = .ok (.iconst 2, 1) := by decide +kernel
theorem dX6_longestRound_10 : decode cX6_longestRound 10 = .ok (.iload_n 1, 1) := by decide +kernel
theorem dX6_longestRound_11 : decode cX6_longestRound 11 = .ok (.imul, 1) := by decide +kernel
theorem dX6_longestRound_12 : decode cX6_longestRound 12 = .ok (.if_icmp .ge 35, 3) := by decide +kernel
theorem dX6_longestRound_15 : decode cX6_longestRound 15 = .ok (.aload_n 0, 1) := by decide +kernel
theorem dX6_longestRound_16 : decode cX6_longestRound 16 = .ok (.getfield 11, 3) := by decide +kernel
theorem dX6_longestRound_19 : decode cX6_longestRound 19 = .ok (.iload 4, 2) := by decide +kernel
theorem dX6_longestRound_21 : decode cX6_longestRound 21 = .ok (.iload_n 1, 1) := by decide +kernel
theorem dX6_longestRound_22 : decode cX6_longestRound 22 = .ok (.irem, 1) := by decide +kernel
theorem dX6_longestRound_23 : decode cX6_longestRound 23 = .ok (.iaload, 1) := by decide +kernel
theorem dX6_longestRound_24 : decode cX6_longestRound 24 = .ok (.ifCond .eq 9, 3) := by decide +kernel
theorem dX6_longestRound_27 : decode cX6_longestRound 27 = .ok (.iload_n 3, 1) := by decide +kernel
theorem dX6_longestRound_28 : decode cX6_longestRound 28 = .ok (.iconst 1, 1) := by decide +kernel
theorem dX6_longestRound_29 : decode cX6_longestRound 29 = .ok (.iadd, 1) := by decide +kernel
theorem dX6_longestRound_30 : decode cX6_longestRound 30 = .ok (.goto 4, 3) := by decide +kernel
theorem dX6_longestRound_33 : decode cX6_longestRound 33 = .ok (.iconst 0, 1) := by decide +kernel
theorem dX6_longestRound_34 : decode cX6_longestRound 34 = .ok (.istore_n 3, 1) := by decide +kernel
theorem dX6_longestRound_35 : decode cX6_longestRound 35 = .ok (.iload_n 2, 1) := by decide +kernel
theorem dX6_longestRound_36 : decode cX6_longestRound 36 = .ok (.iload_n 3, 1) := by decide +kernel
theorem dX6_longestRound_37 : decode cX6_longestRound 37 = .ok (.invokestatic 71, 3) := by decide +kernel
theorem dX6_longestRound_40 : decode cX6_longestRound 40 = .ok (.istore_n 2, 1) := by decide +kernel
theorem dX6_longestRound_41 : decode cX6_longestRound 41 = .ok (.iinc 4 1, 3) := by decide +kernel
theorem dX6_longestRound_44 : decode cX6_longestRound 44 = .ok (.goto (-37), 3) := by decide +kernel
theorem dX6_longestRound_47 : decode cX6_longestRound 47 = .ok (.iload_n 2, 1) := by decide +kernel
theorem dX6_longestRound_48 : decode cX6_longestRound 48 = .ok (.iload_n 1, 1) := by decide +kernel
theorem dX6_longestRound_49 : decode cX6_longestRound 49 = .ok (.invokestatic 54, 3) := by decide +kernel
theorem dX6_longestRound_52 : decode cX6_longestRound 52 = .ok (.ireturn, 1) := by decide +kernel
theorem dX6_waysToPlank_0 : decode cX6_waysToPlank 0 = .ok (.iconst 1, 1) := by decide +kernel
theorem dX6_waysToPlank_1 : decode cX6_waysToPlank 1 = .ok (.iload_n 1, 1) := by decide +kernel
theorem dX6_waysToPlank_2 : decode cX6_waysToPlank 2 = .ok (.ishl, 1) := by decide +kernel
theorem dX6_waysToPlank_3 : decode cX6_waysToPlank 3 = .ok (.istore_n 3, 1) := by decide +kernel
theorem dX6_waysToPlank_4 : decode cX6_waysToPlank 4 = .ok (.aload_n 0, 1) := by decide +kernel
theorem dX6_waysToPlank_5 : decode cX6_waysToPlank 5 = .ok (.getfield 21, 3) := by decide +kernel
theorem dX6_waysToPlank_8 : decode cX6_waysToPlank 8 = .ok (.iconst 0, 1) := by decide +kernel
theorem dX6_waysToPlank_9 : decode cX6_waysToPlank 9 = .ok (.invokestatic 41, 3) := by decide +kernel
theorem dX6_waysToPlank_12 : decode cX6_waysToPlank 12 = .ok (.aload_n 0, 1) := by decide +kernel
theorem dX6_waysToPlank_13 : decode cX6_waysToPlank 13 = .ok (.getfield 21, 3) := by decide +kernel
theorem dX6_waysToPlank_16 : decode cX6_waysToPlank 16 = .ok (.iconst 0, 1) := by decide +kernel
theorem dX6_waysToPlank_17 : decode cX6_waysToPlank 17 = .ok (.iconst 1, 1) := by decide +kernel
theorem dX6_waysToPlank_18 : decode cX6_waysToPlank 18 = .ok (.iastore, 1) := by decide +kernel
theorem dX6_waysToPlank_19 : decode cX6_waysToPlank 19 = .ok (.iconst 0, 1) := by decide +kernel
theorem dX6_waysToPlank_20 : decode cX6_waysToPlank 20 = .ok (.istore 4, 2) := by decide +kernel
theorem dX6_waysToPlank_22 : decode cX6_waysToPlank 22 = .ok (.iload 4, 2) := by decide +kernel
theorem dX6_waysToPlank_24 : decode cX6_waysToPlank 24 = .ok (.iload_n 1, 1) := by decide +kernel
theorem dX6_waysToPlank_25 : decode cX6_waysToPlank 25 = .ok (.iload_n 2, 1) := by decide +kernel
theorem dX6_waysToPlank_26 : decode cX6_waysToPlank 26 = .ok (.imul, 1) := by decide +kernel
theorem dX6_waysToPlank_27 : decode cX6_waysToPlank 27 = .ok (.if_icmp .ge 67, 3) := by decide +kernel
theorem dX6_waysToPlank_30 : decode cX6_waysToPlank 30 = .ok (.aload_n 0, 1) := by decide +kernel
theorem dX6_waysToPlank_31 : decode cX6_waysToPlank 31 = .ok (.getfield 24, 3) := by decide +kernel
theorem dX6_waysToPlank_34 : decode cX6_waysToPlank 34 = .ok (.iconst 0, 1) := by decide +kernel
theorem dX6_waysToPlank_35 : decode cX6_waysToPlank 35 = .ok (.invokestatic 41, 3) := by decide +kernel
theorem dX6_waysToPlank_38 : decode cX6_waysToPlank 38 = .ok (.iconst 0, 1) := by decide +kernel
theorem dX6_waysToPlank_39 : decode cX6_waysToPlank 39 = .ok (.istore 5, 2) := by decide +kernel
theorem dX6_waysToPlank_41 : decode cX6_waysToPlank 41 = .ok (.iload 5, 2) := by decide +kernel
theorem dX6_waysToPlank_43 : decode cX6_waysToPlank 43 = .ok (.iload_n 3, 1) := by decide +kernel
theorem dX6_waysToPlank_44 : decode cX6_waysToPlank 44 = .ok (.if_icmp .ge 28, 3) := by decide +kernel
theorem dX6_waysToPlank_47 : decode cX6_waysToPlank 47 = .ok (.iload 5, 2) := by decide +kernel
theorem dX6_waysToPlank_49 : decode cX6_waysToPlank 49 = .ok (.sipush 256, 3) := by decide +kernel
theorem dX6_waysToPlank_52 : decode cX6_waysToPlank 52 = .ok (.if_icmp .ge 20, 3) := by decide +kernel
theorem dX6_waysToPlank_55 : decode cX6_waysToPlank 55 = .ok (.aload_n 0, 1) := by decide +kernel
theorem dX6_waysToPlank_56 : decode cX6_waysToPlank 56 = .ok (.iload 5, 2) := by decide +kernel
theorem dX6_waysToPlank_58 : decode cX6_waysToPlank 58 = .ok (.iload 4, 2) := by decide +kernel
theorem dX6_waysToPlank_60 : decode cX6_waysToPlank 60 = .ok (.iload_n 1, 1) := by decide +kernel
theorem dX6_waysToPlank_61 : decode cX6_waysToPlank 61 = .ok (.irem, 1) := by decide +kernel
theorem dX6_waysToPlank_62 : decode cX6_waysToPlank 62 = .ok (.iload_n 1, 1) := by decide +kernel
theorem dX6_waysToPlank_63 : decode cX6_waysToPlank 63 = .ok (.invokevirtual 83, 3) := by decide +kernel
theorem dX6_waysToPlank_66 : decode cX6_waysToPlank 66 = .ok (.iinc 5 1, 3) := by decide +kernel
theorem dX6_waysToPlank_69 : decode cX6_waysToPlank 69 = .ok (.goto (-28), 3) := by decide +kernel
theorem dX6_waysToPlank_72 : decode cX6_waysToPlank 72 = .ok (.aload_n 0, 1) := by decide +kernel
theorem dX6_waysToPlank_73 : decode cX6_waysToPlank 73 = .ok (.getfield 24, 3) := by decide +kernel
theorem dX6_waysToPlank_76 : decode cX6_waysToPlank 76 = .ok (.iconst 0, 1) := by decide +kernel
theorem dX6_waysToPlank_77 : decode cX6_waysToPlank 77 = .ok (.aload_n 0, 1) := by decide +kernel
theorem dX6_waysToPlank_78 : decode cX6_waysToPlank 78 = .ok (.getfield 21, 3) := by decide +kernel
theorem dX6_waysToPlank_81 : decode cX6_waysToPlank 81 = .ok (.iconst 0, 1) := by decide +kernel
theorem dX6_waysToPlank_82 : decode cX6_waysToPlank 82 = .ok (.sipush 256, 3) := by decide +kernel
theorem dX6_waysToPlank_85 : decode cX6_waysToPlank 85 = .ok (.invokestatic 87, 3) := by decide +kernel
theorem dX6_waysToPlank_88 : decode cX6_waysToPlank 88 = .ok (.iinc 4 1, 3) := by decide +kernel
theorem dX6_waysToPlank_91 : decode cX6_waysToPlank 91 = .ok (.goto (-69), 3) := by decide +kernel
theorem dX6_waysToPlank_94 : decode cX6_waysToPlank 94 = .ok (.aload_n 0, 1) := by decide +kernel
theorem dX6_waysToPlank_95 : decode cX6_waysToPlank 95 = .ok (.getfield 21, 3) := by decide +kernel
theorem dX6_waysToPlank_98 : decode cX6_waysToPlank 98 = .ok (.iconst 0, 1) := by decide +kernel
theorem dX6_waysToPlank_99 : decode cX6_waysToPlank 99 = .ok (.iaload, 1) := by decide +kernel
theorem dX6_waysToPlank_100 : decode cX6_waysToPlank 100 = .ok (.ireturn, 1) := by decide +kernel
theorem dX6_layOne_0 : decode cX6_layOne 0 = .ok (.iconst 1, 1) := by decide +kernel
theorem dX6_layOne_1 : decode cX6_layOne 1 = .ok (.iload_n 2, 1) := by decide +kernel
theorem dX6_layOne_2 : decode cX6_layOne 2 = .ok (.ishl, 1) := by decide +kernel
theorem dX6_layOne_3 : decode cX6_layOne 3 = .ok (.istore 4, 2) := by decide +kernel
theorem dX6_layOne_5 : decode cX6_layOne 5 = .ok (.iload_n 2, 1) := by decide +kernel
theorem dX6_layOne_6 : decode cX6_layOne 6 = .ok (.iconst 1, 1) := by decide +kernel
theorem dX6_layOne_7 : decode cX6_layOne 7 = .ok (.iadd, 1) := by decide +kernel
theorem dX6_layOne_8 : decode cX6_layOne 8 = .ok (.iload_n 3, 1) := by decide +kernel
theorem dX6_layOne_9 : decode cX6_layOne 9 = .ok (.if_icmp .ge 10, 3) := by decide +kernel
theorem dX6_layOne_12 : decode cX6_layOne 12 = .ok (.iload 4, 2) := by decide +kernel
theorem dX6_layOne_14 : decode cX6_layOne 14 = .ok (.iconst 1, 1) := by decide +kernel
theorem dX6_layOne_15 : decode cX6_layOne 15 = .ok (.ishl, 1) := by decide +kernel
theorem dX6_layOne_16 : decode cX6_layOne 16 = .ok (.goto 4, 3) := by decide +kernel
theorem dX6_layOne_19 : decode cX6_layOne 19 = .ok (.iconst 0, 1) := by decide +kernel
theorem dX6_layOne_20 : decode cX6_layOne 20 = .ok (.istore 5, 2) := by decide +kernel
theorem dX6_layOne_22 : decode cX6_layOne 22 = .ok (.iload_n 1, 1) := by decide +kernel
theorem dX6_layOne_23 : decode cX6_layOne 23 = .ok (.iload 4, 2) := by decide +kernel
theorem dX6_layOne_25 : decode cX6_layOne 25 = .ok (.iand, 1) := by decide +kernel
theorem dX6_layOne_26 : decode cX6_layOne 26 = .ok (.ifCond .eq 22, 3) := by decide +kernel
theorem dX6_layOne_29 : decode cX6_layOne 29 = .ok (.aload_n 0, 1) := by decide +kernel
theorem dX6_layOne_30 : decode cX6_layOne 30 = .ok (.getfield 24, 3) := by decide +kernel
theorem dX6_layOne_33 : decode cX6_layOne 33 = .ok (.iload_n 1, 1) := by decide +kernel
theorem dX6_layOne_34 : decode cX6_layOne 34 = .ok (.iload 4, 2) := by decide +kernel
theorem dX6_layOne_36 : decode cX6_layOne 36 = .ok (.ixor, 1) := by decide +kernel
theorem dX6_layOne_37 : decode cX6_layOne 37 = .ok (.dup2, 1) := by decide +kernel
theorem dX6_layOne_38 : decode cX6_layOne 38 = .ok (.iaload, 1) := by decide +kernel
theorem dX6_layOne_39 : decode cX6_layOne 39 = .ok (.aload_n 0, 1) := by decide +kernel
theorem dX6_layOne_40 : decode cX6_layOne 40 = .ok (.getfield 21, 3) := by decide +kernel
theorem dX6_layOne_43 : decode cX6_layOne 43 = .ok (.iload_n 1, 1) := by decide +kernel
theorem dX6_layOne_44 : decode cX6_layOne 44 = .ok (.iaload, 1) := by decide +kernel
theorem dX6_layOne_45 : decode cX6_layOne 45 = .ok (.iadd, 1) := by decide +kernel
theorem dX6_layOne_46 : decode cX6_layOne 46 = .ok (.iastore, 1) := by decide +kernel
theorem dX6_layOne_47 : decode cX6_layOne 47 = .ok (.return_, 1) := by decide +kernel
theorem dX6_layOne_48 : decode cX6_layOne 48 = .ok (.aload_n 0, 1) := by decide +kernel
theorem dX6_layOne_49 : decode cX6_layOne 49 = .ok (.getfield 24, 3) := by decide +kernel
theorem dX6_layOne_52 : decode cX6_layOne 52 = .ok (.iload_n 1, 1) := by decide +kernel
theorem dX6_layOne_53 : decode cX6_layOne 53 = .ok (.iload 4, 2) := by decide +kernel
theorem dX6_layOne_55 : decode cX6_layOne 55 = .ok (.ior, 1) := by decide +kernel
theorem dX6_layOne_56 : decode cX6_layOne 56 = .ok (.dup2, 1) := by decide +kernel
theorem dX6_layOne_57 : decode cX6_layOne 57 = .ok (.iaload, 1) := by decide +kernel
theorem dX6_layOne_58 : decode cX6_layOne 58 = .ok (.aload_n 0, 1) := by decide +kernel
theorem dX6_layOne_59 : decode cX6_layOne 59 = .ok (.getfield 21, 3) := by decide +kernel
theorem dX6_layOne_62 : decode cX6_layOne 62 = .ok (.iload_n 1, 1) := by decide +kernel
theorem dX6_layOne_63 : decode cX6_layOne 63 = .ok (.iaload, 1) := by decide +kernel
theorem dX6_layOne_64 : decode cX6_layOne 64 = .ok (.iadd, 1) := by decide +kernel
theorem dX6_layOne_65 : decode cX6_layOne 65 = .ok (.iastore, 1) := by decide +kernel
theorem dX6_layOne_66 : decode cX6_layOne 66 = .ok (.iload 5, 2) := by decide +kernel
theorem dX6_layOne_68 : decode cX6_layOne 68 = .ok (.ifCond .eq 28, 3) := by decide +kernel
theorem dX6_layOne_71 : decode cX6_layOne 71 = .ok (.iload_n 1, 1) := by decide +kernel
theorem dX6_layOne_72 : decode cX6_layOne 72 = .ok (.iload 5, 2) := by decide +kernel
theorem dX6_layOne_74 : decode cX6_layOne 74 = .ok (.iand, 1) := by decide +kernel
theorem dX6_layOne_75 : decode cX6_layOne 75 = .ok (.ifCond .ne 21, 3) := by decide +kernel
theorem dX6_layOne_78 : decode cX6_layOne 78 = .ok (.aload_n 0, 1) := by decide +kernel
theorem dX6_layOne_79 : decode cX6_layOne 79 = .ok (.getfield 24, 3) := by decide +kernel
theorem dX6_layOne_82 : decode cX6_layOne 82 = .ok (.iload_n 1, 1) := by decide +kernel
theorem dX6_layOne_83 : decode cX6_layOne 83 = .ok (.iload 5, 2) := by decide +kernel
theorem dX6_layOne_85 : decode cX6_layOne 85 = .ok (.ior, 1) := by decide +kernel
theorem dX6_layOne_86 : decode cX6_layOne 86 = .ok (.dup2, 1) := by decide +kernel
theorem dX6_layOne_87 : decode cX6_layOne 87 = .ok (.iaload, 1) := by decide +kernel
theorem dX6_layOne_88 : decode cX6_layOne 88 = .ok (.aload_n 0, 1) := by decide +kernel
theorem dX6_layOne_89 : decode cX6_layOne 89 = .ok (.getfield 21, 3) := by decide +kernel
theorem dX6_layOne_92 : decode cX6_layOne 92 = .ok (.iload_n 1, 1) := by decide +kernel
theorem dX6_layOne_93 : decode cX6_layOne 93 = .ok (.iaload, 1) := by decide +kernel
theorem dX6_layOne_94 : decode cX6_layOne 94 = .ok (.iadd, 1) := by decide +kernel
theorem dX6_layOne_95 : decode cX6_layOne 95 = .ok (.iastore, 1) := by decide +kernel
theorem dX6_layOne_96 : decode cX6_layOne 96 = .ok (.return_, 1) := by decide +kernel
theorem dX6_kingdoms_0 : decode cX6_kingdoms 0 = .ok (.iconst 0, 1) := by decide +kernel
theorem dX6_kingdoms_1 : decode cX6_kingdoms 1 = .ok (.istore 4, 2) := by decide +kernel
theorem dX6_kingdoms_3 : decode cX6_kingdoms 3 = .ok (.iload 4, 2) := by decide +kernel
theorem dX6_kingdoms_5 : decode cX6_kingdoms 5 = .ok (.iconst 2, 1) := by decide +kernel
theorem dX6_kingdoms_6 : decode cX6_kingdoms 6 = .ok (.iload_n 2, 1) := by decide +kernel
theorem dX6_kingdoms_7 : decode cX6_kingdoms 7 = .ok (.imul, 1) := by decide +kernel
theorem dX6_kingdoms_8 : decode cX6_kingdoms 8 = .ok (.if_icmp .ge 37, 3) := by decide +kernel
theorem dX6_kingdoms_11 : decode cX6_kingdoms 11 = .ok (.aload_n 0, 1) := by decide +kernel
theorem dX6_kingdoms_12 : decode cX6_kingdoms 12 = .ok (.getfield 27, 3) := by decide +kernel
theorem dX6_kingdoms_15 : decode cX6_kingdoms 15 = .ok (.iload 4, 2) := by decide +kernel
theorem dX6_kingdoms_17 : decode cX6_kingdoms 17 = .ok (.invokevirtual 74, 3) := by decide +kernel
theorem dX6_kingdoms_20 : decode cX6_kingdoms 20 = .ok (.ifCond .lt 16, 3) := by decide +kernel
theorem dX6_kingdoms_23 : decode cX6_kingdoms 23 = .ok (.aload_n 0, 1) := by decide +kernel
theorem dX6_kingdoms_24 : decode cX6_kingdoms 24 = .ok (.getfield 27, 3) := by decide +kernel
theorem dX6_kingdoms_27 : decode cX6_kingdoms 27 = .ok (.iload 4, 2) := by decide +kernel
theorem dX6_kingdoms_29 : decode cX6_kingdoms 29 = .ok (.invokevirtual 74, 3) := by decide +kernel
theorem dX6_kingdoms_32 : decode cX6_kingdoms 32 = .ok (.iload_n 1, 1) := by decide +kernel
theorem dX6_kingdoms_33 : decode cX6_kingdoms 33 = .ok (.if_icmp .lt 6, 3) := by decide +kernel
theorem dX6_kingdoms_36 : decode cX6_kingdoms 36 = .ok (.bipush (-3), 2) := by decide +kernel
theorem dX6_kingdoms_38 : decode cX6_kingdoms 38 = .ok (.ireturn, 1) := by decide +kernel
theorem dX6_kingdoms_39 : decode cX6_kingdoms 39 = .ok (.iinc 4 1, 3) := by decide +kernel
theorem dX6_kingdoms_42 : decode cX6_kingdoms 42 = .ok (.goto (-39), 3) := by decide +kernel
theorem dX6_kingdoms_45 : decode cX6_kingdoms 45 = .ok (.iconst 0, 1) := by decide +kernel
theorem dX6_kingdoms_46 : decode cX6_kingdoms 46 = .ok (.istore 4, 2) := by decide +kernel
theorem dX6_kingdoms_48 : decode cX6_kingdoms 48 = .ok (.iload 4, 2) := by decide +kernel
theorem dX6_kingdoms_50 : decode cX6_kingdoms 50 = .ok (.iload_n 1, 1) := by decide +kernel
theorem dX6_kingdoms_51 : decode cX6_kingdoms 51 = .ok (.if_icmp .ge 18, 3) := by decide +kernel
theorem dX6_kingdoms_54 : decode cX6_kingdoms 54 = .ok (.aload_n 0, 1) := by decide +kernel
theorem dX6_kingdoms_55 : decode cX6_kingdoms 55 = .ok (.getfield 11, 3) := by decide +kernel
theorem dX6_kingdoms_58 : decode cX6_kingdoms 58 = .ok (.iload 4, 2) := by decide +kernel
theorem dX6_kingdoms_60 : decode cX6_kingdoms 60 = .ok (.iload 4, 2) := by decide +kernel
theorem dX6_kingdoms_62 : decode cX6_kingdoms 62 = .ok (.iastore, 1) := by decide +kernel
theorem dX6_kingdoms_63 : decode cX6_kingdoms 63 = .ok (.iinc 4 1, 3) := by decide +kernel
theorem dX6_kingdoms_66 : decode cX6_kingdoms 66 = .ok (.goto (-18), 3) := by decide +kernel
theorem dX6_kingdoms_69 : decode cX6_kingdoms 69 = .ok (.iconst 0, 1) := by decide +kernel
theorem dX6_kingdoms_70 : decode cX6_kingdoms 70 = .ok (.istore 4, 2) := by decide +kernel
theorem dX6_kingdoms_72 : decode cX6_kingdoms 72 = .ok (.iconst 0, 1) := by decide +kernel
theorem dX6_kingdoms_73 : decode cX6_kingdoms 73 = .ok (.istore 5, 2) := by decide +kernel
theorem dX6_kingdoms_75 : decode cX6_kingdoms 75 = .ok (.iload 5, 2) := by decide +kernel
theorem dX6_kingdoms_77 : decode cX6_kingdoms 77 = .ok (.iload_n 2, 1) := by decide +kernel
theorem dX6_kingdoms_78 : decode cX6_kingdoms 78 = .ok (.if_icmp .ge 110, 3) := by decide +kernel
theorem dX6_kingdoms_81 : decode cX6_kingdoms 81 = .ok (.aload_n 0, 1) := by decide +kernel
theorem dX6_kingdoms_82 : decode cX6_kingdoms 82 = .ok (.getfield 11, 3) := by decide +kernel
theorem dX6_kingdoms_85 : decode cX6_kingdoms 85 = .ok (.aload_n 0, 1) := by decide +kernel
theorem dX6_kingdoms_86 : decode cX6_kingdoms 86 = .ok (.getfield 27, 3) := by decide +kernel
theorem dX6_kingdoms_89 : decode cX6_kingdoms 89 = .ok (.iconst 2, 1) := by decide +kernel
theorem dX6_kingdoms_90 : decode cX6_kingdoms 90 = .ok (.iload 5, 2) := by decide +kernel
theorem dX6_kingdoms_92 : decode cX6_kingdoms 92 = .ok (.imul, 1) := by decide +kernel
theorem dX6_kingdoms_93 : decode cX6_kingdoms 93 = .ok (.invokevirtual 74, 3) := by decide +kernel
theorem dX6_kingdoms_96 : decode cX6_kingdoms 96 = .ok (.iaload, 1) := by decide +kernel
theorem dX6_kingdoms_97 : decode cX6_kingdoms 97 = .ok (.istore 6, 2) := by decide +kernel
theorem dX6_kingdoms_99 : decode cX6_kingdoms 99 = .ok (.aload_n 0, 1) := by decide +kernel
theorem dX6_kingdoms_100 : decode cX6_kingdoms 100 = .ok (.getfield 11, 3) := by decide +kernel
theorem dX6_kingdoms_103 : decode cX6_kingdoms 103 = .ok (.aload_n 0, 1) := by decide +kernel
theorem dX6_kingdoms_104 : decode cX6_kingdoms 104 = .ok (.getfield 27, 3) := by decide +kernel
theorem dX6_kingdoms_107 : decode cX6_kingdoms 107 = .ok (.iconst 2, 1) := by decide +kernel
theorem dX6_kingdoms_108 : decode cX6_kingdoms 108 = .ok (.iload 5, 2) := by decide +kernel
theorem dX6_kingdoms_110 : decode cX6_kingdoms 110 = .ok (.imul, 1) := by decide +kernel
theorem dX6_kingdoms_111 : decode cX6_kingdoms 111 = .ok (.iconst 1, 1) := by decide +kernel
theorem dX6_kingdoms_112 : decode cX6_kingdoms 112 = .ok (.iadd, 1) := by decide +kernel
theorem dX6_kingdoms_113 : decode cX6_kingdoms 113 = .ok (.invokevirtual 74, 3) := by decide +kernel
theorem dX6_kingdoms_116 : decode cX6_kingdoms 116 = .ok (.iaload, 1) := by decide +kernel
theorem dX6_kingdoms_117 : decode cX6_kingdoms 117 = .ok (.istore 7, 2) := by decide +kernel
theorem dX6_kingdoms_119 : decode cX6_kingdoms 119 = .ok (.iload 4, 2) := by decide +kernel
theorem dX6_kingdoms_121 : decode cX6_kingdoms 121 = .ok (.iload 6, 2) := by decide +kernel
theorem dX6_kingdoms_123 : decode cX6_kingdoms 123 = .ok (.iload 7, 2) := by decide +kernel
theorem dX6_kingdoms_125 : decode cX6_kingdoms 125 = .ok (.if_icmp .ne 7, 3) := by decide +kernel
theorem dX6_kingdoms_128 : decode cX6_kingdoms 128 = .ok (.iconst 1, 1) := by decide +kernel
theorem dX6_kingdoms_129 : decode cX6_kingdoms 129 = .ok (.goto 4, 3) := by decide +kernel
theorem dX6_kingdoms_132 : decode cX6_kingdoms 132 = .ok (.iconst 0, 1) := by decide +kernel
theorem dX6_kingdoms_133 : decode cX6_kingdoms 133 = .ok (.iadd, 1) := by decide +kernel
theorem dX6_kingdoms_134 : decode cX6_kingdoms 134 = .ok (.istore 4, 2) := by decide +kernel
theorem dX6_kingdoms_136 : decode cX6_kingdoms 136 = .ok (.iconst 0, 1) := by decide +kernel
theorem dX6_kingdoms_137 : decode cX6_kingdoms 137 = .ok (.istore 8, 2) := by decide +kernel
theorem dX6_kingdoms_139 : decode cX6_kingdoms 139 = .ok (.iload 8, 2) := by decide +kernel
theorem dX6_kingdoms_141 : decode cX6_kingdoms 141 = .ok (.iload_n 1, 1) := by decide +kernel
theorem dX6_kingdoms_142 : decode cX6_kingdoms 142 = .ok (.if_icmp .ge 40, 3) := by decide +kernel
theorem dX6_kingdoms_145 : decode cX6_kingdoms 145 = .ok (.aload_n 0, 1) := by decide +kernel
theorem dX6_kingdoms_146 : decode cX6_kingdoms 146 = .ok (.getfield 11, 3) := by decide +kernel
theorem dX6_kingdoms_149 : decode cX6_kingdoms 149 = .ok (.iload 8, 2) := by decide +kernel
theorem dX6_kingdoms_151 : decode cX6_kingdoms 151 = .ok (.aload_n 0, 1) := by decide +kernel
theorem dX6_kingdoms_152 : decode cX6_kingdoms 152 = .ok (.getfield 11, 3) := by decide +kernel
theorem dX6_kingdoms_155 : decode cX6_kingdoms 155 = .ok (.iload 8, 2) := by decide +kernel
theorem dX6_kingdoms_157 : decode cX6_kingdoms 157 = .ok (.iaload, 1) := by decide +kernel
theorem dX6_kingdoms_158 : decode cX6_kingdoms 158 = .ok (.iload 7, 2) := by decide +kernel
theorem dX6_kingdoms_160 : decode cX6_kingdoms 160 = .ok (.if_icmp .ne 8, 3) := by decide +kernel
theorem dX6_kingdoms_163 : decode cX6_kingdoms 163 = .ok (.iload 6, 2) := by decide +kernel
theorem dX6_kingdoms_165 : decode cX6_kingdoms 165 = .ok (.goto 10, 3) := by decide +kernel
theorem dX6_kingdoms_168 : decode cX6_kingdoms 168 = .ok (.aload_n 0, 1) := by decide +kernel
theorem dX6_kingdoms_169 : decode cX6_kingdoms 169 = .ok (.getfield 11, 3) := by decide +kernel
theorem dX6_kingdoms_172 : decode cX6_kingdoms 172 = .ok (.iload 8, 2) := by decide +kernel
theorem dX6_kingdoms_174 : decode cX6_kingdoms 174 = .ok (.iaload, 1) := by decide +kernel
theorem dX6_kingdoms_175 : decode cX6_kingdoms 175 = .ok (.iastore, 1) := by decide +kernel
theorem dX6_kingdoms_176 : decode cX6_kingdoms 176 = .ok (.iinc 8 1, 3) := by decide +kernel
theorem dX6_kingdoms_179 : decode cX6_kingdoms 179 = .ok (.goto (-40), 3) := by decide +kernel
theorem dX6_kingdoms_182 : decode cX6_kingdoms 182 = .ok (.iinc 5 1, 3) := by decide +kernel
theorem dX6_kingdoms_185 : decode cX6_kingdoms 185 = .ok (.goto (-110), 3) := by decide +kernel
theorem dX6_kingdoms_188 : decode cX6_kingdoms 188 = .ok (.iload_n 3, 1) := by decide +kernel
theorem dX6_kingdoms_189 : decode cX6_kingdoms 189 = .ok (.lookupswitch 40 #[(0, 27), (1, 34)], 27) := by decide +kernel
theorem dX6_kingdoms_216 : decode cX6_kingdoms 216 = .ok (.iload_n 1, 1) := by decide +kernel
theorem dX6_kingdoms_217 : decode cX6_kingdoms 217 = .ok (.iload_n 2, 1) := by decide +kernel
theorem dX6_kingdoms_218 : decode cX6_kingdoms 218 = .ok (.iload 4, 2) := by decide +kernel
theorem dX6_kingdoms_220 : decode cX6_kingdoms 220 = .ok (.isub, 1) := by decide +kernel
theorem dX6_kingdoms_221 : decode cX6_kingdoms 221 = .ok (.isub, 1) := by decide +kernel
theorem dX6_kingdoms_222 : decode cX6_kingdoms 222 = .ok (.ireturn, 1) := by decide +kernel
theorem dX6_kingdoms_223 : decode cX6_kingdoms 223 = .ok (.aload_n 0, 1) := by decide +kernel
theorem dX6_kingdoms_224 : decode cX6_kingdoms 224 = .ok (.iload_n 1, 1) := by decide +kernel
theorem dX6_kingdoms_225 : decode cX6_kingdoms 225 = .ok (.invokevirtual 93, 3) := by decide +kernel
theorem dX6_kingdoms_228 : decode cX6_kingdoms 228 = .ok (.ireturn, 1) := by decide +kernel
theorem dX6_kingdoms_229 : decode cX6_kingdoms 229 = .ok (.iload 4, 2) := by decide +kernel
theorem dX6_kingdoms_231 : decode cX6_kingdoms 231 = .ok (.ireturn, 1) := by decide +kernel
theorem dX6_largestKingdom_0 : decode cX6_largestKingdom 0 = .ok (.iconst 0, 1) := by decide +kernel
theorem dX6_largestKingdom_1 : decode cX6_largestKingdom 1 = .ok (.istore_n 2, 1) := by decide +kernel
theorem dX6_largestKingdom_2 : decode cX6_largestKingdom 2 = .ok (.iconst 0, 1) := by decide +kernel
theorem dX6_largestKingdom_3 : decode cX6_largestKingdom 3 = .ok (.istore_n 3, 1) := by decide +kernel
theorem dX6_largestKingdom_4 : decode cX6_largestKingdom 4 = .ok (.iload_n 3, 1) := by decide +kernel
theorem dX6_largestKingdom_5 : decode cX6_largestKingdom 5 = .ok (.iload_n 1, 1) := by decide +kernel
theorem dX6_largestKingdom_6 : decode cX6_largestKingdom 6 = .ok (.if_icmp .ge 55, 3) := by decide +kernel
theorem dX6_largestKingdom_9 : decode cX6_largestKingdom 9 = .ok (.iconst 0, 1) := by decide +kernel
theorem dX6_largestKingdom_10 : decode cX6_largestKingdom 10 = .ok (.istore 4, 2) := by decide +kernel
theorem dX6_largestKingdom_12 : decode cX6_largestKingdom 12 = .ok (.iconst 0, 1) := by decide +kernel
theorem dX6_largestKingdom_13 : decode cX6_largestKingdom 13 = .ok (.istore 5, 2) := by decide +kernel
theorem dX6_largestKingdom_15 : decode cX6_largestKingdom 15 = .ok (.iload 5, 2) := by decide +kernel
theorem dX6_largestKingdom_17 : decode cX6_largestKingdom 17 = .ok (.iload_n 1, 1) := by decide +kernel
theorem dX6_largestKingdom_18 : decode cX6_largestKingdom 18 = .ok (.if_icmp .ge 30, 3) := by decide +kernel
theorem dX6_largestKingdom_21 : decode cX6_largestKingdom 21 = .ok (.iload 4, 2) := by decide +kernel
theorem dX6_largestKingdom_23 : decode cX6_largestKingdom 23 = .ok (.aload_n 0, 1) := by decide +kernel
theorem dX6_largestKingdom_24 : decode cX6_largestKingdom 24 = .ok (.getfield 11, 3) := by decide +kernel
theorem dX6_largestKingdom_27 : decode cX6_largestKingdom 27 = .ok (.iload 5, 2) := by decide +kernel
theorem dX6_largestKingdom_29 : decode cX6_largestKingdom 29 = .ok (.iaload, 1) := by decide +kernel
theorem dX6_largestKingdom_30 : decode cX6_largestKingdom 30 = .ok (.iload_n 3, 1) := by decide +kernel
theorem dX6_largestKingdom_31 : decode cX6_largestKingdom 31 = .ok (.if_icmp .ne 7, 3) := by decide +kernel
theorem dX6_largestKingdom_34 : decode cX6_largestKingdom 34 = .ok (.iconst 1, 1) := by decide +kernel
theorem dX6_largestKingdom_35 : decode cX6_largestKingdom 35 = .ok (.goto 4, 3) := by decide +kernel
theorem dX6_largestKingdom_38 : decode cX6_largestKingdom 38 = .ok (.iconst 0, 1) := by decide +kernel
theorem dX6_largestKingdom_39 : decode cX6_largestKingdom 39 = .ok (.iadd, 1) := by decide +kernel
theorem dX6_largestKingdom_40 : decode cX6_largestKingdom 40 = .ok (.istore 4, 2) := by decide +kernel
theorem dX6_largestKingdom_42 : decode cX6_largestKingdom 42 = .ok (.iinc 5 1, 3) := by decide +kernel
theorem dX6_largestKingdom_45 : decode cX6_largestKingdom 45 = .ok (.goto (-30), 3) := by decide +kernel
theorem dX6_largestKingdom_48 : decode cX6_largestKingdom 48 = .ok (.iload_n 2, 1) := by decide +kernel
theorem dX6_largestKingdom_49 : decode cX6_largestKingdom 49 = .ok (.iload 4, 2) := by decide +kernel
theorem dX6_largestKingdom_51 : decode cX6_largestKingdom 51 = .ok (.invokestatic 71, 3) := by decide +kernel
theorem dX6_largestKingdom_54 : decode cX6_largestKingdom 54 = .ok (.istore_n 2, 1) := by decide +kernel
theorem dX6_largestKingdom_55 : decode cX6_largestKingdom 55 = .ok (.iinc 3 1, 3) := by decide +kernel
theorem dX6_largestKingdom_58 : decode cX6_largestKingdom 58 = .ok (.goto (-54), 3) := by decide +kernel
theorem dX6_largestKingdom_61 : decode cX6_largestKingdom 61 = .ok (.iload_n 2, 1) := by decide +kernel
theorem dX6_largestKingdom_62 : decode cX6_largestKingdom 62 = .ok (.ireturn, 1) := by decide +kernel
theorem dX6_heirInLine_0 : decode cX6_heirInLine 0 = .ok (.iconst 1, 1) := by decide +kernel
theorem dX6_heirInLine_1 : decode cX6_heirInLine 1 = .ok (.istore_n 3, 1) := by decide +kernel
theorem dX6_heirInLine_2 : decode cX6_heirInLine 2 = .ok (.iload_n 3, 1) := by decide +kernel
theorem dX6_heirInLine_3 : decode cX6_heirInLine 3 = .ok (.iload_n 1, 1) := by decide +kernel
theorem dX6_heirInLine_4 : decode cX6_heirInLine 4 = .ok (.if_icmp .ge 26, 3) := by decide +kernel
theorem dX6_heirInLine_7 : decode cX6_heirInLine 7 = .ok (.aload_n 0, 1) := by decide +kernel
theorem dX6_heirInLine_8 : decode cX6_heirInLine 8 = .ok (.getfield 27, 3) := by decide +kernel
theorem dX6_heirInLine_11 : decode cX6_heirInLine 11 = .ok (.iload_n 3, 1) := by decide +kernel
theorem dX6_heirInLine_12 : decode cX6_heirInLine 12 = .ok (.iconst 2, 1) := by decide +kernel
theorem dX6_heirInLine_13 : decode cX6_heirInLine 13 = .ok (.iadd, 1) := by decide +kernel
theorem dX6_heirInLine_14 : decode cX6_heirInLine 14 = .ok (.invokevirtual 74, 3) := by decide +kernel
theorem dX6_heirInLine_17 : decode cX6_heirInLine 17 = .ok (.iload_n 3, 1) := by decide +kernel
theorem dX6_heirInLine_18 : decode cX6_heirInLine 18 = .ok (.if_icmp .lt 6, 3) := by decide +kernel
theorem dX6_heirInLine_21 : decode cX6_heirInLine 21 = .ok (.bipush (-3), 2) := by decide +kernel
theorem dX6_heirInLine_23 : decode cX6_heirInLine 23 = .ok (.ireturn, 1) := by decide +kernel
theorem dX6_heirInLine_24 : decode cX6_heirInLine 24 = .ok (.iinc 3 1, 3) := by decide +kernel
theorem dX6_heirInLine_27 : decode cX6_heirInLine 27 = .ok (.goto (-25), 3) := by decide +kernel
theorem dX6_heirInLine_30 : decode cX6_heirInLine 30 = .ok (.aload_n 0, 1) := by decide +kernel
theorem dX6_heirInLine_31 : decode cX6_heirInLine 31 = .ok (.iload_n 1, 1) := by decide +kernel
theorem dX6_heirInLine_32 : decode cX6_heirInLine 32 = .ok (.invokevirtual 96, 3) := by decide +kernel
theorem dX6_heirInLine_35 : decode cX6_heirInLine 35 = .ok (.aload_n 0, 1) := by decide +kernel
theorem dX6_heirInLine_36 : decode cX6_heirInLine 36 = .ok (.getfield 27, 3) := by decide +kernel
theorem dX6_heirInLine_39 : decode cX6_heirInLine 39 = .ok (.iconst 0, 1) := by decide +kernel
theorem dX6_heirInLine_40 : decode cX6_heirInLine 40 = .ok (.invokevirtual 74, 3) := by decide +kernel
theorem dX6_heirInLine_43 : decode cX6_heirInLine 43 = .ok (.bipush 8, 2) := by decide +kernel
theorem dX6_heirInLine_45 : decode cX6_heirInLine 45 = .ok (.ishl, 1) := by decide +kernel
theorem dX6_heirInLine_46 : decode cX6_heirInLine 46 = .ok (.aload_n 0, 1) := by decide +kernel
theorem dX6_heirInLine_47 : decode cX6_heirInLine 47 = .ok (.getfield 27, 3) := by decide +kernel
theorem dX6_heirInLine_50 : decode cX6_heirInLine 50 = .ok (.iconst 1, 1) := by decide +kernel
theorem dX6_heirInLine_51 : decode cX6_heirInLine 51 = .ok (.invokevirtual 74, 3) := by decide +kernel
theorem dX6_heirInLine_54 : decode cX6_heirInLine 54 = .ok (.ior, 1) := by decide +kernel
theorem dX6_heirInLine_55 : decode cX6_heirInLine 55 = .ok (.istore_n 3, 1) := by decide +kernel
theorem dX6_heirInLine_56 : decode cX6_heirInLine 56 = .ok (.iconst 0, 1) := by decide +kernel
theorem dX6_heirInLine_57 : decode cX6_heirInLine 57 = .ok (.istore 4, 2) := by decide +kernel
theorem dX6_heirInLine_59 : decode cX6_heirInLine 59 = .ok (.iconst 0, 1) := by decide +kernel
theorem dX6_heirInLine_60 : decode cX6_heirInLine 60 = .ok (.istore 5, 2) := by decide +kernel
theorem dX6_heirInLine_62 : decode cX6_heirInLine 62 = .ok (.iload 5, 2) := by decide +kernel
theorem dX6_heirInLine_64 : decode cX6_heirInLine 64 = .ok (.iload_n 1, 1) := by decide +kernel
theorem dX6_heirInLine_65 : decode cX6_heirInLine 65 = .ok (.if_icmp .ge 40, 3) := by decide +kernel
theorem dX6_heirInLine_68 : decode cX6_heirInLine 68 = .ok (.iload_n 3, 1) := by decide +kernel
theorem dX6_heirInLine_69 : decode cX6_heirInLine 69 = .ok (.aload_n 0, 1) := by decide +kernel
theorem dX6_heirInLine_70 : decode cX6_heirInLine 70 = .ok (.getfield 11, 3) := by decide +kernel
theorem dX6_heirInLine_73 : decode cX6_heirInLine 73 = .ok (.iload 5, 2) := by decide +kernel
theorem dX6_heirInLine_75 : decode cX6_heirInLine 75 = .ok (.iaload, 1) := by decide +kernel
theorem dX6_heirInLine_76 : decode cX6_heirInLine 76 = .ok (.ishr, 1) := by decide +kernel
theorem dX6_heirInLine_77 : decode cX6_heirInLine 77 = .ok (.iconst 1, 1) := by decide +kernel
theorem dX6_heirInLine_78 : decode cX6_heirInLine 78 = .ok (.iand, 1) := by decide +kernel
theorem dX6_heirInLine_79 : decode cX6_heirInLine 79 = .ok (.ifCond .ne 20, 3) := by decide +kernel
theorem dX6_heirInLine_82 : decode cX6_heirInLine 82 = .ok (.iload 4, 2) := by decide +kernel
theorem dX6_heirInLine_84 : decode cX6_heirInLine 84 = .ok (.iload_n 2, 1) := by decide +kernel
theorem dX6_heirInLine_85 : decode cX6_heirInLine 85 = .ok (.if_icmp .ne 11, 3) := by decide +kernel
theorem dX6_heirInLine_88 : decode cX6_heirInLine 88 = .ok (.aload_n 0, 1) := by decide +kernel
theorem dX6_heirInLine_89 : decode cX6_heirInLine 89 = .ok (.getfield 11, 3) := by decide +kernel
theorem dX6_heirInLine_92 : decode cX6_heirInLine 92 = .ok (.iload 5, 2) := by decide +kernel
theorem dX6_heirInLine_94 : decode cX6_heirInLine 94 = .ok (.iaload, 1) := by decide +kernel
theorem dX6_heirInLine_95 : decode cX6_heirInLine 95 = .ok (.ireturn, 1) := by decide +kernel
theorem dX6_heirInLine_96 : decode cX6_heirInLine 96 = .ok (.iinc 4 1, 3) := by decide +kernel
theorem dX6_heirInLine_99 : decode cX6_heirInLine 99 = .ok (.iinc 5 1, 3) := by decide +kernel
theorem dX6_heirInLine_102 : decode cX6_heirInLine 102 = .ok (.goto (-40), 3) := by decide +kernel
theorem dX6_heirInLine_105 : decode cX6_heirInLine 105 = .ok (.bipush (-4), 2) := by decide +kernel
theorem dX6_heirInLine_107 : decode cX6_heirInLine 107 = .ok (.ireturn, 1) := by decide +kernel
theorem dX6_layLine_0 : decode cX6_layLine 0 = .ok (.iconst 1, 1) := by decide +kernel
theorem dX6_layLine_1 : decode cX6_layLine 1 = .ok (.istore_n 2, 1) := by decide +kernel
theorem dX6_layLine_2 : decode cX6_layLine 2 = .ok (.aload_n 0, 1) := by decide +kernel
theorem dX6_layLine_3 : decode cX6_layLine 3 = .ok (.getfield 15, 3) := by decide +kernel
theorem dX6_layLine_6 : decode cX6_layLine 6 = .ok (.iconst 0, 1) := by decide +kernel
theorem dX6_layLine_7 : decode cX6_layLine 7 = .ok (.iconst 0, 1) := by decide +kernel
theorem dX6_layLine_8 : decode cX6_layLine 8 = .ok (.iastore, 1) := by decide +kernel
theorem dX6_layLine_9 : decode cX6_layLine 9 = .ok (.iconst 0, 1) := by decide +kernel
theorem dX6_layLine_10 : decode cX6_layLine 10 = .ok (.istore_n 3, 1) := by decide +kernel
theorem dX6_layLine_11 : decode cX6_layLine 11 = .ok (.iload_n 3, 1) := by decide +kernel
theorem dX6_layLine_12 : decode cX6_layLine 12 = .ok (.iload_n 1, 1) := by decide +kernel
theorem dX6_layLine_13 : decode cX6_layLine 13 = .ok (.if_icmp .ge 83, 3) := by decide +kernel
theorem dX6_layLine_16 : decode cX6_layLine 16 = .ok (.iload_n 2, 1) := by decide +kernel
theorem dX6_layLine_17 : decode cX6_layLine 17 = .ok (.ifCond .le 79, 3) := by decide +kernel
theorem dX6_layLine_20 : decode cX6_layLine 20 = .ok (.iinc 2 (-1), 3) := by decide +kernel
theorem dX6_layLine_23 : decode cX6_layLine 23 = .ok (.aload_n 0, 1) := by decide +kernel
theorem dX6_layLine_24 : decode cX6_layLine 24 = .ok (.getfield 15, 3) := by decide +kernel
theorem dX6_layLine_27 : decode cX6_layLine 27 = .ok (.iload_n 2, 1) := by decide +kernel
theorem dX6_layLine_28 : decode cX6_layLine 28 = .ok (.iaload, 1) := by decide +kernel
theorem dX6_layLine_29 : decode cX6_layLine 29 = .ok (.istore 4, 2) := by decide +kernel
theorem dX6_layLine_31 : decode cX6_layLine 31 = .ok (.aload_n 0, 1) := by decide +kernel
theorem dX6_layLine_32 : decode cX6_layLine 32 = .ok (.getfield 11, 3) := by decide +kernel
theorem dX6_layLine_35 : decode cX6_layLine 35 = .ok (.iload_n 3, 1) := by decide +kernel
theorem dX6_layLine_36 : decode cX6_layLine 36 = .ok (.iload 4, 2) := by decide +kernel
theorem dX6_layLine_38 : decode cX6_layLine 38 = .ok (.iastore, 1) := by decide +kernel
theorem dX6_layLine_39 : decode cX6_layLine 39 = .ok (.iload_n 1, 1) := by decide +kernel
theorem dX6_layLine_40 : decode cX6_layLine 40 = .ok (.iconst 1, 1) := by decide +kernel
theorem dX6_layLine_41 : decode cX6_layLine 41 = .ok (.isub, 1) := by decide +kernel
theorem dX6_layLine_42 : decode cX6_layLine 42 = .ok (.istore 5, 2) := by decide +kernel
theorem dX6_layLine_44 : decode cX6_layLine 44 = .ok (.iload 5, 2) := by decide +kernel
theorem dX6_layLine_46 : decode cX6_layLine 46 = .ok (.iload 4, 2) := by decide +kernel
theorem dX6_layLine_48 : decode cX6_layLine 48 = .ok (.if_icmp .le 42, 3) := by decide +kernel
theorem dX6_layLine_51 : decode cX6_layLine 51 = .ok (.aload_n 0, 1) := by decide +kernel
theorem dX6_layLine_52 : decode cX6_layLine 52 = .ok (.getfield 27, 3) := by decide +kernel
theorem dX6_layLine_55 : decode cX6_layLine 55 = .ok (.iload 5, 2) := by decide +kernel
theorem dX6_layLine_57 : decode cX6_layLine 57 = .ok (.iconst 2, 1) := by decide +kernel
theorem dX6_layLine_58 : decode cX6_layLine 58 = .ok (.iadd, 1) := by decide +kernel
theorem dX6_layLine_59 : decode cX6_layLine 59 = .ok (.invokevirtual 74, 3) := by decide +kernel
theorem dX6_layLine_62 : decode cX6_layLine 62 = .ok (.iload 4, 2) := by decide +kernel
theorem dX6_layLine_64 : decode cX6_layLine 64 = .ok (.if_icmp .ne 20, 3) := by decide +kernel
theorem dX6_layLine_67 : decode cX6_layLine 67 = .ok (.iload_n 2, 1) := by decide +kernel
theorem dX6_layLine_68 : decode cX6_layLine 68 = .ok (.bipush 24, 2) := by decide +kernel
theorem dX6_layLine_70 : decode cX6_layLine 70 = .ok (.if_icmp .ge 14, 3) := by decide +kernel
theorem dX6_layLine_73 : decode cX6_layLine 73 = .ok (.aload_n 0, 1) := by decide +kernel
theorem dX6_layLine_74 : decode cX6_layLine 74 = .ok (.getfield 15, 3) := by decide +kernel
theorem dX6_layLine_77 : decode cX6_layLine 77 = .ok (.iload_n 2, 1) := by decide +kernel
theorem dX6_layLine_78 : decode cX6_layLine 78 = .ok (.iload 5, 2) := by decide +kernel
theorem dX6_layLine_80 : decode cX6_layLine 80 = .ok (.iastore, 1) := by decide +kernel
theorem dX6_layLine_81 : decode cX6_layLine 81 = .ok (.iinc 2 1, 3) := by decide +kernel
theorem dX6_layLine_84 : decode cX6_layLine 84 = .ok (.iinc 5 (-1), 3) := by decide +kernel
theorem dX6_layLine_87 : decode cX6_layLine 87 = .ok (.goto (-43), 3) := by decide +kernel
theorem dX6_layLine_90 : decode cX6_layLine 90 = .ok (.iinc 3 1, 3) := by decide +kernel
theorem dX6_layLine_93 : decode cX6_layLine 93 = .ok (.goto (-82), 3) := by decide +kernel
theorem dX6_layLine_96 : decode cX6_layLine 96 = .ok (.return_, 1) := by decide +kernel
theorem dX6_heardToTheEnd_0 : decode cX6_heardToTheEnd 0 = .ok (.aload_n 0, 1) := by decide +kernel
theorem dX6_heardToTheEnd_1 : decode cX6_heardToTheEnd 1 = .ok (.iload_n 1, 1) := by decide +kernel
theorem dX6_heardToTheEnd_2 : decode cX6_heardToTheEnd 2 = .ok (.iload_n 2, 1) := by decide +kernel
theorem dX6_heardToTheEnd_3 : decode cX6_heardToTheEnd 3 = .ok (.invokevirtual 100, 3) := by decide +kernel
theorem dX6_heardToTheEnd_6 : decode cX6_heardToTheEnd 6 = .ok (.aload_n 0, 1) := by decide +kernel
theorem dX6_heardToTheEnd_7 : decode cX6_heardToTheEnd 7 = .ok (.getfield 27, 3) := by decide +kernel
theorem dX6_heardToTheEnd_10 : decode cX6_heardToTheEnd 10 = .ok (.iconst 2, 1) := by decide +kernel
theorem dX6_heardToTheEnd_11 : decode cX6_heardToTheEnd 11 = .ok (.iload_n 2, 1) := by decide +kernel
theorem dX6_heardToTheEnd_12 : decode cX6_heardToTheEnd 12 = .ok (.imul, 1) := by decide +kernel
theorem dX6_heardToTheEnd_13 : decode cX6_heardToTheEnd 13 = .ok (.iconst 1, 1) := by decide +kernel
theorem dX6_heardToTheEnd_14 : decode cX6_heardToTheEnd 14 = .ok (.iadd, 1) := by decide +kernel
theorem dX6_heardToTheEnd_15 : decode cX6_heardToTheEnd 15 = .ok (.invokevirtual 74, 3) := by decide +kernel
theorem dX6_heardToTheEnd_18 : decode cX6_heardToTheEnd 18 = .ok (.iadd, 1) := by decide +kernel
theorem dX6_heardToTheEnd_19 : decode cX6_heardToTheEnd 19 = .ok (.ireturn, 1) := by decide +kernel
theorem dX6_waitOfAll_0 : decode cX6_waitOfAll 0 = .ok (.iconst 0, 1) := by decide +kernel
theorem dX6_waitOfAll_1 : decode cX6_waitOfAll 1 = .ok (.istore_n 2, 1) := by decide +kernel
theorem dX6_waitOfAll_2 : decode cX6_waitOfAll 2 = .ok (.iconst 0, 1) := by decide +kernel
theorem dX6_waitOfAll_3 : decode cX6_waitOfAll 3 = .ok (.istore_n 3, 1) := by decide +kernel
theorem dX6_waitOfAll_4 : decode cX6_waitOfAll 4 = .ok (.iload_n 3, 1) := by decide +kernel
theorem dX6_waitOfAll_5 : decode cX6_waitOfAll 5 = .ok (.iload_n 1, 1) := by decide +kernel
theorem dX6_waitOfAll_6 : decode cX6_waitOfAll 6 = .ok (.if_icmp .ge 18, 3) := by decide +kernel
theorem dX6_waitOfAll_9 : decode cX6_waitOfAll 9 = .ok (.iload_n 2, 1) := by decide +kernel
theorem dX6_waitOfAll_10 : decode cX6_waitOfAll 10 = .ok (.aload_n 0, 1) := by decide +kernel
theorem dX6_waitOfAll_11 : decode cX6_waitOfAll 11 = .ok (.iload_n 1, 1) := by decide +kernel
theorem dX6_waitOfAll_12 : decode cX6_waitOfAll 12 = .ok (.iload_n 3, 1) := by decide +kernel
theorem dX6_waitOfAll_13 : decode cX6_waitOfAll 13 = .ok (.invokevirtual 100, 3) := by decide +kernel
theorem dX6_waitOfAll_16 : decode cX6_waitOfAll 16 = .ok (.iadd, 1) := by decide +kernel
theorem dX6_waitOfAll_17 : decode cX6_waitOfAll 17 = .ok (.istore_n 2, 1) := by decide +kernel
theorem dX6_waitOfAll_18 : decode cX6_waitOfAll 18 = .ok (.iinc 3 1, 3) := by decide +kernel
theorem dX6_waitOfAll_21 : decode cX6_waitOfAll 21 = .ok (.goto (-17), 3) := by decide +kernel
theorem dX6_waitOfAll_24 : decode cX6_waitOfAll 24 = .ok (.iload_n 2, 1) := by decide +kernel
theorem dX6_waitOfAll_25 : decode cX6_waitOfAll 25 = .ok (.ireturn, 1) := by decide +kernel
theorem dX6_waitOf_0 : decode cX6_waitOf 0 = .ok (.aload_n 0, 1) := by decide +kernel
theorem dX6_waitOf_1 : decode cX6_waitOf 1 = .ok (.getfield 27, 3) := by decide +kernel
theorem dX6_waitOf_4 : decode cX6_waitOf 4 = .ok (.iconst 2, 1) := by decide +kernel
theorem dX6_waitOf_5 : decode cX6_waitOf 5 = .ok (.iload_n 2, 1) := by decide +kernel
theorem dX6_waitOf_6 : decode cX6_waitOf 6 = .ok (.imul, 1) := by decide +kernel
theorem dX6_waitOf_7 : decode cX6_waitOf 7 = .ok (.invokevirtual 74, 3) := by decide +kernel
theorem dX6_waitOf_10 : decode cX6_waitOf 10 = .ok (.istore_n 3, 1) := by decide +kernel
theorem dX6_waitOf_11 : decode cX6_waitOf 11 = .ok (.iconst 0, 1) := by decide +kernel
theorem dX6_waitOf_12 : decode cX6_waitOf 12 = .ok (.istore 4, 2) := by decide +kernel
theorem dX6_waitOf_14 : decode cX6_waitOf 14 = .ok (.iconst 0, 1) := by decide +kernel
theorem dX6_waitOf_15 : decode cX6_waitOf 15 = .ok (.istore 5, 2) := by decide +kernel
theorem dX6_waitOf_17 : decode cX6_waitOf 17 = .ok (.iload 5, 2) := by decide +kernel
theorem dX6_waitOf_19 : decode cX6_waitOf 19 = .ok (.iload_n 1, 1) := by decide +kernel
theorem dX6_waitOf_20 : decode cX6_waitOf 20 = .ok (.if_icmp .ge 58, 3) := by decide +kernel
theorem dX6_waitOf_23 : decode cX6_waitOf 23 = .ok (.aload_n 0, 1) := by decide +kernel
theorem dX6_waitOf_24 : decode cX6_waitOf 24 = .ok (.getfield 27, 3) := by decide +kernel
theorem dX6_waitOf_27 : decode cX6_waitOf 27 = .ok (.iconst 2, 1) := by decide +kernel
theorem dX6_waitOf_28 : decode cX6_waitOf 28 = .ok (.iload 5, 2) := by decide +kernel
theorem dX6_waitOf_30 : decode cX6_waitOf 30 = .ok (.imul, 1) := by decide +kernel
theorem dX6_waitOf_31 : decode cX6_waitOf 31 = .ok (.invokevirtual 74, 3) := by decide +kernel
theorem dX6_waitOf_34 : decode cX6_waitOf 34 = .ok (.istore 6, 2) := by decide +kernel
theorem dX6_waitOf_36 : decode cX6_waitOf 36 = .ok (.iload 6, 2) := by decide +kernel
theorem dX6_waitOf_38 : decode cX6_waitOf 38 = .ok (.iload_n 3, 1) := by decide +kernel
theorem dX6_waitOf_39 : decode cX6_waitOf 39 = .ok (.if_icmp .gt 15, 3) := by decide +kernel
theorem dX6_waitOf_42 : decode cX6_waitOf 42 = .ok (.iload 6, 2) := by decide +kernel
theorem dX6_waitOf_44 : decode cX6_waitOf 44 = .ok (.iload_n 3, 1) := by decide +kernel
theorem dX6_waitOf_45 : decode cX6_waitOf 45 = .ok (.if_icmp .ne 27, 3) := by decide +kernel
theorem dX6_waitOf_48 : decode cX6_waitOf 48 = .ok (.iload 5, 2) := by decide +kernel
theorem dX6_waitOf_50 : decode cX6_waitOf 50 = .ok (.iload_n 2, 1) := by decide +kernel
theorem dX6_waitOf_51 : decode cX6_waitOf 51 = .ok (.if_icmp .ge 21, 3) := by decide +kernel
theorem dX6_waitOf_54 : decode cX6_waitOf 54 = .ok (.iload 4, 2) := by decide +kernel
theorem dX6_waitOf_56 : decode cX6_waitOf 56 = .ok (.aload_n 0, 1) := by decide +kernel
theorem dX6_waitOf_57 : decode cX6_waitOf 57 = .ok (.getfield 27, 3) := by decide +kernel
theorem dX6_waitOf_60 : decode cX6_waitOf 60 = .ok (.iconst 2, 1) := by decide +kernel
theorem dX6_waitOf_61 : decode cX6_waitOf 61 = .ok (.iload 5, 2) := by decide +kernel
theorem dX6_waitOf_63 : decode cX6_waitOf 63 = .ok (.imul, 1) := by decide +kernel
theorem dX6_waitOf_64 : decode cX6_waitOf 64 = .ok (.iconst 1, 1) := by decide +kernel
theorem dX6_waitOf_65 : decode cX6_waitOf 65 = .ok (.iadd, 1) := by decide +kernel
theorem dX6_waitOf_66 : decode cX6_waitOf 66 = .ok (.invokevirtual 74, 3) := by decide +kernel
theorem dX6_waitOf_69 : decode cX6_waitOf 69 = .ok (.iadd, 1) := by decide +kernel
theorem dX6_waitOf_70 : decode cX6_waitOf 70 = .ok (.istore 4, 2) := by decide +kernel
theorem dX6_waitOf_72 : decode cX6_waitOf 72 = .ok (.iinc 5 1, 3) := by decide +kernel
theorem dX6_waitOf_75 : decode cX6_waitOf 75 = .ok (.goto (-58), 3) := by decide +kernel
theorem dX6_waitOf_78 : decode cX6_waitOf 78 = .ok (.iload 4, 2) := by decide +kernel
theorem dX6_waitOf_80 : decode cX6_waitOf 80 = .ok (.ireturn, 1) := by decide +kernel
theorem dX6_strokes_0 : decode cX6_strokes 0 = .ok (.iconst 0, 1) := by decide +kernel
theorem dX6_strokes_1 : decode cX6_strokes 1 = .ok (.istore_n 2, 1) := by decide +kernel
theorem dX6_strokes_2 : decode cX6_strokes 2 = .ok (.iload_n 0, 1) := by decide +kernel
theorem dX6_strokes_3 : decode cX6_strokes 3 = .ok (.istore_n 3, 1) := by decide +kernel
theorem dX6_strokes_4 : decode cX6_strokes 4 = .ok (.iload_n 3, 1) := by decide +kernel
theorem dX6_strokes_5 : decode cX6_strokes 5 = .ok (.iload_n 1, 1) := by decide +kernel
theorem dX6_strokes_6 : decode cX6_strokes 6 = .ok (.if_icmp .gt 55, 3) := by decide +kernel
theorem dX6_strokes_9 : decode cX6_strokes 9 = .ok (.iload_n 3, 1) := by decide +kernel
theorem dX6_strokes_10 : decode cX6_strokes 10 = .ok (.bipush 60, 2) := by decide +kernel
theorem dX6_strokes_12 : decode cX6_strokes 12 = .ok (.irem, 1) := by decide +kernel
theorem dX6_strokes_13 : decode cX6_strokes 13 = .ok (.bipush 30, 2) := by decide +kernel
theorem dX6_strokes_15 : decode cX6_strokes 15 = .ok (.if_icmp .ne 9, 3) := by decide +kernel
theorem dX6_strokes_18 : decode cX6_strokes 18 = .ok (.iinc 2 1, 3) := by decide +kernel
theorem dX6_strokes_21 : decode cX6_strokes 21 = .ok (.goto 34, 3) := by decide +kernel
theorem dX6_strokes_24 : decode cX6_strokes 24 = .ok (.iload_n 3, 1) := by decide +kernel
theorem dX6_strokes_25 : decode cX6_strokes 25 = .ok (.bipush 60, 2) := by decide +kernel
theorem dX6_strokes_27 : decode cX6_strokes 27 = .ok (.irem, 1) := by decide +kernel
theorem dX6_strokes_28 : decode cX6_strokes 28 = .ok (.ifCond .ne 27, 3) := by decide +kernel
theorem dX6_strokes_31 : decode cX6_strokes 31 = .ok (.iload_n 3, 1) := by decide +kernel
theorem dX6_strokes_32 : decode cX6_strokes 32 = .ok (.bipush 60, 2) := by decide +kernel
theorem dX6_strokes_34 : decode cX6_strokes 34 = .ok (.idiv, 1) := by decide +kernel
theorem dX6_strokes_35 : decode cX6_strokes 35 = .ok (.bipush 12, 2) := by decide +kernel
theorem dX6_strokes_37 : decode cX6_strokes 37 = .ok (.irem, 1) := by decide +kernel
theorem dX6_strokes_38 : decode cX6_strokes 38 = .ok (.istore 4, 2) := by decide +kernel
theorem dX6_strokes_40 : decode cX6_strokes 40 = .ok (.iload_n 2, 1) := by decide +kernel
theorem dX6_strokes_41 : decode cX6_strokes 41 = .ok (.iload 4, 2) := by decide +kernel
theorem dX6_strokes_43 : decode cX6_strokes 43 = .ok (.ifCond .ne 8, 3) := by decide +kernel
theorem dX6_strokes_46 : decode cX6_strokes 46 = .ok (.bipush 12, 2) := by decide +kernel
theorem dX6_strokes_48 : decode cX6_strokes 48 = .ok (.goto 5, 3) := by decide +kernel
theorem dX6_strokes_51 : decode cX6_strokes 51 = .ok (.iload 4, 2) := by decide +kernel
theorem dX6_strokes_53 : decode cX6_strokes 53 = .ok (.iadd, 1) := by decide +kernel
theorem dX6_strokes_54 : decode cX6_strokes 54 = .ok (.istore_n 2, 1) := by decide +kernel
theorem dX6_strokes_55 : decode cX6_strokes 55 = .ok (.iinc 3 1, 3) := by decide +kernel
theorem dX6_strokes_58 : decode cX6_strokes 58 = .ok (.goto (-54), 3) := by decide +kernel
theorem dX6_strokes_61 : decode cX6_strokes 61 = .ok (.iload_n 2, 1) := by decide +kernel
theorem dX6_strokes_62 : decode cX6_strokes 62 = .ok (.ireturn, 1) := by decide +kernel
theorem dX7_init_0 : decode cX7_init 0 = .ok (.aload_n 0, 1) := by decide +kernel
theorem dX7_init_1 : decode cX7_init 1 = .ok (.invokespecial 3, 3) := by decide +kernel
theorem dX7_init_4 : decode cX7_init 4 = .ok (.aload_n 0, 1) := by decide +kernel
theorem dX7_init_5 : decode cX7_init 5 = .ok (.iconst 0, 1) := by decide +kernel
theorem dX7_init_6 : decode cX7_init 6 = .ok (.putfield 9, 3) := by decide +kernel
theorem dX7_init_9 : decode cX7_init 9 = .ok (.aload_n 0, 1) := by decide +kernel
theorem dX7_init_10 : decode cX7_init 10 = .ok (.iconst 0, 1) := by decide +kernel
theorem dX7_init_11 : decode cX7_init 11 = .ok (.putfield 15, 3) := by decide +kernel
theorem dX7_init_14 : decode cX7_init 14 = .ok (.aload_n 0, 1) := by decide +kernel
theorem dX7_init_15 : decode cX7_init 15 = .ok (.iconst 0, 1) := by decide +kernel
theorem dX7_init_16 : decode cX7_init 16 = .ok (.putfield 18, 3) := by decide +kernel
theorem dX7_init_19 : decode cX7_init 19 = .ok (.aload_n 0, 1) := by decide +kernel
theorem dX7_init_20 : decode cX7_init 20 = .ok (.aload_n 1, 1) := by decide +kernel
theorem dX7_init_21 : decode cX7_init 21 = .ok (.putfield 21, 3) := by decide +kernel
theorem dX7_init_24 : decode cX7_init 24 = .ok (.return_, 1) := by decide +kernel
theorem dX7_start_0 : decode cX7_start 0 = .ok (.aload_n 0, 1) := by decide +kernel
theorem dX7_start_1 : decode cX7_start 1 = .ok (.iload_n 1, 1) := by decide +kernel
theorem dX7_start_2 : decode cX7_start 2 = .ok (.putfield 9, 3) := by decide +kernel
theorem dX7_start_5 : decode cX7_start 5 = .ok (.aload_n 0, 1) := by decide +kernel
theorem dX7_start_6 : decode cX7_start 6 = .ok (.iconst 0, 1) := by decide +kernel
theorem dX7_start_7 : decode cX7_start 7 = .ok (.putfield 15, 3) := by decide +kernel
theorem dX7_start_10 : decode cX7_start 10 = .ok (.aload_n 0, 1) := by decide +kernel
theorem dX7_start_11 : decode cX7_start 11 = .ok (.iconst 0, 1) := by decide +kernel
theorem dX7_start_12 : decode cX7_start 12 = .ok (.putfield 18, 3) := by decide +kernel
theorem dX7_start_15 : decode cX7_start 15 = .ok (.return_, 1) := by decide +kernel
theorem dX7_peek_0 : decode cX7_peek 0 = .ok (.aload_n 0, 1) := by decide +kernel
theorem dX7_peek_1 : decode cX7_peek 1 = .ok (.getfield 18, 3) := by decide +kernel
theorem dX7_peek_4 : decode cX7_peek 4 = .ok (.ifCond .ne 28, 3) := by decide +kernel
theorem dX7_peek_7 : decode cX7_peek 7 = .ok (.aload_n 0, 1) := by decide +kernel
theorem dX7_peek_8 : decode cX7_peek 8 = .ok (.getfield 15, 3) := by decide +kernel
theorem dX7_peek_11 : decode cX7_peek 11 = .ok (.aload_n 0, 1) := by decide +kernel
theorem dX7_peek_12 : decode cX7_peek 12 = .ok (.getfield 9, 3) := by decide +kernel
theorem dX7_peek_15 : decode cX7_peek 15 = .ok (.if_icmp .ge 17, 3) := by decide +kernel
theorem dX7_peek_18 : decode cX7_peek 18 = .ok (.aload_n 0, 1) := by decide +kernel
theorem dX7_peek_19 : decode cX7_peek 19 = .ok (.getfield 21, 3) := by decide +kernel
theorem dX7_peek_22 : decode cX7_peek 22 = .ok (.aload_n 0, 1) := by decide +kernel
theorem dX7_peek_23 : decode cX7_peek 23 = .ok (.getfield 15, 3) := by decide +kernel
theorem dX7_peek_26 : decode cX7_peek 26 = .ok (.invokevirtual 25, 3) := by decide +kernel
theorem dX7_peek_29 : decode cX7_peek 29 = .ok (.goto 4, 3) := by decide +kernel
theorem dX7_peek_32 : decode cX7_peek 32 = .ok (.iconst (-1), 1) := by decide +kernel
theorem dX7_peek_33 : decode cX7_peek 33 = .ok (.ireturn, 1) := by decide +kernel
theorem dX7_next_0 : decode cX7_next 0 = .ok (.aload_n 0, 1) := by decide +kernel
theorem dX7_next_1 : decode cX7_next 1 = .ok (.dup, 1) := by decide +kernel
theorem dX7_next_2 : decode cX7_next 2 = .ok (.getfield 15, 3) := by decide +kernel
theorem dX7_next_5 : decode cX7_next 5 = .ok (.iconst 1, 1) := by decide +kernel
theorem dX7_next_6 : decode cX7_next 6 = .ok (.iadd, 1) := by decide +kernel
theorem dX7_next_7 : decode cX7_next 7 = .ok (.putfield 15, 3) := by decide +kernel
theorem dX7_next_10 : decode cX7_next 10 = .ok (.return_, 1) := by decide +kernel
theorem dX7_failed_0 : decode cX7_failed 0 = .ok (.aload_n 0, 1) := by decide +kernel
theorem dX7_failed_1 : decode cX7_failed 1 = .ok (.getfield 18, 3) := by decide +kernel
theorem dX7_failed_4 : decode cX7_failed 4 = .ok (.ifCond .eq 7, 3) := by decide +kernel
theorem dX7_failed_7 : decode cX7_failed 7 = .ok (.iconst 1, 1) := by decide +kernel
theorem dX7_failed_8 : decode cX7_failed 8 = .ok (.goto 4, 3) := by decide +kernel
theorem dX7_failed_11 : decode cX7_failed 11 = .ok (.iconst 0, 1) := by decide +kernel
theorem dX7_failed_12 : decode cX7_failed 12 = .ok (.ireturn, 1) := by decide +kernel
theorem dX7_fail_0 : decode cX7_fail 0 = .ok (.aload_n 0, 1) := by decide +kernel
theorem dX7_fail_1 : decode cX7_fail 1 = .ok (.getfield 18, 3) := by decide +kernel
theorem dX7_fail_4 : decode cX7_fail 4 = .ok (.ifCond .ne 14, 3) := by decide +kernel
theorem dX7_fail_7 : decode cX7_fail 7 = .ok (.aload_n 0, 1) := by decide +kernel
theorem dX7_fail_8 : decode cX7_fail 8 = .ok (.sipush (-1000), 3) := by decide +kernel
theorem dX7_fail_11 : decode cX7_fail 11 = .ok (.iload_n 1, 1) := by decide +kernel
theorem dX7_fail_12 : decode cX7_fail 12 = .ok (.imul, 1) := by decide +kernel
theorem dX7_fail_13 : decode cX7_fail 13 = .ok (.iload_n 2, 1) := by decide +kernel
theorem dX7_fail_14 : decode cX7_fail 14 = .ok (.isub, 1) := by decide +kernel
theorem dX7_fail_15 : decode cX7_fail 15 = .ok (.putfield 18, 3) := by decide +kernel
theorem dX7_fail_18 : decode cX7_fail 18 = .ok (.return_, 1) := by decide +kernel
theorem dX7_failHere_0 : decode cX7_failHere 0 = .ok (.aload_n 0, 1) := by decide +kernel
theorem dX7_failHere_1 : decode cX7_failHere 1 = .ok (.iload_n 1, 1) := by decide +kernel
theorem dX7_failHere_2 : decode cX7_failHere 2 = .ok (.aload_n 0, 1) := by decide +kernel
theorem dX7_failHere_3 : decode cX7_failHere 3 = .ok (.getfield 15, 3) := by decide +kernel
theorem dX7_failHere_6 : decode cX7_failHere 6 = .ok (.invokevirtual 29, 3) := by decide +kernel
theorem dX7_failHere_9 : decode cX7_failHere 9 = .ok (.return_, 1) := by decide +kernel
theorem dX7_expect_0 : decode cX7_expect 0 = .ok (.aload_n 0, 1) := by decide +kernel
theorem dX7_expect_1 : decode cX7_expect 1 = .ok (.invokevirtual 33, 3) := by decide +kernel
theorem dX7_expect_4 : decode cX7_expect 4 = .ok (.iload_n 1, 1) := by decide +kernel
theorem dX7_expect_5 : decode cX7_expect 5 = .ok (.if_icmp .ne 10, 3) := by decide +kernel
theorem dX7_expect_8 : decode cX7_expect 8 = .ok (.aload_n 0, 1) := by decide +kernel
theorem dX7_expect_9 : decode cX7_expect 9 = .ok (.invokevirtual 37, 3) := by decide +kernel
theorem dX7_expect_12 : decode cX7_expect 12 = .ok (.goto 8, 3) := by decide +kernel
theorem dX7_expect_15 : decode cX7_expect 15 = .ok (.aload_n 0, 1) := by decide +kernel
theorem dX7_expect_16 : decode cX7_expect 16 = .ok (.iconst 1, 1) := by decide +kernel
theorem dX7_expect_17 : decode cX7_expect 17 = .ok (.invokevirtual 40, 3) := by decide +kernel
theorem dX7_expect_20 : decode cX7_expect 20 = .ok (.return_, 1) := by decide +kernel
theorem dX7_isDigit_0 : decode cX7_isDigit 0 = .ok (.iload_n 0, 1) := by decide +kernel
theorem dX7_isDigit_1 : decode cX7_isDigit 1 = .ok (.bipush 48, 2) := by decide +kernel
theorem dX7_isDigit_3 : decode cX7_isDigit 3 = .ok (.if_icmp .lt 13, 3) := by decide +kernel
theorem dX7_isDigit_6 : decode cX7_isDigit 6 = .ok (.iload_n 0, 1) := by decide +kernel
theorem dX7_isDigit_7 : decode cX7_isDigit 7 = .ok (.bipush 57, 2) := by decide +kernel
theorem dX7_isDigit_9 : decode cX7_isDigit 9 = .ok (.if_icmp .gt 7, 3) := by decide +kernel
theorem dX7_isDigit_12 : decode cX7_isDigit 12 = .ok (.iconst 1, 1) := by decide +kernel
theorem dX7_isDigit_13 : decode cX7_isDigit 13 = .ok (.goto 4, 3) := by decide +kernel
theorem dX7_isDigit_16 : decode cX7_isDigit 16 = .ok (.iconst 0, 1) := by decide +kernel
theorem dX7_isDigit_17 : decode cX7_isDigit 17 = .ok (.ireturn, 1) := by decide +kernel
theorem dX8_init_0 : decode cX8_init 0 = .ok (.aload_n 0, 1) := by decide +kernel
theorem dX8_init_1 : decode cX8_init 1 = .ok (.invokespecial 1, 3) := by decide +kernel
theorem dX8_init_4 : decode cX8_init 4 = .ok (.aload_n 0, 1) := by decide +kernel
theorem dX8_init_5 : decode cX8_init 5 = .ok (.bipush 64, 2) := by decide +kernel
theorem dX8_init_7 : decode cX8_init 7 = .ok (.newarray .int, 2) := by decide +kernel
theorem dX8_init_9 : decode cX8_init 9 = .ok (.putfield 9, 3) := by decide +kernel
theorem dX8_init_12 : decode cX8_init 12 = .ok (.aload_n 0, 1) := by decide +kernel
theorem dX8_init_13 : decode cX8_init 13 = .ok (.bipush 26, 2) := by decide +kernel
theorem dX8_init_15 : decode cX8_init 15 = .ok (.newarray .int, 2) := by decide +kernel
theorem dX8_init_17 : decode cX8_init 17 = .ok (.putfield 13, 3) := by decide +kernel
theorem dX8_init_20 : decode cX8_init 20 = .ok (.aload_n 0, 1) := by decide +kernel
theorem dX8_init_21 : decode cX8_init 21 = .ok (.iconst 0, 1) := by decide +kernel
theorem dX8_init_22 : decode cX8_init 22 = .ok (.putfield 16, 3) := by decide +kernel
theorem dX8_init_25 : decode cX8_init 25 = .ok (.aload_n 0, 1) := by decide +kernel
theorem dX8_init_26 : decode cX8_init 26 = .ok (.aload_n 1, 1) := by decide +kernel
theorem dX8_init_27 : decode cX8_init 27 = .ok (.putfield 20, 3) := by decide +kernel
theorem dX8_init_30 : decode cX8_init 30 = .ok (.return_, 1) := by decide +kernel
theorem dX8_read_0 : decode cX8_read 0 = .ok (.aload_n 0, 1) := by decide +kernel
theorem dX8_read_1 : decode cX8_read 1 = .ok (.iconst 0, 1) := by decide +kernel
theorem dX8_read_2 : decode cX8_read 2 = .ok (.putfield 16, 3) := by decide +kernel
theorem dX8_read_5 : decode cX8_read 5 = .ok (.aload_n 0, 1) := by decide +kernel
theorem dX8_read_6 : decode cX8_read 6 = .ok (.getfield 20, 3) := by decide +kernel
theorem dX8_read_9 : decode cX8_read 9 = .ok (.iload_n 1, 1) := by decide +kernel
theorem dX8_read_10 : decode cX8_read 10 = .ok (.invokevirtual 24, 3) := by decide +kernel
theorem dX8_read_13 : decode cX8_read 13 = .ok (.aload_n 0, 1) := by decide +kernel
theorem dX8_read_14 : decode cX8_read 14 = .ok (.iconst 0, 1) := by decide +kernel
theorem dX8_read_15 : decode cX8_read 15 = .ok (.invokevirtual 30, 3) := by decide +kernel
theorem dX8_read_18 : decode cX8_read 18 = .ok (.aload_n 0, 1) := by decide +kernel
theorem dX8_read_19 : decode cX8_read 19 = .ok (.getfield 20, 3) := by decide +kernel
theorem dX8_read_22 : decode cX8_read 22 = .ok (.invokevirtual 33, 3) := by decide +kernel
theorem dX8_read_25 : decode cX8_read 25 = .ok (.ifCond .eq 13, 3) := by decide +kernel
theorem dX8_read_28 : decode cX8_read 28 = .ok (.aload_n 0, 1) := by decide +kernel
theorem dX8_read_29 : decode cX8_read 29 = .ok (.getfield 20, 3) := by decide +kernel
theorem dX8_read_32 : decode cX8_read 32 = .ok (.getfield 37, 3) := by decide +kernel
theorem dX8_read_35 : decode cX8_read 35 = .ok (.goto 7, 3) := by decide +kernel
theorem dX8_read_38 : decode cX8_read 38 = .ok (.aload_n 0, 1) := by decide +kernel
theorem dX8_read_39 : decode cX8_read 39 = .ok (.getfield 16, 3) := by decide +kernel
theorem dX8_read_42 : decode cX8_read 42 = .ok (.ireturn, 1) := by decide +kernel
theorem dX8_readRow_0 : decode cX8_readRow 0 = .ok (.iload_n 1, 1) := by decide +kernel
theorem dX8_readRow_1 : decode cX8_readRow 1 = .ok (.ifCond .ne 7, 3) := by decide +kernel
theorem dX8_readRow_4 : decode cX8_readRow 4 = .ok (.iconst (-1), 1) := by decide +kernel
theorem dX8_readRow_5 : decode cX8_readRow 5 = .ok (.goto 5, 3) := by decide +kernel
theorem dX8_readRow_8 : decode cX8_readRow 8 = .ok (.bipush 41, 2) := by decide +kernel
theorem dX8_readRow_10 : decode cX8_readRow 10 = .ok (.istore_n 2, 1) := by decide +kernel
theorem dX8_readRow_11 : decode cX8_readRow 11 = .ok (.aload_n 0, 1) := by decide +kernel
theorem dX8_readRow_12 : decode cX8_readRow 12 = .ok (.iload_n 1, 1) := by decide +kernel
theorem dX8_readRow_13 : decode cX8_readRow 13 = .ok (.invokevirtual 40, 3) := by decide +kernel
theorem dX8_readRow_16 : decode cX8_readRow 16 = .ok (.iconst 0, 1) := by decide +kernel
theorem dX8_readRow_17 : decode cX8_readRow 17 = .ok (.istore_n 3, 1) := by decide +kernel
theorem dX8_readRow_18 : decode cX8_readRow 18 = .ok (.iload_n 3, 1) := by decide +kernel
theorem dX8_readRow_19 : decode cX8_readRow 19 = .ok (.bipush 80, 2) := by decide +kernel
theorem dX8_readRow_21 : decode cX8_readRow 21 = .ok (.if_icmp .ge 35, 3) := by decide +kernel
theorem dX8_readRow_24 : decode cX8_readRow 24 = .ok (.aload_n 0, 1) := by decide +kernel
theorem dX8_readRow_25 : decode cX8_readRow 25 = .ok (.getfield 20, 3) := by decide +kernel
theorem dX8_readRow_28 : decode cX8_readRow 28 = .ok (.invokevirtual 33, 3) := by decide +kernel
theorem dX8_readRow_31 : decode cX8_readRow 31 = .ok (.ifCond .ne 25, 3) := by decide +kernel
theorem dX8_readRow_34 : decode cX8_readRow 34 = .ok (.aload_n 0, 1) := by decide +kernel
theorem dX8_readRow_35 : decode cX8_readRow 35 = .ok (.getfield 20, 3) := by decide +kernel
theorem dX8_readRow_38 : decode cX8_readRow 38 = .ok (.invokevirtual 43, 3) := by decide +kernel
theorem dX8_readRow_41 : decode cX8_readRow 41 = .ok (.iload_n 2, 1) := by decide +kernel
theorem dX8_readRow_42 : decode cX8_readRow 42 = .ok (.if_icmp .eq 14, 3) := by decide +kernel
theorem dX8_readRow_45 : decode cX8_readRow 45 = .ok (.aload_n 0, 1) := by decide +kernel
theorem dX8_readRow_46 : decode cX8_readRow 46 = .ok (.iload_n 1, 1) := by decide +kernel
theorem dX8_readRow_47 : decode cX8_readRow 47 = .ok (.invokevirtual 40, 3) := by decide +kernel
theorem dX8_readRow_50 : decode cX8_readRow 50 = .ok (.iinc 3 1, 3) := by decide +kernel
theorem dX8_readRow_53 : decode cX8_readRow 53 = .ok (.goto (-35), 3) := by decide +kernel
theorem dX8_readRow_56 : decode cX8_readRow 56 = .ok (.return_, 1) := by decide +kernel
theorem dX8_readOne_0 : decode cX8_readOne 0 = .ok (.aload_n 0, 1) := by decide +kernel
theorem dX8_readOne_1 : decode cX8_readOne 1 = .ok (.getfield 20, 3) := by decide +kernel
theorem dX8_readOne_4 : decode cX8_readOne 4 = .ok (.getfield 47, 3) := by decide +kernel
theorem dX8_readOne_7 : decode cX8_readOne 7 = .ok (.istore_n 2, 1) := by decide +kernel
theorem dX8_readOne_8 : decode cX8_readOne 8 = .ok (.iconst 1, 1) := by decide +kernel
theorem dX8_readOne_9 : decode cX8_readOne 9 = .ok (.istore_n 3, 1) := by decide +kernel
theorem dX8_readOne_10 : decode cX8_readOne 10 = .ok (.aload_n 0, 1) := by decide +kernel
theorem dX8_readOne_11 : decode cX8_readOne 11 = .ok (.getfield 20, 3) := by decide +kernel
theorem dX8_readOne_14 : decode cX8_readOne 14 = .ok (.invokevirtual 43, 3) := by decide +kernel
theorem dX8_readOne_17 : decode cX8_readOne 17 = .ok (.invokestatic 50, 3) := by decide +kernel
theorem dX8_readOne_20 : decode cX8_readOne 20 = .ok (.ifCond .eq 33, 3) := by decide +kernel
theorem dX8_readOne_23 : decode cX8_readOne 23 = .ok (.aload_n 0, 1) := by decide +kernel
theorem dX8_readOne_24 : decode cX8_readOne 24 = .ok (.getfield 20, 3) := by decide +kernel
theorem dX8_readOne_27 : decode cX8_readOne 27 = .ok (.invokevirtual 43, 3) := by decide +kernel
theorem dX8_readOne_30 : decode cX8_readOne 30 = .ok (.bipush 50, 2) := by decide +kernel
theorem dX8_readOne_32 : decode cX8_readOne 32 = .ok (.if_icmp .lt 21, 3) := by decide +kernel
theorem dX8_readOne_35 : decode cX8_readOne 35 = .ok (.aload_n 0, 1) := by decide +kernel
theorem dX8_readOne_36 : decode cX8_readOne 36 = .ok (.getfield 20, 3) := by decide +kernel
theorem dX8_readOne_39 : decode cX8_readOne 39 = .ok (.invokevirtual 43, 3) := by decide +kernel
theorem dX8_readOne_42 : decode cX8_readOne 42 = .ok (.bipush 48, 2) := by decide +kernel
theorem dX8_readOne_44 : decode cX8_readOne 44 = .ok (.isub, 1) := by decide +kernel
theorem dX8_readOne_45 : decode cX8_readOne 45 = .ok (.istore_n 3, 1) := by decide +kernel
theorem dX8_readOne_46 : decode cX8_readOne 46 = .ok (.aload_n 0, 1) := by decide +kernel
theorem dX8_readOne_47 : decode cX8_readOne 47 = .ok (.getfield 20, 3) := by decide +kernel
theorem dX8_readOne_50 : decode cX8_readOne 50 = .ok (.invokevirtual 54, 3) := by decide +kernel
theorem dX8_readOne_53 : decode cX8_readOne 53 = .ok (.aload_n 0, 1) := by decide +kernel
theorem dX8_readOne_54 : decode cX8_readOne 54 = .ok (.getfield 16, 3) := by decide +kernel
theorem dX8_readOne_57 : decode cX8_readOne 57 = .ok (.istore 4, 2) := by decide +kernel
theorem dX8_readOne_59 : decode cX8_readOne 59 = .ok (.aload_n 0, 1) := by decide +kernel
theorem dX8_readOne_60 : decode cX8_readOne 60 = .ok (.getfield 20, 3) := by decide +kernel
theorem dX8_readOne_63 : decode cX8_readOne 63 = .ok (.invokevirtual 43, 3) := by decide +kernel
theorem dX8_readOne_66 : decode cX8_readOne 66 = .ok (.istore 5, 2) := by decide +kernel
theorem dX8_readOne_68 : decode cX8_readOne 68 = .ok (.iload 5, 2) := by decide +kernel
theorem dX8_readOne_70 : decode cX8_readOne 70 = .ok (.bipush 97, 2) := by decide +kernel
theorem dX8_readOne_72 : decode cX8_readOne 72 = .ok (.if_icmp .lt 30, 3) := by decide +kernel
theorem dX8_readOne_75 : decode cX8_readOne 75 = .ok (.iload 5, 2) := by decide +kernel
theorem dX8_readOne_77 : decode cX8_readOne 77 = .ok (.bipush 122, 2) := by decide +kernel
theorem dX8_readOne_79 : decode cX8_readOne 79 = .ok (.if_icmp .gt 23, 3) := by decide +kernel
theorem dX8_readOne_82 : decode cX8_readOne 82 = .ok (.aload_n 0, 1) := by decide +kernel
theorem dX8_readOne_83 : decode cX8_readOne 83 = .ok (.getfield 20, 3) := by decide +kernel
theorem dX8_readOne_86 : decode cX8_readOne 86 = .ok (.invokevirtual 54, 3) := by decide +kernel
theorem dX8_readOne_89 : decode cX8_readOne 89 = .ok (.aload_n 0, 1) := by decide +kernel
theorem dX8_readOne_90 : decode cX8_readOne 90 = .ok (.iload 5, 2) := by decide +kernel
theorem dX8_readOne_92 : decode cX8_readOne 92 = .ok (.bipush 97, 2) := by decide +kernel
theorem dX8_readOne_94 : decode cX8_readOne 94 = .ok (.isub, 1) := by decide +kernel
theorem dX8_readOne_95 : decode cX8_readOne 95 = .ok (.iload_n 2, 1) := by decide +kernel
theorem dX8_readOne_96 : decode cX8_readOne 96 = .ok (.invokevirtual 57, 3) := by decide +kernel
theorem dX8_readOne_99 : decode cX8_readOne 99 = .ok (.goto 60, 3) := by decide +kernel
theorem dX8_readOne_102 : decode cX8_readOne 102 = .ok (.iload 5, 2) := by decide +kernel
theorem dX8_readOne_104 : decode cX8_readOne 104 = .ok (.bipush 40, 2) := by decide +kernel
theorem dX8_readOne_106 : decode cX8_readOne 106 = .ok (.if_icmp .eq 14, 3) := by decide +kernel
theorem dX8_readOne_109 : decode cX8_readOne 109 = .ok (.aload_n 0, 1) := by decide +kernel
theorem dX8_readOne_110 : decode cX8_readOne 110 = .ok (.getfield 20, 3) := by decide +kernel
theorem dX8_readOne_113 : decode cX8_readOne 113 = .ok (.iconst 1, 1) := by decide +kernel
theorem dX8_readOne_114 : decode cX8_readOne 114 = .ok (.invokevirtual 61, 3) := by decide +kernel
theorem dX8_readOne_117 : decode cX8_readOne 117 = .ok (.goto 42, 3) := by decide +kernel
theorem dX8_readOne_120 : decode cX8_readOne 120 = .ok (.iload_n 1, 1) := by decide +kernel
theorem dX8_readOne_121 : decode cX8_readOne 121 = .ok (.iconst 2, 1) := by decide +kernel
theorem dX8_readOne_122 : decode cX8_readOne 122 = .ok (.if_icmp .lt 14, 3) := by decide +kernel
theorem dX8_readOne_125 : decode cX8_readOne 125 = .ok (.aload_n 0, 1) := by decide +kernel
theorem dX8_readOne_126 : decode cX8_readOne 126 = .ok (.getfield 20, 3) := by decide +kernel
theorem dX8_readOne_129 : decode cX8_readOne 129 = .ok (.iconst 5, 1) := by decide +kernel
theorem dX8_readOne_130 : decode cX8_readOne 130 = .ok (.invokevirtual 61, 3) := by decide +kernel
theorem dX8_readOne_133 : decode cX8_readOne 133 = .ok (.goto 26, 3) := by decide +kernel
theorem dX8_readOne_136 : decode cX8_readOne 136 = .ok (.aload_n 0, 1) := by decide +kernel
theorem dX8_readOne_137 : decode cX8_readOne 137 = .ok (.getfield 20, 3) := by decide +kernel
theorem dX8_readOne_140 : decode cX8_readOne 140 = .ok (.invokevirtual 54, 3) := by decide +kernel
theorem dX8_readOne_143 : decode cX8_readOne 143 = .ok (.aload_n 0, 1) := by decide +kernel
theorem dX8_readOne_144 : decode cX8_readOne 144 = .ok (.iload_n 1, 1) := by decide +kernel
theorem dX8_readOne_145 : decode cX8_readOne 145 = .ok (.iconst 1, 1) := by decide +kernel
theorem dX8_readOne_146 : decode cX8_readOne 146 = .ok (.iadd, 1) := by decide +kernel
theorem dX8_readOne_147 : decode cX8_readOne 147 = .ok (.invokevirtual 30, 3) := by decide +kernel
theorem dX8_readOne_150 : decode cX8_readOne 150 = .ok (.aload_n 0, 1) := by decide +kernel
theorem dX8_readOne_151 : decode cX8_readOne 151 = .ok (.getfield 20, 3) := by decide +kernel
theorem dX8_readOne_154 : decode cX8_readOne 154 = .ok (.bipush 41, 2) := by decide +kernel
theorem dX8_readOne_156 : decode cX8_readOne 156 = .ok (.invokevirtual 64, 3) := by decide +kernel
theorem dX8_readOne_159 : decode cX8_readOne 159 = .ok (.aload_n 0, 1) := by decide +kernel
theorem dX8_readOne_160 : decode cX8_readOne 160 = .ok (.iload 4, 2) := by decide +kernel
theorem dX8_readOne_162 : decode cX8_readOne 162 = .ok (.iload_n 3, 1) := by decide +kernel
theorem dX8_readOne_163 : decode cX8_readOne 163 = .ok (.iload_n 2, 1) := by decide +kernel
theorem dX8_readOne_164 : decode cX8_readOne 164 = .ok (.invokevirtual 67, 3) := by decide +kernel
theorem dX8_readOne_167 : decode cX8_readOne 167 = .ok (.return_, 1) := by decide +kernel
theorem dX8_add_0 : decode cX8_add 0 = .ok (.aload_n 0, 1) := by decide +kernel
theorem dX8_add_1 : decode cX8_add 1 = .ok (.getfield 16, 3) := by decide +kernel
theorem dX8_add_4 : decode cX8_add 4 = .ok (.ifCond .lt 12, 3) := by decide +kernel
theorem dX8_add_7 : decode cX8_add 7 = .ok (.aload_n 0, 1) := by decide +kernel
theorem dX8_add_8 : decode cX8_add 8 = .ok (.getfield 16, 3) := by decide +kernel
theorem dX8_add_11 : decode cX8_add 11 = .ok (.bipush 64, 2) := by decide +kernel
theorem dX8_add_13 : decode cX8_add 13 = .ok (.if_icmp .lt 14, 3) := by decide +kernel
theorem dX8_add_16 : decode cX8_add 16 = .ok (.aload_n 0, 1) := by decide +kernel
theorem dX8_add_17 : decode cX8_add 17 = .ok (.getfield 20, 3) := by decide +kernel
theorem dX8_add_20 : decode cX8_add 20 = .ok (.bipush 6, 2) := by decide +kernel
theorem dX8_add_22 : decode cX8_add 22 = .ok (.iload_n 2, 1) := by decide +kernel
theorem dX8_add_23 : decode cX8_add 23 = .ok (.invokevirtual 71, 3) := by decide +kernel
theorem dX8_add_26 : decode cX8_add 26 = .ok (.return_, 1) := by decide +kernel
theorem dX8_add_27 : decode cX8_add 27 = .ok (.aload_n 0, 1) := by decide +kernel
theorem dX8_add_28 : decode cX8_add 28 = .ok (.getfield 9, 3) := by decide +kernel
theorem dX8_add_31 : decode cX8_add 31 = .ok (.aload_n 0, 1) := by decide +kernel
theorem dX8_add_32 : decode cX8_add 32 = .ok (.getfield 16, 3) := by decide +kernel
theorem dX8_add_35 : decode cX8_add 35 = .ok (.iload_n 1, 1) := by decide +kernel
theorem dX8_add_36 : decode cX8_add 36 = .ok (.iastore, 1) := by decide +kernel
theorem dX8_add_37 : decode cX8_add 37 = .ok (.aload_n 0, 1) := by decide +kernel
theorem dX8_add_38 : decode cX8_add 38 = .ok (.dup, 1) := by decide +kernel
theorem dX8_add_39 : decode cX8_add 39 = .ok (.getfield 16, 3) := by decide +kernel
theorem dX8_add_42 : decode cX8_add 42 = .ok (.iconst 1, 1) := by decide +kernel
theorem dX8_add_43 : decode cX8_add 43 = .ok (.iadd, 1) := by decide +kernel
theorem dX8_add_44 : decode cX8_add 44 = .ok (.putfield 16, 3) := by decide +kernel
theorem dX8_add_47 : decode cX8_add 47 = .ok (.return_, 1) := by decide +kernel
theorem dX8_repeat_0 : decode cX8_repeat 0 = .ok (.aload_n 0, 1) := by decide +kernel
theorem dX8_repeat_1 : decode cX8_repeat 1 = .ok (.getfield 16, 3) := by decide +kernel
theorem dX8_repeat_4 : decode cX8_repeat 4 = .ok (.iload_n 1, 1) := by decide +kernel
theorem dX8_repeat_5 : decode cX8_repeat 5 = .ok (.isub, 1) := by decide +kernel
theorem dX8_repeat_6 : decode cX8_repeat 6 = .ok (.istore 4, 2) := by decide +kernel
theorem dX8_repeat_8 : decode cX8_repeat 8 = .ok (.iconst 0, 1) := by decide +kernel
theorem dX8_repeat_9 : decode cX8_repeat 9 = .ok (.istore 5, 2) := by decide +kernel
theorem dX8_repeat_11 : decode cX8_repeat 11 = .ok (.iload 5, 2) := by decide +kernel
theorem dX8_repeat_13 : decode cX8_repeat 13 = .ok (.iload 4, 2) := by decide +kernel
theorem dX8_repeat_15 : decode cX8_repeat 15 = .ok (.iload_n 2, 1) := by decide +kernel
theorem dX8_repeat_16 : decode cX8_repeat 16 = .ok (.iconst 1, 1) := by decide +kernel
theorem dX8_repeat_17 : decode cX8_repeat 17 = .ok (.isub, 1) := by decide +kernel
theorem dX8_repeat_18 : decode cX8_repeat 18 = .ok (.imul, 1) := by decide +kernel
theorem dX8_repeat_19 : decode cX8_repeat 19 = .ok (.if_icmp .ge 44, 3) := by decide +kernel
theorem dX8_repeat_22 : decode cX8_repeat 22 = .ok (.iload_n 1, 1) := by decide +kernel
theorem dX8_repeat_23 : decode cX8_repeat 23 = .ok (.iload 5, 2) := by decide +kernel
theorem dX8_repeat_25 : decode cX8_repeat 25 = .ok (.iadd, 1) := by decide +kernel
theorem dX8_repeat_26 : decode cX8_repeat 26 = .ok (.aload_n 0, 1) := by decide +kernel
theorem dX8_repeat_27 : decode cX8_repeat 27 = .ok (.getfield 16, 3) := by decide +kernel
theorem dX8_repeat_30 : decode cX8_repeat 30 = .ok (.if_icmp .ge 33, 3) := by decide +kernel
theorem dX8_repeat_33 : decode cX8_repeat 33 = .ok (.aload_n 0, 1) := by decide +kernel
theorem dX8_repeat_34 : decode cX8_repeat 34 = .ok (.getfield 20, 3) := by decide +kernel
theorem dX8_repeat_37 : decode cX8_repeat 37 = .ok (.invokevirtual 33, 3) := by decide +kernel
theorem dX8_repeat_40 : decode cX8_repeat 40 = .ok (.ifCond .ne 23, 3) := by decide +kernel
theorem dX8_repeat_43 : decode cX8_repeat 43 = .ok (.aload_n 0, 1) := by decide +kernel
theorem dX8_repeat_44 : decode cX8_repeat 44 = .ok (.aload_n 0, 1) := by decide +kernel
theorem dX8_repeat_45 : decode cX8_repeat 45 = .ok (.getfield 9, 3) := by decide +kernel
theorem dX8_repeat_48 : decode cX8_repeat 48 = .ok (.iload_n 1, 1) := by decide +kernel
theorem dX8_repeat_49 : decode cX8_repeat 49 = .ok (.iload 5, 2) := by decide +kernel
theorem dX8_repeat_51 : decode cX8_repeat 51 = .ok (.iadd, 1) := by decide +kernel
theorem dX8_repeat_52 : decode cX8_repeat 52 = .ok (.iaload, 1) := by decide +kernel
theorem dX8_repeat_53 : decode cX8_repeat 53 = .ok (.iload_n 3, 1) := by decide +kernel
theorem dX8_repeat_54 : decode cX8_repeat 54 = .ok (.invokevirtual 57, 3) := by decide +kernel
theorem dX8_repeat_57 : decode cX8_repeat 57 = .ok (.iinc 5 1, 3) := by decide +kernel
theorem dX8_repeat_60 : decode cX8_repeat 60 = .ok (.goto (-49), 3) := by decide +kernel
theorem dX8_repeat_63 : decode cX8_repeat 63 = .ok (.return_, 1) := by decide +kernel
theorem dX8_told_0 : decode cX8_told 0 = .ok (.iload_n 1, 1) := by decide +kernel
theorem dX8_told_1 : decode cX8_told 1 = .ok (.tableswitch 87 100 105 #[39, 44, 49, 59, 64, 82], 39) := by decide +kernel
theorem dX8_told_40 : decode cX8_told 40 = .ok (.aload_n 0, 1) := by decide +kernel
theorem dX8_told_41 : decode cX8_told 41 = .ok (.getfield 16, 3) := by decide +kernel
theorem dX8_told_44 : decode cX8_told 44 = .ok (.ireturn, 1) := by decide +kernel
theorem dX8_told_45 : decode cX8_told 45 = .ok (.aload_n 0, 1) := by decide +kernel
theorem dX8_told_46 : decode cX8_told 46 = .ok (.invokevirtual 74, 3) := by decide +kernel
theorem dX8_told_49 : decode cX8_told 49 = .ok (.ireturn, 1) := by decide +kernel
theorem dX8_told_50 : decode cX8_told 50 = .ok (.aload_n 0, 1) := by decide +kernel
theorem dX8_told_51 : decode cX8_told 51 = .ok (.getfield 13, 3) := by decide +kernel
theorem dX8_told_54 : decode cX8_told 54 = .ok (.aload_n 0, 1) := by decide +kernel
theorem dX8_told_55 : decode cX8_told 55 = .ok (.invokevirtual 74, 3) := by decide +kernel
theorem dX8_told_58 : decode cX8_told 58 = .ok (.iaload, 1) := by decide +kernel
theorem dX8_told_59 : decode cX8_told 59 = .ok (.ireturn, 1) := by decide +kernel
theorem dX8_told_60 : decode cX8_told 60 = .ok (.aload_n 0, 1) := by decide +kernel
theorem dX8_told_61 : decode cX8_told 61 = .ok (.invokevirtual 77, 3) := by decide +kernel
theorem dX8_told_64 : decode cX8_told 64 = .ok (.ireturn, 1) := by decide +kernel
theorem dX8_told_65 : decode cX8_told 65 = .ok (.aload_n 0, 1) := by decide +kernel
theorem dX8_told_66 : decode cX8_told 66 = .ok (.iconst 0, 1) := by decide +kernel
theorem dX8_told_67 : decode cX8_told 67 = .ok (.aload_n 0, 1) := by decide +kernel
theorem dX8_told_68 : decode cX8_told 68 = .ok (.getfield 16, 3) := by decide +kernel
theorem dX8_told_71 : decode cX8_told 71 = .ok (.invokevirtual 80, 3) := by decide +kernel
theorem dX8_told_74 : decode cX8_told 74 = .ok (.ifCond .eq 7, 3) := by decide +kernel
theorem dX8_told_77 : decode cX8_told 77 = .ok (.iconst 1, 1) := by decide +kernel
theorem dX8_told_78 : decode cX8_told 78 = .ok (.goto 4, 3) := by decide +kernel
theorem dX8_told_81 : decode cX8_told 81 = .ok (.iconst 0, 1) := by decide +kernel
theorem dX8_told_82 : decode cX8_told 82 = .ok (.ireturn, 1) := by decide +kernel
theorem dX8_told_83 : decode cX8_told 83 = .ok (.aload_n 0, 1) := by decide +kernel
theorem dX8_told_84 : decode cX8_told 84 = .ok (.invokevirtual 84, 3) := by decide +kernel
theorem dX8_told_87 : decode cX8_told 87 = .ok (.ireturn, 1) := by decide +kernel
theorem dX8_told_88 : decode cX8_told 88 = .ok (.aload_n 0, 1) := by decide +kernel
theorem dX8_told_89 : decode cX8_told 89 = .ok (.iload_n 1, 1) := by decide +kernel
theorem dX8_told_90 : decode cX8_told 90 = .ok (.invokevirtual 87, 3) := by decide +kernel
theorem dX8_told_93 : decode cX8_told 93 = .ok (.ireturn, 1) := by decide +kernel
theorem dX8_mostOften_0 : decode cX8_mostOften 0 = .ok (.aload_n 0, 1) := by decide +kernel
theorem dX8_mostOften_1 : decode cX8_mostOften 1 = .ok (.getfield 13, 3) := by decide +kernel
theorem dX8_mostOften_4 : decode cX8_mostOften 4 = .ok (.iconst 0, 1) := by decide +kernel
theorem dX8_mostOften_5 : decode cX8_mostOften 5 = .ok (.invokestatic 91, 3) := by decide +kernel
theorem dX8_mostOften_8 : decode cX8_mostOften 8 = .ok (.iconst 0, 1) := by decide +kernel
theorem dX8_mostOften_9 : decode cX8_mostOften 9 = .ok (.istore_n 1, 1) := by decide +kernel
theorem dX8_mostOften_10 : decode cX8_mostOften 10 = .ok (.iload_n 1, 1) := by decide +kernel
theorem dX8_mostOften_11 : decode cX8_mostOften 11 = .ok (.aload_n 0, 1) := by decide +kernel
theorem dX8_mostOften_12 : decode cX8_mostOften 12 = .ok (.getfield 16, 3) := by decide +kernel
theorem dX8_mostOften_15 : decode cX8_mostOften 15 = .ok (.if_icmp .ge 24, 3) := by decide +kernel
theorem dX8_mostOften_18 : decode cX8_mostOften 18 = .ok (.aload_n 0, 1) := by decide +kernel
theorem dX8_mostOften_19 : decode cX8_mostOften 19 = .ok (.getfield 13, 3) := by decide +kernel
theorem dX8_mostOften_22 : decode cX8_mostOften 22 = .ok (.aload_n 0, 1) := by decide +kernel
theorem dX8_mostOften_23 : decode cX8_mostOften 23 = .ok (.getfield 9, 3) := by decide +kernel
theorem dX8_mostOften_26 : decode cX8_mostOften 26 = .ok (.iload_n 1, 1) := by decide +kernel
theorem dX8_mostOften_27 : decode cX8_mostOften 27 = .ok (.iaload, 1) := by decide +kernel
theorem dX8_mostOften_28 : decode cX8_mostOften 28 = .ok (.dup2, 1) := by decide +kernel
theorem dX8_mostOften_29 : decode cX8_mostOften 29 = .ok (.iaload, 1) := by decide +kernel
theorem dX8_mostOften_30 : decode cX8_mostOften 30 = .ok (.iconst 1, 1) := by decide +kernel
theorem dX8_mostOften_31 : decode cX8_mostOften 31 = .ok (.iadd, 1) := by decide +kernel
theorem dX8_mostOften_32 : decode cX8_mostOften 32 = .ok (.iastore, 1) := by decide +kernel
theorem dX8_mostOften_33 : decode cX8_mostOften 33 = .ok (.iinc 1 1, 3) := by decide +kernel
theorem dX8_mostOften_36 : decode cX8_mostOften 36 = .ok (.goto (-26), 3) := by decide +kernel
theorem dX8_mostOften_39 : decode cX8_mostOften 39 = .ok (.iconst 0, 1) := by decide +kernel
theorem dX8_mostOften_40 : decode cX8_mostOften 40 = .ok (.istore_n 1, 1) := by decide +kernel
theorem dX8_mostOften_41 : decode cX8_mostOften 41 = .ok (.iconst 1, 1) := by decide +kernel
theorem dX8_mostOften_42 : decode cX8_mostOften 42 = .ok (.istore_n 2, 1) := by decide +kernel
theorem dX8_mostOften_43 : decode cX8_mostOften 43 = .ok (.iload_n 2, 1) := by decide +kernel
theorem dX8_mostOften_44 : decode cX8_mostOften 44 = .ok (.bipush 26, 2) := by decide +kernel
theorem dX8_mostOften_46 : decode cX8_mostOften 46 = .ok (.if_icmp .ge 26, 3) := by decide +kernel
theorem dX8_mostOften_49 : decode cX8_mostOften 49 = .ok (.aload_n 0, 1) := by decide +kernel
theorem dX8_mostOften_50 : decode cX8_mostOften 50 = .ok (.getfield 13, 3) := by decide +kernel
theorem dX8_mostOften_53 : decode cX8_mostOften 53 = .ok (.iload_n 2, 1) := by decide +kernel
theorem dX8_mostOften_54 : decode cX8_mostOften 54 = .ok (.iaload, 1) := by decide +kernel
theorem dX8_mostOften_55 : decode cX8_mostOften 55 = .ok (.aload_n 0, 1) := by decide +kernel
theorem dX8_mostOften_56 : decode cX8_mostOften 56 = .ok (.getfield 13, 3) := by decide +kernel
theorem dX8_mostOften_59 : decode cX8_mostOften 59 = .ok (.iload_n 1, 1) := by decide +kernel
theorem dX8_mostOften_60 : decode cX8_mostOften 60 = .ok (.iaload, 1) := by decide +kernel
theorem dX8_mostOften_61 : decode cX8_mostOften 61 = .ok (.if_icmp .le 5, 3) := by decide +kernel
theorem dX8_mostOften_64 : decode cX8_mostOften 64 = .ok (.iload_n 2, 1) := by decide +kernel
theorem dX8_mostOften_65 : decode cX8_mostOften 65 = .ok (.istore_n 1, 1) := by decide +kernel
theorem dX8_mostOften_66 : decode cX8_mostOften 66 = .ok (.iinc 2 1, 3) := by decide +kernel
theorem dX8_mostOften_69 : decode cX8_mostOften 69 = .ok (.goto (-26), 3) := by decide +kernel
theorem dX8_mostOften_72 : decode cX8_mostOften 72 = .ok (.iload_n 1, 1) := by decide +kernel
theorem dX8_mostOften_73 : decode cX8_mostOften 73 = .ok (.ireturn, 1) := by decide +kernel
theorem dX8_bestShift_0 : decode cX8_bestShift 0 = .ok (.iconst 0, 1) := by decide +kernel
theorem dX8_bestShift_1 : decode cX8_bestShift 1 = .ok (.istore_n 1, 1) := by decide +kernel
theorem dX8_bestShift_2 : decode cX8_bestShift 2 = .ok (.iconst 1, 1) := by decide +kernel
theorem dX8_bestShift_3 : decode cX8_bestShift 3 = .ok (.istore_n 2, 1) := by decide +kernel
theorem dX8_bestShift_4 : decode cX8_bestShift 4 = .ok (.iload_n 2, 1) := by decide +kernel
theorem dX8_bestShift_5 : decode cX8_bestShift 5 = .ok (.bipush 26, 2) := by decide +kernel
theorem dX8_bestShift_7 : decode cX8_bestShift 7 = .ok (.if_icmp .ge 24, 3) := by decide +kernel
theorem dX8_bestShift_10 : decode cX8_bestShift 10 = .ok (.aload_n 0, 1) := by decide +kernel
theorem dX8_bestShift_11 : decode cX8_bestShift 11 = .ok (.iload_n 2, 1) := by decide +kernel
theorem dX8_bestShift_12 : decode cX8_bestShift 12 = .ok (.invokevirtual 87, 3) := by decide +kernel
theorem dX8_bestShift_15 : decode cX8_bestShift 15 = .ok (.aload_n 0, 1) := by decide +kernel
theorem dX8_bestShift_16 : decode cX8_bestShift 16 = .ok (.iload_n 1, 1) := by decide +kernel
theorem dX8_bestShift_17 : decode cX8_bestShift 17 = .ok (.invokevirtual 87, 3) := by decide +kernel
theorem dX8_bestShift_20 : decode cX8_bestShift 20 = .ok (.if_icmp .le 5, 3) := by decide +kernel
theorem dX8_bestShift_23 : decode cX8_bestShift 23 = .ok (.iload_n 2, 1) := by decide +kernel
theorem dX8_bestShift_24 : decode cX8_bestShift 24 = .ok (.istore_n 1, 1) := by decide +kernel
theorem dX8_bestShift_25 : decode cX8_bestShift 25 = .ok (.iinc 2 1, 3) := by decide +kernel
theorem dX8_bestShift_28 : decode cX8_bestShift 28 = .ok (.goto (-24), 3) := by decide +kernel
theorem dX8_bestShift_31 : decode cX8_bestShift 31 = .ok (.iload_n 1, 1) := by decide +kernel
theorem dX8_bestShift_32 : decode cX8_bestShift 32 = .ok (.ireturn, 1) := by decide +kernel
theorem dX8_vowelsShifted_0 : decode cX8_vowelsShifted 0 = .ok (.iconst 0, 1) := by decide +kernel
theorem dX8_vowelsShifted_1 : decode cX8_vowelsShifted 1 = .ok (.istore_n 2, 1) := by decide +kernel
theorem dX8_vowelsShifted_2 : decode cX8_vowelsShifted 2 = .ok (.iconst 0, 1) := by decide +kernel
theorem dX8_vowelsShifted_3 : decode cX8_vowelsShifted 3 = .ok (.istore_n 3, 1) := by decide +kernel
theorem dX8_vowelsShifted_4 : decode cX8_vowelsShifted 4 = .ok (.iload_n 3, 1) := by decide +kernel
theorem dX8_vowelsShifted_5 : decode cX8_vowelsShifted 5 = .ok (.aload_n 0, 1) := by decide +kernel
theorem dX8_vowelsShifted_6 : decode cX8_vowelsShifted 6 = .ok (.getfield 16, 3) := by decide +kernel
theorem dX8_vowelsShifted_9 : decode cX8_vowelsShifted 9 = .ok (.if_icmp .ge 34, 3) := by decide +kernel
theorem dX8_vowelsShifted_12 : decode cX8_vowelsShifted 12 = .ok (.iload_n 2, 1) := by decide +kernel
theorem dX8_vowelsShifted_13 : decode cX8_vowelsShifted 13 = .ok (.aload_n 0, 1) := by decide +kernel
theorem dX8_vowelsShifted_14 : decode cX8_vowelsShifted 14 = .ok (.getfield 9, 3) := by decide +kernel
theorem dX8_vowelsShifted_17 : decode cX8_vowelsShifted 17 = .ok (.iload_n 3, 1) := by decide +kernel
theorem dX8_vowelsShifted_18 : decode cX8_vowelsShifted 18 = .ok (.iaload, 1) := by decide +kernel
theorem dX8_vowelsShifted_19 : decode cX8_vowelsShifted 19 = .ok (.iload_n 1, 1) := by decide +kernel
theorem dX8_vowelsShifted_20 : decode cX8_vowelsShifted 20 = .ok (.iadd, 1) := by decide +kernel
theorem dX8_vowelsShifted_21 : decode cX8_vowelsShifted 21 = .ok (.bipush 26, 2) := by decide +kernel
theorem dX8_vowelsShifted_23 : decode cX8_vowelsShifted 23 = .ok (.irem, 1) := by decide +kernel
theorem dX8_vowelsShifted_24 : decode cX8_vowelsShifted 24 = .ok (.invokestatic 97, 3) := by decide +kernel
theorem dX8_vowelsShifted_27 : decode cX8_vowelsShifted 27 = .ok (.ifCond .eq 7, 3) := by decide +kernel
theorem dX8_vowelsShifted_30 : decode cX8_vowelsShifted 30 = .ok (.iconst 1, 1) := by decide +kernel
theorem dX8_vowelsShifted_31 : decode cX8_vowelsShifted 31 = .ok (.goto 4, 3) := by decide +kernel
theorem dX8_vowelsShifted_34 : decode cX8_vowelsShifted 34 = .ok (.iconst 0, 1) := by decide +kernel
theorem dX8_vowelsShifted_35 : decode cX8_vowelsShifted 35 = .ok (.iadd, 1) := by decide +kernel
theorem dX8_vowelsShifted_36 : decode cX8_vowelsShifted 36 = .ok (.istore_n 2, 1) := by decide +kernel
theorem dX8_vowelsShifted_37 : decode cX8_vowelsShifted 37 = .ok (.iinc 3 1, 3) := by decide +kernel
theorem dX8_vowelsShifted_40 : decode cX8_vowelsShifted 40 = .ok (.goto (-36), 3) := by decide +kernel
theorem dX8_vowelsShifted_43 : decode cX8_vowelsShifted 43 = .ok (.iload_n 2, 1) := by decide +kernel
theorem dX8_vowelsShifted_44 : decode cX8_vowelsShifted 44 = .ok (.ireturn, 1) := by decide +kernel
theorem dX8_isVowel_0 : decode cX8_isVowel 0 = .ok (.iload_n 0, 1) := by decide +kernel
theorem dX8_isVowel_1 : decode cX8_isVowel 1 = .ok (.bipush 97, 2) := by decide +kernel
theorem dX8_isVowel_3 : decode cX8_isVowel 3 = .ok (.iadd, 1) := by decide +kernel
theorem dX8_isVowel_4 : decode cX8_isVowel 4 = .ok (.istore_n 1, 1) := by decide +kernel
theorem dX8_isVowel_5 : decode cX8_isVowel 5 = .ok (.iload_n 1, 1) := by decide +kernel
theorem dX8_isVowel_6 : decode cX8_isVowel 6 = .ok (.bipush 97, 2) := by decide +kernel
theorem dX8_isVowel_8 : decode cX8_isVowel 8 = .ok (.if_icmp .eq 27, 3) := by decide +kernel
theorem dX8_isVowel_11 : decode cX8_isVowel 11 = .ok (.iload_n 1, 1) := by decide +kernel
theorem dX8_isVowel_12 : decode cX8_isVowel 12 = .ok (.bipush 101, 2) := by decide +kernel
theorem dX8_isVowel_14 : decode cX8_isVowel 14 = .ok (.if_icmp .eq 21, 3) := by decide +kernel
theorem dX8_isVowel_17 : decode cX8_isVowel 17 = .ok (.iload_n 1, 1) := by decide +kernel
theorem dX8_isVowel_18 : decode cX8_isVowel 18 = .ok (.bipush 105, 2) := by decide +kernel
theorem dX8_isVowel_20 : decode cX8_isVowel 20 = .ok (.if_icmp .eq 15, 3) := by decide +kernel
theorem dX8_isVowel_23 : decode cX8_isVowel 23 = .ok (.iload_n 1, 1) := by decide +kernel
theorem dX8_isVowel_24 : decode cX8_isVowel 24 = .ok (.bipush 111, 2) := by decide +kernel
theorem dX8_isVowel_26 : decode cX8_isVowel 26 = .ok (.if_icmp .eq 9, 3) := by decide +kernel
theorem dX8_isVowel_29 : decode cX8_isVowel 29 = .ok (.iload_n 1, 1) := by decide +kernel
theorem dX8_isVowel_30 : decode cX8_isVowel 30 = .ok (.bipush 117, 2) := by decide +kernel
theorem dX8_isVowel_32 : decode cX8_isVowel 32 = .ok (.if_icmp .ne 7, 3) := by decide +kernel
theorem dX8_isVowel_35 : decode cX8_isVowel 35 = .ok (.iconst 1, 1) := by decide +kernel
theorem dX8_isVowel_36 : decode cX8_isVowel 36 = .ok (.goto 4, 3) := by decide +kernel
theorem dX8_isVowel_39 : decode cX8_isVowel 39 = .ok (.iconst 0, 1) := by decide +kernel
theorem dX8_isVowel_40 : decode cX8_isVowel 40 = .ok (.ireturn, 1) := by decide +kernel
theorem dX8_longestSameFromBehind_0 : decode cX8_longestSameFromBehind 0 = .ok (.aload_n 0, 1) := by decide +kernel
theorem dX8_longestSameFromBehind_1 : decode cX8_longestSameFromBehind 1 = .ok (.getfield 16, 3) := by decide +kernel
theorem dX8_longestSameFromBehind_4 : decode cX8_longestSameFromBehind 4 = .ok (.istore_n 1, 1) := by decide +kernel
theorem dX8_longestSameFromBehind_5 : decode cX8_longestSameFromBehind 5 = .ok (.iload_n 1, 1) := by decide +kernel
theorem dX8_longestSameFromBehind_6 : decode cX8_longestSameFromBehind 6 = .ok (.iconst 1, 1) := by decide +kernel
theorem dX8_longestSameFromBehind_7 : decode cX8_longestSameFromBehind 7 = .ok (.if_icmp .le 38, 3) := by decide +kernel
theorem dX8_longestSameFromBehind_10 : decode cX8_longestSameFromBehind 10 = .ok (.iconst 0, 1) := by decide +kernel
theorem dX8_longestSameFromBehind_11 : decode cX8_longestSameFromBehind 11 = .ok (.istore_n 2, 1) := by decide +kernel
theorem dX8_longestSameFromBehind_12 : decode cX8_longestSameFromBehind 12 = .ok (.iload_n 2, 1) := by decide +kernel
theorem dX8_longestSameFromBehind_13 : decode cX8_longestSameFromBehind 13 = .ok (.iload_n 1, 1) := by decide +kernel
theorem dX8_longestSameFromBehind_14 : decode cX8_longestSameFromBehind 14 = .ok (.iadd, 1) := by decide +kernel
theorem dX8_longestSameFromBehind_15 : decode cX8_longestSameFromBehind 15 = .ok (.aload_n 0, 1) := by decide +kernel
theorem dX8_longestSameFromBehind_16 : decode cX8_longestSameFromBehind 16 = .ok (.getfield 16, 3) := by decide +kernel
theorem dX8_longestSameFromBehind_19 : decode cX8_longestSameFromBehind 19 = .ok (.if_icmp .gt 20, 3) := by decide +kernel
theorem dX8_longestSameFromBehind_22 : decode cX8_longestSameFromBehind 22 = .ok (.aload_n 0, 1) := by decide +kernel
theorem dX8_longestSameFromBehind_23 : decode cX8_longestSameFromBehind 23 = .ok (.iload_n 2, 1) := by decide +kernel
theorem dX8_longestSameFromBehind_24 : decode cX8_longestSameFromBehind 24 = .ok (.iload_n 1, 1) := by decide +kernel
theorem dX8_longestSameFromBehind_25 : decode cX8_longestSameFromBehind 25 = .ok (.invokevirtual 80, 3) := by decide +kernel
theorem dX8_longestSameFromBehind_28 : decode cX8_longestSameFromBehind 28 = .ok (.ifCond .eq 5, 3) := by decide +kernel
theorem dX8_longestSameFromBehind_31 : decode cX8_longestSameFromBehind 31 = .ok (.iload_n 1, 1) := by decide +kernel
theorem dX8_longestSameFromBehind_32 : decode cX8_longestSameFromBehind 32 = .ok (.ireturn, 1) := by decide +kernel
theorem dX8_longestSameFromBehind_33 : decode cX8_longestSameFromBehind 33 = .ok (.iinc 2 1, 3) := by decide +kernel
theorem dX8_longestSameFromBehind_36 : decode cX8_longestSameFromBehind 36 = .ok (.goto (-24), 3) := by decide +kernel
theorem dX8_longestSameFromBehind_39 : decode cX8_longestSameFromBehind 39 = .ok (.iinc 1 (-1), 3) := by decide +kernel
theorem dX8_longestSameFromBehind_42 : decode cX8_longestSameFromBehind 42 = .ok (.goto (-37), 3) := by decide +kernel
theorem dX8_longestSameFromBehind_45 : decode cX8_longestSameFromBehind 45 = .ok (.iconst 1, 1) := by decide +kernel
theorem dX8_longestSameFromBehind_46 : decode cX8_longestSameFromBehind 46 = .ok (.aload_n 0, 1) := by decide +kernel
theorem dX8_longestSameFromBehind_47 : decode cX8_longestSameFromBehind 47 = .ok (.getfield 16, 3) := by decide +kernel
theorem dX8_longestSameFromBehind_50 : decode cX8_longestSameFromBehind 50 = .ok (.invokestatic 100, 3) := by decide +kernel
theorem dX8_longestSameFromBehind_53 : decode cX8_longestSameFromBehind 53 = .ok (.ireturn, 1) := by decide +kernel
theorem dX8_isSameFromBehind_0 : decode cX8_isSameFromBehind 0 = .ok (.iconst 0, 1) := by decide +kernel
theorem dX8_isSameFromBehind_1 : decode cX8_isSameFromBehind 1 = .ok (.istore_n 3, 1) := by decide +kernel
theorem dX8_isSameFromBehind_2 : decode cX8_isSameFromBehind 2 = .ok (.iconst 2, 1) := by decide +kernel
theorem dX8_isSameFromBehind_3 : decode cX8_isSameFromBehind 3 = .ok (.iload_n 3, 1) := by decide +kernel
theorem dX8_isSameFromBehind_4 : decode cX8_isSameFromBehind 4 = .ok (.imul, 1) := by decide +kernel
theorem dX8_isSameFromBehind_5 : decode cX8_isSameFromBehind 5 = .ok (.iload_n 2, 1) := by decide +kernel
theorem dX8_isSameFromBehind_6 : decode cX8_isSameFromBehind 6 = .ok (.if_icmp .ge 34, 3) := by decide +kernel
theorem dX8_isSameFromBehind_9 : decode cX8_isSameFromBehind 9 = .ok (.aload_n 0, 1) := by decide +kernel
theorem dX8_isSameFromBehind_10 : decode cX8_isSameFromBehind 10 = .ok (.getfield 9, 3) := by decide +kernel
theorem dX8_isSameFromBehind_13 : decode cX8_isSameFromBehind 13 = .ok (.iload_n 1, 1) := by decide +kernel
theorem dX8_isSameFromBehind_14 : decode cX8_isSameFromBehind 14 = .ok (.iload_n 3, 1) := by decide +kernel
theorem dX8_isSameFromBehind_15 : decode cX8_isSameFromBehind 15 = .ok (.iadd, 1) := by decide +kernel
theorem dX8_isSameFromBehind_16 : decode cX8_isSameFromBehind 16 = .ok (.iaload, 1) := by decide +kernel
theorem dX8_isSameFromBehind_17 : decode cX8_isSameFromBehind 17 = .ok (.aload_n 0, 1) := by decide +kernel
theorem dX8_isSameFromBehind_18 : decode cX8_isSameFromBehind 18 = .ok (.getfield 9, 3) := by decide +kernel
theorem dX8_isSameFromBehind_21 : decode cX8_isSameFromBehind 21 = .ok (.iload_n 1, 1) := by decide +kernel
theorem dX8_isSameFromBehind_22 : decode cX8_isSameFromBehind 22 = .ok (.iload_n 2, 1) := by decide +kernel
theorem dX8_isSameFromBehind_23 : decode cX8_isSameFromBehind 23 = .ok (.iadd, 1) := by decide +kernel
theorem dX8_isSameFromBehind_24 : decode cX8_isSameFromBehind 24 = .ok (.iconst 1, 1) := by decide +kernel
theorem dX8_isSameFromBehind_25 : decode cX8_isSameFromBehind 25 = .ok (.isub, 1) := by decide +kernel
theorem dX8_isSameFromBehind_26 : decode cX8_isSameFromBehind 26 = .ok (.iload_n 3, 1) := by decide +kernel
theorem dX8_isSameFromBehind_27 : decode cX8_isSameFromBehind 27 = .ok (.isub, 1) := by decide +kernel
theorem dX8_isSameFromBehind_28 : decode cX8_isSameFromBehind 28 = .ok (.iaload, 1) := by decide +kernel
theorem dX8_isSameFromBehind_29 : decode cX8_isSameFromBehind 29 = .ok (.if_icmp .eq 5, 3) := by decide +kernel
theorem dX8_isSameFromBehind_32 : decode cX8_isSameFromBehind 32 = .ok (.iconst 0, 1) := by decide +kernel
theorem dX8_isSameFromBehind_33 : decode cX8_isSameFromBehind 33 = .ok (.ireturn, 1) := by decide +kernel
theorem dX8_isSameFromBehind_34 : decode cX8_isSameFromBehind 34 = .ok (.iinc 3 1, 3) := by decide +kernel
theorem dX8_isSameFromBehind_37 : decode cX8_isSameFromBehind 37 = .ok (.goto (-35), 3) := by decide +kernel
theorem dX8_isSameFromBehind_40 : decode cX8_isSameFromBehind 40 = .ok (.iconst 1, 1) := by decide +kernel
theorem dX8_isSameFromBehind_41 : decode cX8_isSameFromBehind 41 = .ok (.ireturn, 1) := by decide +kernel
theorem dX9_init_0 : decode cX9_init 0 = .ok (.aload_n 0, 1) := by decide +kernel
theorem dX9_init_1 : decode cX9_init 1 = .ok (.invokespecial 1, 3) := by decide +kernel
theorem dX9_init_4 : decode cX9_init 4 = .ok (.aload_n 0, 1) := by decide +kernel
theorem dX9_init_5 : decode cX9_init 5 = .ok (.sipush 260, 3) := by decide +kernel
theorem dX9_init_8 : decode cX9_init 8 = .ok (.newarray .int, 2) := by decide +kernel
theorem dX9_init_10 : decode cX9_init 10 = .ok (.putfield 9, 3) := by decide +kernel
theorem dX9_init_13 : decode cX9_init 13 = .ok (.aload_n 0, 1) := by decide +kernel
theorem dX9_init_14 : decode cX9_init 14 = .ok (.iconst 0, 1) := by decide +kernel
theorem dX9_init_15 : decode cX9_init 15 = .ok (.putfield 13, 3) := by decide +kernel
theorem dX9_init_18 : decode cX9_init 18 = .ok (.return_, 1) := by decide +kernel
theorem dX9_hasSpaceForFive_0 : decode cX9_hasSpaceForFive 0 = .ok (.aload_n 0, 1) := by decide +kernel
theorem dX9_hasSpaceForFive_1 : decode cX9_hasSpaceForFive 1 = .ok (.getfield 13, 3) := by decide +kernel
theorem dX9_hasSpaceForFive_4 : decode cX9_hasSpaceForFive 4 = .ok (.bipush 20, 2) := by decide +kernel
theorem dX9_hasSpaceForFive_6 : decode cX9_hasSpaceForFive 6 = .ok (.iadd, 1) := by decide +kernel
theorem dX9_hasSpaceForFive_7 : decode cX9_hasSpaceForFive 7 = .ok (.sipush 260, 3) := by decide +kernel
theorem dX9_hasSpaceForFive_10 : decode cX9_hasSpaceForFive 10 = .ok (.if_icmp .gt 7, 3) := by decide +kernel
theorem dX9_hasSpaceForFive_13 : decode cX9_hasSpaceForFive 13 = .ok (.iconst 1, 1) := by decide +kernel
theorem dX9_hasSpaceForFive_14 : decode cX9_hasSpaceForFive 14 = .ok (.goto 4, 3) := by decide +kernel
theorem dX9_hasSpaceForFive_17 : decode cX9_hasSpaceForFive 17 = .ok (.iconst 0, 1) := by decide +kernel
theorem dX9_hasSpaceForFive_18 : decode cX9_hasSpaceForFive 18 = .ok (.ireturn, 1) := by decide +kernel
theorem dX9_append_0 : decode cX9_append 0 = .ok (.aload_n 0, 1) := by decide +kernel
theorem dX9_append_1 : decode cX9_append 1 = .ok (.getfield 13, 3) := by decide +kernel
theorem dX9_append_4 : decode cX9_append 4 = .ok (.ifCond .lt 15, 3) := by decide +kernel
theorem dX9_append_7 : decode cX9_append 7 = .ok (.aload_n 0, 1) := by decide +kernel
theorem dX9_append_8 : decode cX9_append 8 = .ok (.getfield 13, 3) := by decide +kernel
theorem dX9_append_11 : decode cX9_append 11 = .ok (.iconst 4, 1) := by decide +kernel
theorem dX9_append_12 : decode cX9_append 12 = .ok (.iadd, 1) := by decide +kernel
theorem dX9_append_13 : decode cX9_append 13 = .ok (.sipush 260, 3) := by decide +kernel
theorem dX9_append_16 : decode cX9_append 16 = .ok (.if_icmp .le 4, 3) := by decide +kernel
theorem dX9_append_19 : decode cX9_append 19 = .ok (.return_, 1) := by decide +kernel
theorem dX9_append_20 : decode cX9_append 20 = .ok (.iconst 0, 1) := by decide +kernel
theorem dX9_append_21 : decode cX9_append 21 = .ok (.istore_n 2, 1) := by decide +kernel
theorem dX9_append_22 : decode cX9_append 22 = .ok (.iload_n 2, 1) := by decide +kernel
theorem dX9_append_23 : decode cX9_append 23 = .ok (.iconst 4, 1) := by decide +kernel
theorem dX9_append_24 : decode cX9_append 24 = .ok (.if_icmp .ge 33, 3) := by decide +kernel
theorem dX9_append_27 : decode cX9_append 27 = .ok (.aload_n 0, 1) := by decide +kernel
theorem dX9_append_28 : decode cX9_append 28 = .ok (.getfield 9, 3) := by decide +kernel
theorem dX9_append_31 : decode cX9_append 31 = .ok (.aload_n 0, 1) := by decide +kernel
theorem dX9_append_32 : decode cX9_append 32 = .ok (.getfield 13, 3) := by decide +kernel
theorem dX9_append_35 : decode cX9_append 35 = .ok (.iload_n 2, 1) := by decide +kernel
theorem dX9_append_36 : decode cX9_append 36 = .ok (.iadd, 1) := by decide +kernel
theorem dX9_append_37 : decode cX9_append 37 = .ok (.iload_n 1, 1) := by decide +kernel
theorem dX9_append_38 : decode cX9_append 38 = .ok (.bipush 24, 2) := by decide +kernel
theorem dX9_append_40 : decode cX9_append 40 = .ok (.bipush 8, 2) := by decide +kernel
theorem dX9_append_42 : decode cX9_append 42 = .ok (.iload_n 2, 1) := by decide +kernel
theorem dX9_append_43 : decode cX9_append 43 = .ok (.imul, 1) := by decide +kernel
theorem dX9_append_44 : decode cX9_append 44 = .ok (.isub, 1) := by decide +kernel
theorem dX9_append_45 : decode cX9_append 45 = .ok (.iushr, 1) := by decide +kernel
theorem dX9_append_46 : decode cX9_append 46 = .ok (.sipush 255, 3) := by decide +kernel
theorem dX9_append_49 : decode cX9_append 49 = .ok (.iand, 1) := by decide +kernel
theorem dX9_append_50 : decode cX9_append 50 = .ok (.iastore, 1) := by decide +kernel
theorem dX9_append_51 : decode cX9_append 51 = .ok (.iinc 2 1, 3) := by decide +kernel
theorem dX9_append_54 : decode cX9_append 54 = .ok (.goto (-32), 3) := by decide +kernel
theorem dX9_append_57 : decode cX9_append 57 = .ok (.aload_n 0, 1) := by decide +kernel
theorem dX9_append_58 : decode cX9_append 58 = .ok (.dup, 1) := by decide +kernel
theorem dX9_append_59 : decode cX9_append 59 = .ok (.getfield 13, 3) := by decide +kernel
theorem dX9_append_62 : decode cX9_append 62 = .ok (.iconst 4, 1) := by decide +kernel
theorem dX9_append_63 : decode cX9_append 63 = .ok (.iadd, 1) := by decide +kernel
theorem dX9_append_64 : decode cX9_append 64 = .ok (.putfield 13, 3) := by decide +kernel
theorem dX9_append_67 : decode cX9_append 67 = .ok (.return_, 1) := by decide +kernel
theorem dX9_holds_0 : decode cX9_holds 0 = .ok (.iload_n 1, 1) := by decide +kernel
theorem dX9_holds_1 : decode cX9_holds 1 = .ok (.aload_n 0, 1) := by decide +kernel
theorem dX9_holds_2 : decode cX9_holds 2 = .ok (.getfield 13, 3) := by decide +kernel
theorem dX9_holds_5 : decode cX9_holds 5 = .ok (.if_icmp .gt 7, 3) := by decide +kernel
theorem dX9_holds_8 : decode cX9_holds 8 = .ok (.iconst 1, 1) := by decide +kernel
theorem dX9_holds_9 : decode cX9_holds 9 = .ok (.goto 4, 3) := by decide +kernel
theorem dX9_holds_12 : decode cX9_holds 12 = .ok (.iconst 0, 1) := by decide +kernel
theorem dX9_holds_13 : decode cX9_holds 13 = .ok (.ireturn, 1) := by decide +kernel
theorem dX9_at_0 : decode cX9_at 0 = .ok (.iload_n 1, 1) := by decide +kernel
theorem dX9_at_1 : decode cX9_at 1 = .ok (.ifCond .lt 27, 3) := by decide +kernel
theorem dX9_at_4 : decode cX9_at 4 = .ok (.iload_n 1, 1) := by decide +kernel
theorem dX9_at_5 : decode cX9_at 5 = .ok (.aload_n 0, 1) := by decide +kernel
theorem dX9_at_6 : decode cX9_at 6 = .ok (.getfield 13, 3) := by decide +kernel
theorem dX9_at_9 : decode cX9_at 9 = .ok (.if_icmp .ge 19, 3) := by decide +kernel
theorem dX9_at_12 : decode cX9_at 12 = .ok (.iload_n 1, 1) := by decide +kernel
theorem dX9_at_13 : decode cX9_at 13 = .ok (.sipush 260, 3) := by decide +kernel
theorem dX9_at_16 : decode cX9_at 16 = .ok (.if_icmp .ge 12, 3) := by decide +kernel
theorem dX9_at_19 : decode cX9_at 19 = .ok (.aload_n 0, 1) := by decide +kernel
theorem dX9_at_20 : decode cX9_at 20 = .ok (.getfield 9, 3) := by decide +kernel
theorem dX9_at_23 : decode cX9_at 23 = .ok (.iload_n 1, 1) := by decide +kernel
theorem dX9_at_24 : decode cX9_at 24 = .ok (.iaload, 1) := by decide +kernel
theorem dX9_at_25 : decode cX9_at 25 = .ok (.goto 4, 3) := by decide +kernel
theorem dX9_at_28 : decode cX9_at 28 = .ok (.iconst (-1), 1) := by decide +kernel
theorem dX9_at_29 : decode cX9_at 29 = .ok (.ireturn, 1) := by decide +kernel
theorem dX9_clear_0 : decode cX9_clear 0 = .ok (.aload_n 0, 1) := by decide +kernel
theorem dX9_clear_1 : decode cX9_clear 1 = .ok (.iconst 0, 1) := by decide +kernel
theorem dX9_clear_2 : decode cX9_clear 2 = .ok (.putfield 13, 3) := by decide +kernel
theorem dX9_clear_5 : decode cX9_clear 5 = .ok (.return_, 1) := by decide +kernel

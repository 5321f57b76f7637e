theorem dX0_init_0 : decode cX0_init 0 = .ok (.aload_n 0, 1) := by decide +kernel
theorem dX0_init_1 : decode cX0_init 1 = .ok (.invokespecial 3, 3) := by decide +kernel
theorem dX0_init_4 : decode cX0_init 4 = .ok (.aload_n 0, 1) := by decide +kernel
theorem dX0_init_5 : decode cX0_init 5 = .ok (.bipush 12, 2) := by decide +kernel
theorem dX0_init_7 : decode cX0_init 7 = .ok (.newarray .int, 2) := by decide +kernel
theorem dX0_init_9 : decode cX0_init 9 = .ok (.putfield 9, 3) := by decide +kernel
theorem dX0_init_12 : decode cX0_init 12 = .ok (.aload_n 0, 1) := by decide +kernel
theorem dX0_init_13 : decode cX0_init 13 = .ok (.bipush 12, 2) := by decide +kernel
theorem dX0_init_15 : decode cX0_init 15 = .ok (.newarray .int, 2) := by decide +kernel
theorem dX0_init_17 : decode cX0_init 17 = .ok (.putfield 15, 3) := by decide +kernel
theorem dX0_init_20 : decode cX0_init 20 = .ok (.aload_n 0, 1) := by decide +kernel
theorem dX0_init_21 : decode cX0_init 21 = .ok (.bipush 12, 2) := by decide +kernel
theorem dX0_init_23 : decode cX0_init 23 = .ok (.newarray .int, 2) := by decide +kernel
theorem dX0_init_25 : decode cX0_init 25 = .ok (.putfield 18, 3) := by decide +kernel
theorem dX0_init_28 : decode cX0_init 28 = .ok (.aload_n 0, 1) := by decide +kernel
theorem dX0_init_29 : decode cX0_init 29 = .ok (.bipush 24, 2) := by decide +kernel
theorem dX0_init_31 : decode cX0_init 31 = .ok (.newarray .int, 2) := by decide +kernel
theorem dX0_init_33 : decode cX0_init 33 = .ok (.putfield 21, 3) := by decide +kernel
theorem dX0_init_36 : decode cX0_init 36 = .ok (.aload_n 0, 1) := by decide +kernel
theorem dX0_init_37 : decode cX0_init 37 = .ok (.bipush 24, 2) := by decide +kernel
theorem dX0_init_39 : decode cX0_init 39 = .ok (.newarray .int, 2) := by decide +kernel
theorem dX0_init_41 : decode cX0_init 41 = .ok (.putfield 24, 3) := by decide +kernel
theorem dX0_init_44 : decode cX0_init 44 = .ok (.aload_n 0, 1) := by decide +kernel
theorem dX0_init_45 : decode cX0_init 45 = .ok (.bipush 24, 2) := by decide +kernel
theorem dX0_init_47 : decode cX0_init 47 = .ok (.newarray .int, 2) := by decide +kernel
theorem dX0_init_49 : decode cX0_init 49 = .ok (.putfield 27, 3) := by decide +kernel
theorem dX0_init_52 : decode cX0_init 52 = .ok (.aload_n 0, 1) := by decide +kernel
theorem dX0_init_53 : decode cX0_init 53 = .ok (.bipush 24, 2) := by decide +kernel
theorem dX0_init_55 : decode cX0_init 55 = .ok (.newarray .int, 2) := by decide +kernel
theorem dX0_init_57 : decode cX0_init 57 = .ok (.putfield 30, 3) := by decide +kernel
theorem dX0_init_60 : decode cX0_init 60 = .ok (.aload_n 0, 1) := by decide +kernel
theorem dX0_init_61 : decode cX0_init 61 = .ok (.bipush 24, 2) := by decide +kernel
theorem dX0_init_63 : decode cX0_init 63 = .ok (.newarray .int, 2) := by decide +kernel
theorem dX0_init_65 : decode cX0_init 65 = .ok (.putfield 33, 3) := by decide +kernel
theorem dX0_init_68 : decode cX0_init 68 = .ok (.aload_n 0, 1) := by decide +kernel
theorem dX0_init_69 : decode cX0_init 69 = .ok (.iconst 0, 1) := by decide +kernel
theorem dX0_init_70 : decode cX0_init 70 = .ok (.putfield 36, 3) := by decide +kernel
theorem dX0_init_73 : decode cX0_init 73 = .ok (.aload_n 0, 1) := by decide +kernel
theorem dX0_init_74 : decode cX0_init 74 = .ok (.iconst 0, 1) := by decide +kernel
theorem dX0_init_75 : decode cX0_init 75 = .ok (.putfield 40, 3) := by decide +kernel
theorem dX0_init_78 : decode cX0_init 78 = .ok (.aload_n 0, 1) := by decide +kernel
theorem dX0_init_79 : decode cX0_init 79 = .ok (.iconst 1, 1) := by decide +kernel
theorem dX0_init_80 : decode cX0_init 80 = .ok (.putfield 43, 3) := by decide +kernel
theorem dX0_init_83 : decode cX0_init 83 = .ok (.return_, 1) := by decide +kernel
theorem dX0_clearCabinet_0 : decode cX0_clearCabinet 0 = .ok (.aload_n 0, 1) := by decide +kernel
theorem dX0_clearCabinet_1 : decode cX0_clearCabinet 1 = .ok (.getfield 9, 3) := by decide +kernel
theorem dX0_clearCabinet_4 : decode cX0_clearCabinet 4 = .ok (.iconst 0, 1) := by decide +kernel
theorem dX0_clearCabinet_5 : decode cX0_clearCabinet 5 = .ok (.invokestatic 46, 3) := by decide +kernel
theorem dX0_clearCabinet_8 : decode cX0_clearCabinet 8 = .ok (.aload_n 0, 1) := by decide +kernel
theorem dX0_clearCabinet_9 : decode cX0_clearCabinet 9 = .ok (.getfield 15, 3) := by decide +kernel
theorem dX0_clearCabinet_12 : decode cX0_clearCabinet 12 = .ok (.iconst 0, 1) := by decide +kernel
theorem dX0_clearCabinet_13 : decode cX0_clearCabinet 13 = .ok (.invokestatic 46, 3) := by decide +kernel
theorem dX0_clearCabinet_16 : decode cX0_clearCabinet 16 = .ok (.aload_n 0, 1) := by decide +kernel
theorem dX0_clearCabinet_17 : decode cX0_clearCabinet 17 = .ok (.getfield 18, 3) := by decide +kernel
theorem dX0_clearCabinet_20 : decode cX0_clearCabinet 20 = .ok (.iconst 0, 1) := by decide +kernel
theorem dX0_clearCabinet_21 : decode cX0_clearCabinet 21 = .ok (.invokestatic 46, 3) := by decide +kernel
theorem dX0_clearCabinet_24 : decode cX0_clearCabinet 24 = .ok (.aload_n 0, 1) := by decide +kernel
theorem dX0_clearCabinet_25 : decode cX0_clearCabinet 25 = .ok (.iconst 0, 1) := by decide +kernel
theorem dX0_clearCabinet_26 : decode cX0_clearCabinet 26 = .ok (.putfield 36, 3) := by decide +kernel
theorem dX0_clearCabinet_29 : decode cX0_clearCabinet 29 = .ok (.return_, 1) := by decide +kernel
theorem dX0_copyFrom_0 : decode cX0_copyFrom 0 = .ok (.aload_n 1, 1) := by decide +kernel
theorem dX0_copyFrom_1 : decode cX0_copyFrom 1 = .ok (.getfield 9, 3) := by decide +kernel
theorem dX0_copyFrom_4 : decode cX0_copyFrom 4 = .ok (.iconst 0, 1) := by decide +kernel
theorem dX0_copyFrom_5 : decode cX0_copyFrom 5 = .ok (.aload_n 0, 1) := by decide +kernel
theorem dX0_copyFrom_6 : decode cX0_copyFrom 6 = .ok (.getfield 9, 3) := by decide +kernel
theorem dX0_copyFrom_9 : decode cX0_copyFrom 9 = .ok (.iconst 0, 1) := by decide +kernel
theorem dX0_copyFrom_10 : decode cX0_copyFrom 10 = .ok (.bipush 12, 2) := by decide +kernel
theorem dX0_copyFrom_12 : decode cX0_copyFrom 12 = .ok (.invokestatic 52, 3) := by decide +kernel
theorem dX0_copyFrom_15 : decode cX0_copyFrom 15 = .ok (.aload_n 1, 1) := by decide +kernel
theorem dX0_copyFrom_16 : decode cX0_copyFrom 16 = .ok (.getfield 15, 3) := by decide +kernel
theorem dX0_copyFrom_19 : decode cX0_copyFrom 19 = .ok (.iconst 0, 1) := by decide +kernel
theorem dX0_copyFrom_20 : decode cX0_copyFrom 20 = .ok (.aload_n 0, 1) := by decide +kernel
theorem dX0_copyFrom_21 : decode cX0_copyFrom 21 = .ok (.getfield 15, 3) := by decide +kernel
theorem dX0_copyFrom_24 : decode cX0_copyFrom 24 = .ok (.iconst 0, 1) := by decide +kernel
theorem dX0_copyFrom_25 : decode cX0_copyFrom 25 = .ok (.bipush 12, 2) := by decide +kernel
theorem dX0_copyFrom_27 : decode cX0_copyFrom 27 = .ok (.invokestatic 52, 3) := by decide +kernel
theorem dX0_copyFrom_30 : decode cX0_copyFrom 30 = .ok (.aload_n 1, 1) := by decide +kernel
theorem dX0_copyFrom_31 : decode cX0_copyFrom 31 = .ok (.getfield 18, 3) := by decide +kernel
theorem dX0_copyFrom_34 : decode cX0_copyFrom 34 = .ok (.iconst 0, 1) := by decide +kernel
theorem dX0_copyFrom_35 : decode cX0_copyFrom 35 = .ok (.aload_n 0, 1) := by decide +kernel
theorem dX0_copyFrom_36 : decode cX0_copyFrom 36 = .ok (.getfield 18, 3) := by decide +kernel
theorem dX0_copyFrom_39 : decode cX0_copyFrom 39 = .ok (.iconst 0, 1) := by decide +kernel
theorem dX0_copyFrom_40 : decode cX0_copyFrom 40 = .ok (.bipush 12, 2) := by decide +kernel
theorem dX0_copyFrom_42 : decode cX0_copyFrom 42 = .ok (.invokestatic 52, 3) := by decide +kernel
theorem dX0_copyFrom_45 : decode cX0_copyFrom 45 = .ok (.aload_n 1, 1) := by decide +kernel
theorem dX0_copyFrom_46 : decode cX0_copyFrom 46 = .ok (.getfield 21, 3) := by decide +kernel
theorem dX0_copyFrom_49 : decode cX0_copyFrom 49 = .ok (.iconst 0, 1) := by decide +kernel
theorem dX0_copyFrom_50 : decode cX0_copyFrom 50 = .ok (.aload_n 0, 1) := by decide +kernel
theorem dX0_copyFrom_51 : decode cX0_copyFrom 51 = .ok (.getfield 21, 3) := by decide +kernel
theorem dX0_copyFrom_54 : decode cX0_copyFrom 54 = .ok (.iconst 0, 1) := by decide +kernel
theorem dX0_copyFrom_55 : decode cX0_copyFrom 55 = .ok (.bipush 24, 2) := by decide +kernel
theorem dX0_copyFrom_57 : decode cX0_copyFrom 57 = .ok (.invokestatic 52, 3) := by decide +kernel
theorem dX0_copyFrom_60 : decode cX0_copyFrom 60 = .ok (.aload_n 1, 1) := by decide +kernel
theorem dX0_copyFrom_61 : decode cX0_copyFrom 61 = .ok (.getfield 24, 3) := by decide +kernel
theorem dX0_copyFrom_64 : decode cX0_copyFrom 64 = .ok (.iconst 0, 1) := by decide +kernel
theorem dX0_copyFrom_65 : decode cX0_copyFrom 65 = .ok (.aload_n 0, 1) := by decide +kernel
theorem dX0_copyFrom_66 : decode cX0_copyFrom 66 = .ok (.getfield 24, 3) := by decide +kernel
theorem dX0_copyFrom_69 : decode cX0_copyFrom 69 = .ok (.iconst 0, 1) := by decide +kernel
theorem dX0_copyFrom_70 : decode cX0_copyFrom 70 = .ok (.bipush 24, 2) := by decide +kernel
theorem dX0_copyFrom_72 : decode cX0_copyFrom 72 = .ok (.invokestatic 52, 3) := by decide +kernel
theorem dX0_copyFrom_75 : decode cX0_copyFrom 75 = .ok (.aload_n 1, 1) := by decide +kernel
theorem dX0_copyFrom_76 : decode cX0_copyFrom 76 = .ok (.getfield 27, 3) := by decide +kernel
theorem dX0_copyFrom_79 : decode cX0_copyFrom 79 = .ok (.iconst 0, 1) := by decide +kernel
theorem dX0_copyFrom_80 : decode cX0_copyFrom 80 = .ok (.aload_n 0, 1) := by decide +kernel
theorem dX0_copyFrom_81 : decode cX0_copyFrom 81 = .ok (.getfield 27, 3) := by decide +kernel
theorem dX0_copyFrom_84 : decode cX0_copyFrom 84 = .ok (.iconst 0, 1) := by decide +kernel
theorem dX0_copyFrom_85 : decode cX0_copyFrom 85 = .ok (.bipush 24, 2) := by decide +kernel
theorem dX0_copyFrom_87 : decode cX0_copyFrom 87 = .ok (.invokestatic 52, 3) := by decide +kernel
theorem dX0_copyFrom_90 : decode cX0_copyFrom 90 = .ok (.aload_n 1, 1) := by decide +kernel
theorem dX0_copyFrom_91 : decode cX0_copyFrom 91 = .ok (.getfield 30, 3) := by decide +kernel
theorem dX0_copyFrom_94 : decode cX0_copyFrom 94 = .ok (.iconst 0, 1) := by decide +kernel
theorem dX0_copyFrom_95 : decode cX0_copyFrom 95 = .ok (.aload_n 0, 1) := by decide +kernel
theorem dX0_copyFrom_96 : decode cX0_copyFrom 96 = .ok (.getfield 30, 3) := by decide +kernel
theorem dX0_copyFrom_99 : decode cX0_copyFrom 99 = .ok (.iconst 0, 1) := by decide +kernel
theorem dX0_copyFrom_100 : decode cX0_copyFrom 100 = .ok (.bipush 24, 2) := by decide +kernel
theorem dX0_copyFrom_102 : decode cX0_copyFrom 102 = .ok (.invokestatic 52, 3) := by decide +kernel
theorem dX0_copyFrom_105 : decode cX0_copyFrom 105 = .ok (.aload_n 1, 1) := by decide +kernel
theorem dX0_copyFrom_106 : decode cX0_copyFrom 106 = .ok (.getfield 33, 3) := by decide +kernel
theorem dX0_copyFrom_109 : decode cX0_copyFrom 109 = .ok (.iconst 0, 1) := by decide +kernel
theorem dX0_copyFrom_110 : decode cX0_copyFrom 110 = .ok (.aload_n 0, 1) := by decide +kernel
theorem dX0_copyFrom_111 : decode cX0_copyFrom 111 = .ok (.getfield 33, 3) := by decide +kernel
theorem dX0_copyFrom_114 : decode cX0_copyFrom 114 = .ok (.iconst 0, 1) := by decide +kernel
theorem dX0_copyFrom_115 : decode cX0_copyFrom 115 = .ok (.bipush 24, 2) := by decide +kernel
theorem dX0_copyFrom_117 : decode cX0_copyFrom 117 = .ok (.invokestatic 52, 3) := by decide +kernel
theorem dX0_copyFrom_120 : decode cX0_copyFrom 120 = .ok (.aload_n 0, 1) := by decide +kernel
theorem dX0_copyFrom_121 : decode cX0_copyFrom 121 = .ok (.aload_n 1, 1) := by decide +kernel
theorem dX0_copyFrom_122 : decode cX0_copyFrom 122 = .ok (.getfield 36, 3) := by decide +kernel
theorem dX0_copyFrom_125 : decode cX0_copyFrom 125 = .ok (.putfield 36, 3) := by decide +kernel
theorem dX0_copyFrom_128 : decode cX0_copyFrom 128 = .ok (.aload_n 0, 1) := by decide +kernel
theorem dX0_copyFrom_129 : decode cX0_copyFrom 129 = .ok (.aload_n 1, 1) := by decide +kernel
theorem dX0_copyFrom_130 : decode cX0_copyFrom 130 = .ok (.invokevirtual 58, 3) := by decide +kernel
theorem dX0_copyFrom_133 : decode cX0_copyFrom 133 = .ok (.return_, 1) := by decide +kernel
theorem dX0_takeTime_0 : decode cX0_takeTime 0 = .ok (.aload_n 0, 1) := by decide +kernel
theorem dX0_takeTime_1 : decode cX0_takeTime 1 = .ok (.aload_n 1, 1) := by decide +kernel
theorem dX0_takeTime_2 : decode cX0_takeTime 2 = .ok (.getfield 40, 3) := by decide +kernel
theorem dX0_takeTime_5 : decode cX0_takeTime 5 = .ok (.putfield 40, 3) := by decide +kernel
theorem dX0_takeTime_8 : decode cX0_takeTime 8 = .ok (.aload_n 0, 1) := by decide +kernel
theorem dX0_takeTime_9 : decode cX0_takeTime 9 = .ok (.aload_n 1, 1) := by decide +kernel
theorem dX0_takeTime_10 : decode cX0_takeTime 10 = .ok (.getfield 43, 3) := by decide +kernel
theorem dX0_takeTime_13 : decode cX0_takeTime 13 = .ok (.putfield 43, 3) := by decide +kernel
theorem dX0_takeTime_16 : decode cX0_takeTime 16 = .ok (.return_, 1) := by decide +kernel
theorem dX0_isTold_0 : decode cX0_isTold 0 = .ok (.iload_n 1, 1) := by decide +kernel
theorem dX0_isTold_1 : decode cX0_isTold 1 = .ok (.ifCond .lt 22, 3) := by decide +kernel
theorem dX0_isTold_4 : decode cX0_isTold 4 = .ok (.iload_n 1, 1) := by decide +kernel
theorem dX0_isTold_5 : decode cX0_isTold 5 = .ok (.bipush 12, 2) := by decide +kernel
theorem dX0_isTold_7 : decode cX0_isTold 7 = .ok (.if_icmp .ge 16, 3) := by decide +kernel
theorem dX0_isTold_10 : decode cX0_isTold 10 = .ok (.aload_n 0, 1) := by decide +kernel
theorem dX0_isTold_11 : decode cX0_isTold 11 = .ok (.getfield 9, 3) := by decide +kernel
theorem dX0_isTold_14 : decode cX0_isTold 14 = .ok (.iload_n 1, 1) := by decide +kernel
theorem dX0_isTold_15 : decode cX0_isTold 15 = .ok (.iaload, 1) := by decide +kernel
theorem dX0_isTold_16 : decode cX0_isTold 16 = .ok (.ifCond .le 7, 3) := by decide +kernel
theorem dX0_isTold_19 : decode cX0_isTold 19 = .ok (.iconst 1, 1) := by decide +kernel
theorem dX0_isTold_20 : decode cX0_isTold 20 = .ok (.goto 4, 3) := by decide +kernel
theorem dX0_isTold_23 : decode cX0_isTold 23 = .ok (.iconst 0, 1) := by decide +kernel
theorem dX0_isTold_24 : decode cX0_isTold 24 = .ok (.ireturn, 1) := by decide +kernel
theorem dX0_hasPaper_0 : decode cX0_hasPaper 0 = .ok (.iload_n 1, 1) := by decide +kernel
theorem dX0_hasPaper_1 : decode cX0_hasPaper 1 = .ok (.ifCond .lt 21, 3) := by decide +kernel
theorem dX0_hasPaper_4 : decode cX0_hasPaper 4 = .ok (.iload_n 1, 1) := by decide +kernel
theorem dX0_hasPaper_5 : decode cX0_hasPaper 5 = .ok (.aload_n 0, 1) := by decide +kernel
theorem dX0_hasPaper_6 : decode cX0_hasPaper 6 = .ok (.getfield 36, 3) := by decide +kernel
theorem dX0_hasPaper_9 : decode cX0_hasPaper 9 = .ok (.if_icmp .ge 13, 3) := by decide +kernel
theorem dX0_hasPaper_12 : decode cX0_hasPaper 12 = .ok (.iload_n 1, 1) := by decide +kernel
theorem dX0_hasPaper_13 : decode cX0_hasPaper 13 = .ok (.bipush 24, 2) := by decide +kernel
theorem dX0_hasPaper_15 : decode cX0_hasPaper 15 = .ok (.if_icmp .ge 7, 3) := by decide +kernel
theorem dX0_hasPaper_18 : decode cX0_hasPaper 18 = .ok (.iconst 1, 1) := by decide +kernel
theorem dX0_hasPaper_19 : decode cX0_hasPaper 19 = .ok (.goto 4, 3) := by decide +kernel
theorem dX0_hasPaper_22 : decode cX0_hasPaper 22 = .ok (.iconst 0, 1) := by decide +kernel
theorem dX0_hasPaper_23 : decode cX0_hasPaper 23 = .ok (.ireturn, 1) := by decide +kernel
theorem dX0_isIn_0 : decode cX0_isIn 0 = .ok (.aload_n 0, 1) := by decide +kernel
theorem dX0_isIn_1 : decode cX0_isIn 1 = .ok (.iload_n 1, 1) := by decide +kernel
theorem dX0_isIn_2 : decode cX0_isIn 2 = .ok (.invokevirtual 62, 3) := by decide +kernel
theorem dX0_isIn_5 : decode cX0_isIn 5 = .ok (.ifCond .eq 20, 3) := by decide +kernel
theorem dX0_isIn_8 : decode cX0_isIn 8 = .ok (.aload_n 0, 1) := by decide +kernel
theorem dX0_isIn_9 : decode cX0_isIn 9 = .ok (.aload_n 0, 1) := by decide +kernel
theorem dX0_isIn_10 : decode cX0_isIn 10 = .ok (.getfield 27, 3) := by decide +kernel
theorem dX0_isIn_13 : decode cX0_isIn 13 = .ok (.iload_n 1, 1) := by decide +kernel
theorem dX0_isIn_14 : decode cX0_isIn 14 = .ok (.iaload, 1) := by decide +kernel
theorem dX0_isIn_15 : decode cX0_isIn 15 = .ok (.invokevirtual 66, 3) := by decide +kernel
theorem dX0_isIn_18 : decode cX0_isIn 18 = .ok (.ifCond .eq 7, 3) := by decide +kernel
theorem dX0_isIn_21 : decode cX0_isIn 21 = .ok (.iconst 1, 1) := by decide +kernel
theorem dX0_isIn_22 : decode cX0_isIn 22 = .ok (.goto 4, 3) := by decide +kernel
theorem dX0_isIn_25 : decode cX0_isIn 25 = .ok (.iconst 0, 1) := by decide +kernel
theorem dX0_isIn_26 : decode cX0_isIn 26 = .ok (.ireturn, 1) := by decide +kernel
theorem dX0_space_0 : decode cX0_space 0 = .ok (.aload_n 0, 1) := by decide +kernel
theorem dX0_space_1 : decode cX0_space 1 = .ok (.iload_n 1, 1) := by decide +kernel
theorem dX0_space_2 : decode cX0_space 2 = .ok (.invokevirtual 66, 3) := by decide +kernel
theorem dX0_space_5 : decode cX0_space 5 = .ok (.ifCond .eq 19, 3) := by decide +kernel
theorem dX0_space_8 : decode cX0_space 8 = .ok (.aload_n 0, 1) := by decide +kernel
theorem dX0_space_9 : decode cX0_space 9 = .ok (.getfield 9, 3) := by decide +kernel
theorem dX0_space_12 : decode cX0_space 12 = .ok (.iload_n 1, 1) := by decide +kernel
theorem dX0_space_13 : decode cX0_space 13 = .ok (.iaload, 1) := by decide +kernel
theorem dX0_space_14 : decode cX0_space 14 = .ok (.aload_n 0, 1) := by decide +kernel
theorem dX0_space_15 : decode cX0_space 15 = .ok (.getfield 15, 3) := by decide +kernel
theorem dX0_space_18 : decode cX0_space 18 = .ok (.iload_n 1, 1) := by decide +kernel
theorem dX0_space_19 : decode cX0_space 19 = .ok (.iaload, 1) := by decide +kernel
theorem dX0_space_20 : decode cX0_space 20 = .ok (.isub, 1) := by decide +kernel
theorem dX0_space_21 : decode cX0_space 21 = .ok (.goto 4, 3) := by decide +kernel
theorem dX0_space_24 : decode cX0_space 24 = .ok (.iconst 0, 1) := by decide +kernel
theorem dX0_space_25 : decode cX0_space 25 = .ok (.ireturn, 1) := by decide +kernel
theorem dX0_fits_0 : decode cX0_fits 0 = .ok (.aload_n 0, 1) := by decide +kernel
theorem dX0_fits_1 : decode cX0_fits 1 = .ok (.iload_n 1, 1) := by decide +kernel
theorem dX0_fits_2 : decode cX0_fits 2 = .ok (.invokevirtual 62, 3) := by decide +kernel
theorem dX0_fits_5 : decode cX0_fits 5 = .ok (.ifCond .eq 37, 3) := by decide +kernel
theorem dX0_fits_8 : decode cX0_fits 8 = .ok (.aload_n 0, 1) := by decide +kernel
theorem dX0_fits_9 : decode cX0_fits 9 = .ok (.iload_n 2, 1) := by decide +kernel
theorem dX0_fits_10 : decode cX0_fits 10 = .ok (.invokevirtual 66, 3) := by decide +kernel
theorem dX0_fits_13 : decode cX0_fits 13 = .ok (.ifCond .eq 29, 3) := by decide +kernel
theorem dX0_fits_16 : decode cX0_fits 16 = .ok (.aload_n 0, 1) := by decide +kernel
theorem dX0_fits_17 : decode cX0_fits 17 = .ok (.getfield 24, 3) := by decide +kernel
theorem dX0_fits_20 : decode cX0_fits 20 = .ok (.iload_n 1, 1) := by decide +kernel
theorem dX0_fits_21 : decode cX0_fits 21 = .ok (.iaload, 1) := by decide +kernel
theorem dX0_fits_22 : decode cX0_fits 22 = .ok (.aload_n 0, 1) := by decide +kernel
theorem dX0_fits_23 : decode cX0_fits 23 = .ok (.getfield 9, 3) := by decide +kernel
theorem dX0_fits_26 : decode cX0_fits 26 = .ok (.iload_n 2, 1) := by decide +kernel
theorem dX0_fits_27 : decode cX0_fits 27 = .ok (.iaload, 1) := by decide +kernel
theorem dX0_fits_28 : decode cX0_fits 28 = .ok (.aload_n 0, 1) := by decide +kernel
theorem dX0_fits_29 : decode cX0_fits 29 = .ok (.getfield 15, 3) := by decide +kernel
theorem dX0_fits_32 : decode cX0_fits 32 = .ok (.iload_n 2, 1) := by decide +kernel
theorem dX0_fits_33 : decode cX0_fits 33 = .ok (.iaload, 1) := by decide +kernel
theorem dX0_fits_34 : decode cX0_fits 34 = .ok (.isub, 1) := by decide +kernel
theorem dX0_fits_35 : decode cX0_fits 35 = .ok (.if_icmp .gt 7, 3) := by decide +kernel
theorem dX0_fits_38 : decode cX0_fits 38 = .ok (.iconst 1, 1) := by decide +kernel
theorem dX0_fits_39 : decode cX0_fits 39 = .ok (.goto 4, 3) := by decide +kernel
theorem dX0_fits_42 : decode cX0_fits 42 = .ok (.iconst 0, 1) := by decide +kernel
theorem dX0_fits_43 : decode cX0_fits 43 = .ok (.ireturn, 1) := by decide +kernel
theorem dX0_tellDrawer_0 : decode cX0_tellDrawer 0 = .ok (.iload_n 1, 1) := by decide +kernel
theorem dX0_tellDrawer_1 : decode cX0_tellDrawer 1 = .ok (.ifCond .lt 16, 3) := by decide +kernel
theorem dX0_tellDrawer_4 : decode cX0_tellDrawer 4 = .ok (.iload_n 1, 1) := by decide +kernel
theorem dX0_tellDrawer_5 : decode cX0_tellDrawer 5 = .ok (.bipush 12, 2) := by decide +kernel
theorem dX0_tellDrawer_7 : decode cX0_tellDrawer 7 = .ok (.if_icmp .ge 10, 3) := by decide +kernel
theorem dX0_tellDrawer_10 : decode cX0_tellDrawer 10 = .ok (.aload_n 0, 1) := by decide +kernel
theorem dX0_tellDrawer_11 : decode cX0_tellDrawer 11 = .ok (.getfield 9, 3) := by decide +kernel
theorem dX0_tellDrawer_14 : decode cX0_tellDrawer 14 = .ok (.iload_n 1, 1) := by decide +kernel
theorem dX0_tellDrawer_15 : decode cX0_tellDrawer 15 = .ok (.iload_n 2, 1) := by decide +kernel
theorem dX0_tellDrawer_16 : decode cX0_tellDrawer 16 = .ok (.iastore, 1) := by decide +kernel
theorem dX0_tellDrawer_17 : decode cX0_tellDrawer 17 = .ok (.return_, 1) := by decide +kernel
theorem dX0_addPaper_0 : decode cX0_addPaper 0 = .ok (.aload_n 0, 1) := by decide +kernel
theorem dX0_addPaper_1 : decode cX0_addPaper 1 = .ok (.getfield 36, 3) := by decide +kernel
theorem dX0_addPaper_4 : decode cX0_addPaper 4 = .ok (.ifCond .lt 12, 3) := by decide +kernel
theorem dX0_addPaper_7 : decode cX0_addPaper 7 = .ok (.aload_n 0, 1) := by decide +kernel
theorem dX0_addPaper_8 : decode cX0_addPaper 8 = .ok (.getfield 36, 3) := by decide +kernel
theorem dX0_addPaper_11 : decode cX0_addPaper 11 = .ok (.bipush 24, 2) := by decide +kernel
theorem dX0_addPaper_13 : decode cX0_addPaper 13 = .ok (.if_icmp .lt 4, 3) := by decide +kernel
theorem dX0_addPaper_16 : decode cX0_addPaper 16 = .ok (.return_, 1) := by decide +kernel
theorem dX0_addPaper_17 : decode cX0_addPaper 17 = .ok (.aload_n 0, 1) := by decide +kernel
theorem dX0_addPaper_18 : decode cX0_addPaper 18 = .ok (.getfield 21, 3) := by decide +kernel
theorem dX0_addPaper_21 : decode cX0_addPaper 21 = .ok (.aload_n 0, 1) := by decide +kernel
theorem dX0_addPaper_22 : decode cX0_addPaper 22 = .ok (.getfield 36, 3) := by decide +kernel
theorem dX0_addPaper_25 : decode cX0_addPaper 25 = .ok (.iload_n 1, 1) := by decide +kernel
theorem dX0_addPaper_26 : decode cX0_addPaper 26 = .ok (.iastore, 1) := by decide +kernel
theorem dX0_addPaper_27 : decode cX0_addPaper 27 = .ok (.aload_n 0, 1) := by decide +kernel
theorem dX0_addPaper_28 : decode cX0_addPaper 28 = .ok (.getfield 24, 3) := by decide +kernel
theorem dX0_addPaper_31 : decode cX0_addPaper 31 = .ok (.aload_n 0, 1) := by decide +kernel
theorem dX0_addPaper_32 : decode cX0_addPaper 32 = .ok (.getfield 36, 3) := by decide +kernel
theorem dX0_addPaper_35 : decode cX0_addPaper 35 = .ok (.iload_n 2, 1) := by decide +kernel
theorem dX0_addPaper_36 : decode cX0_addPaper 36 = .ok (.iastore, 1) := by decide +kernel
theorem dX0_addPaper_37 : decode cX0_addPaper 37 = .ok (.aload_n 0, 1) := by decide +kernel
theorem dX0_addPaper_38 : decode cX0_addPaper 38 = .ok (.getfield 27, 3) := by decide +kernel
theorem dX0_addPaper_41 : decode cX0_addPaper 41 = .ok (.aload_n 0, 1) := by decide +kernel
theorem dX0_addPaper_42 : decode cX0_addPaper 42 = .ok (.getfield 36, 3) := by decide +kernel
theorem dX0_addPaper_45 : decode cX0_addPaper 45 = .ok (.bipush (-2), 2) := by decide +kernel
theorem dX0_addPaper_47 : decode cX0_addPaper 47 = .ok (.iastore, 1) := by decide +kernel
theorem dX0_addPaper_48 : decode cX0_addPaper 48 = .ok (.aload_n 0, 1) := by decide +kernel
theorem dX0_addPaper_49 : decode cX0_addPaper 49 = .ok (.getfield 30, 3) := by decide +kernel
theorem dX0_addPaper_52 : decode cX0_addPaper 52 = .ok (.aload_n 0, 1) := by decide +kernel
theorem dX0_addPaper_53 : decode cX0_addPaper 53 = .ok (.getfield 36, 3) := by decide +kernel
theorem dX0_addPaper_56 : decode cX0_addPaper 56 = .ok (.iconst 0, 1) := by decide +kernel
theorem dX0_addPaper_57 : decode cX0_addPaper 57 = .ok (.iastore, 1) := by decide +kernel
theorem dX0_addPaper_58 : decode cX0_addPaper 58 = .ok (.aload_n 0, 1) := by decide +kernel
theorem dX0_addPaper_59 : decode cX0_addPaper 59 = .ok (.getfield 33, 3) := by decide +kernel
theorem dX0_addPaper_62 : decode cX0_addPaper 62 = .ok (.aload_n 0, 1) := by decide +kernel
theorem dX0_addPaper_63 : decode cX0_addPaper 63 = .ok (.getfield 36, 3) := by decide +kernel
theorem dX0_addPaper_66 : decode cX0_addPaper 66 = .ok (.iconst 0, 1) := by decide +kernel
theorem dX0_addPaper_67 : decode cX0_addPaper 67 = .ok (.iastore, 1) := by decide +kernel
theorem dX0_addPaper_68 : decode cX0_addPaper 68 = .ok (.aload_n 0, 1) := by decide +kernel
theorem dX0_addPaper_69 : decode cX0_addPaper 69 = .ok (.dup, 1) := by decide +kernel
theorem dX0_addPaper_70 : decode cX0_addPaper 70 = .ok (.getfield 36, 3) := by decide +kernel
theorem dX0_addPaper_73 : decode cX0_addPaper 73 = .ok (.iconst 1, 1) := by decide +kernel
theorem dX0_addPaper_74 : decode cX0_addPaper 74 = .ok (.iadd, 1) := by decide +kernel
theorem dX0_addPaper_75 : decode cX0_addPaper 75 = .ok (.putfield 36, 3) := by decide +kernel
theorem dX0_addPaper_78 : decode cX0_addPaper 78 = .ok (.return_, 1) := by decide +kernel
theorem dX0_takeOut_0 : decode cX0_takeOut 0 = .ok (.aload_n 0, 1) := by decide +kernel
theorem dX0_takeOut_1 : decode cX0_takeOut 1 = .ok (.iload_n 1, 1) := by decide +kernel
theorem dX0_takeOut_2 : decode cX0_takeOut 2 = .ok (.invokevirtual 62, 3) := by decide +kernel
theorem dX0_takeOut_5 : decode cX0_takeOut 5 = .ok (.ifCond .ne 4, 3) := by decide +kernel
theorem dX0_takeOut_8 : decode cX0_takeOut 8 = .ok (.return_, 1) := by decide +kernel
theorem dX0_takeOut_9 : decode cX0_takeOut 9 = .ok (.aload_n 0, 1) := by decide +kernel
theorem dX0_takeOut_10 : decode cX0_takeOut 10 = .ok (.iload_n 1, 1) := by decide +kernel
theorem dX0_takeOut_11 : decode cX0_takeOut 11 = .ok (.invokevirtual 69, 3) := by decide +kernel
theorem dX0_takeOut_14 : decode cX0_takeOut 14 = .ok (.aload_n 0, 1) := by decide +kernel
theorem dX0_takeOut_15 : decode cX0_takeOut 15 = .ok (.getfield 30, 3) := by decide +kernel
theorem dX0_takeOut_18 : decode cX0_takeOut 18 = .ok (.iload_n 1, 1) := by decide +kernel
theorem dX0_takeOut_19 : decode cX0_takeOut 19 = .ok (.iconst 0, 1) := by decide +kernel
theorem dX0_takeOut_20 : decode cX0_takeOut 20 = .ok (.iastore, 1) := by decide +kernel
theorem dX0_takeOut_21 : decode cX0_takeOut 21 = .ok (.aload_n 0, 1) := by decide +kernel
theorem dX0_takeOut_22 : decode cX0_takeOut 22 = .ok (.getfield 33, 3) := by decide +kernel
theorem dX0_takeOut_25 : decode cX0_takeOut 25 = .ok (.iload_n 1, 1) := by decide +kernel
theorem dX0_takeOut_26 : decode cX0_takeOut 26 = .ok (.iconst 0, 1) := by decide +kernel
theorem dX0_takeOut_27 : decode cX0_takeOut 27 = .ok (.iastore, 1) := by decide +kernel
theorem dX0_takeOut_28 : decode cX0_takeOut 28 = .ok (.return_, 1) := by decide +kernel
theorem dX0_move_0 : decode cX0_move 0 = .ok (.aload_n 0, 1) := by decide +kernel
theorem dX0_move_1 : decode cX0_move 1 = .ok (.iload_n 1, 1) := by decide +kernel
theorem dX0_move_2 : decode cX0_move 2 = .ok (.iload_n 2, 1) := by decide +kernel
theorem dX0_move_3 : decode cX0_move 3 = .ok (.invokevirtual 73, 3) := by decide +kernel
theorem dX0_move_6 : decode cX0_move 6 = .ok (.ifCond .ne 4, 3) := by decide +kernel
theorem dX0_move_9 : decode cX0_move 9 = .ok (.return_, 1) := by decide +kernel
theorem dX0_move_10 : decode cX0_move 10 = .ok (.aload_n 0, 1) := by decide +kernel
theorem dX0_move_11 : decode cX0_move 11 = .ok (.iload_n 1, 1) := by decide +kernel
theorem dX0_move_12 : decode cX0_move 12 = .ok (.invokevirtual 69, 3) := by decide +kernel
theorem dX0_move_15 : decode cX0_move 15 = .ok (.aload_n 0, 1) := by decide +kernel
theorem dX0_move_16 : decode cX0_move 16 = .ok (.getfield 27, 3) := by decide +kernel
theorem dX0_move_19 : decode cX0_move 19 = .ok (.iload_n 1, 1) := by decide +kernel
theorem dX0_move_20 : decode cX0_move 20 = .ok (.iload_n 2, 1) := by decide +kernel
theorem dX0_move_21 : decode cX0_move 21 = .ok (.iastore, 1) := by decide +kernel
theorem dX0_move_22 : decode cX0_move 22 = .ok (.aload_n 0, 1) := by decide +kernel
theorem dX0_move_23 : decode cX0_move 23 = .ok (.getfield 33, 3) := by decide +kernel
theorem dX0_move_26 : decode cX0_move 26 = .ok (.iload_n 1, 1) := by decide +kernel
theorem dX0_move_27 : decode cX0_move 27 = .ok (.iconst 0, 1) := by decide +kernel
theorem dX0_move_28 : decode cX0_move 28 = .ok (.iastore, 1) := by decide +kernel
theorem dX0_move_29 : decode cX0_move 29 = .ok (.aload_n 0, 1) := by decide +kernel
theorem dX0_move_30 : decode cX0_move 30 = .ok (.getfield 15, 3) := by decide +kernel
theorem dX0_move_33 : decode cX0_move 33 = .ok (.iload_n 2, 1) := by decide +kernel
theorem dX0_move_34 : decode cX0_move 34 = .ok (.dup2, 1) := by decide +kernel
theorem dX0_move_35 : decode cX0_move 35 = .ok (.iaload, 1) := by decide +kernel
theorem dX0_move_36 : decode cX0_move 36 = .ok (.aload_n 0, 1) := by decide +kernel
theorem dX0_move_37 : decode cX0_move 37 = .ok (.getfield 24, 3) := by decide +kernel
theorem dX0_move_40 : decode cX0_move 40 = .ok (.iload_n 1, 1) := by decide +kernel
theorem dX0_move_41 : decode cX0_move 41 = .ok (.iaload, 1) := by decide +kernel
theorem dX0_move_42 : decode cX0_move 42 = .ok (.iadd, 1) := by decide +kernel
theorem dX0_move_43 : decode cX0_move 43 = .ok (.iastore, 1) := by decide +kernel
theorem dX0_move_44 : decode cX0_move 44 = .ok (.aload_n 0, 1) := by decide +kernel
theorem dX0_move_45 : decode cX0_move 45 = .ok (.getfield 18, 3) := by decide +kernel
theorem dX0_move_48 : decode cX0_move 48 = .ok (.iload_n 2, 1) := by decide +kernel
theorem dX0_move_49 : decode cX0_move 49 = .ok (.dup2, 1) := by decide +kernel
theorem dX0_move_50 : decode cX0_move 50 = .ok (.iaload, 1) := by decide +kernel
theorem dX0_move_51 : decode cX0_move 51 = .ok (.iconst 1, 1) := by decide +kernel
theorem dX0_move_52 : decode cX0_move 52 = .ok (.iadd, 1) := by decide +kernel
theorem dX0_move_53 : decode cX0_move 53 = .ok (.iastore, 1) := by decide +kernel
theorem dX0_move_54 : decode cX0_move 54 = .ok (.return_, 1) := by decide +kernel
theorem dX0_lift_0 : decode cX0_lift 0 = .ok (.aload_n 0, 1) := by decide +kernel
theorem dX0_lift_1 : decode cX0_lift 1 = .ok (.iload_n 1, 1) := by decide +kernel
theorem dX0_lift_2 : decode cX0_lift 2 = .ok (.invokevirtual 62, 3) := by decide +kernel
theorem dX0_lift_5 : decode cX0_lift 5 = .ok (.ifCond .eq 16, 3) := by decide +kernel
theorem dX0_lift_8 : decode cX0_lift 8 = .ok (.aload_n 0, 1) := by decide +kernel
theorem dX0_lift_9 : decode cX0_lift 9 = .ok (.aload_n 0, 1) := by decide +kernel
theorem dX0_lift_10 : decode cX0_lift 10 = .ok (.getfield 27, 3) := by decide +kernel
theorem dX0_lift_13 : decode cX0_lift 13 = .ok (.iload_n 1, 1) := by decide +kernel
theorem dX0_lift_14 : decode cX0_lift 14 = .ok (.iaload, 1) := by decide +kernel
theorem dX0_lift_15 : decode cX0_lift 15 = .ok (.invokevirtual 66, 3) := by decide +kernel
theorem dX0_lift_18 : decode cX0_lift 18 = .ok (.ifCond .ne 4, 3) := by decide +kernel
theorem dX0_lift_21 : decode cX0_lift 21 = .ok (.return_, 1) := by decide +kernel
theorem dX0_lift_22 : decode cX0_lift 22 = .ok (.aload_n 0, 1) := by decide +kernel
theorem dX0_lift_23 : decode cX0_lift 23 = .ok (.getfield 27, 3) := by decide +kernel
theorem dX0_lift_26 : decode cX0_lift 26 = .ok (.iload_n 1, 1) := by decide +kernel
theorem dX0_lift_27 : decode cX0_lift 27 = .ok (.iaload, 1) := by decide +kernel
theorem dX0_lift_28 : decode cX0_lift 28 = .ok (.istore_n 2, 1) := by decide +kernel
theorem dX0_lift_29 : decode cX0_lift 29 = .ok (.aload_n 0, 1) := by decide +kernel
theorem dX0_lift_30 : decode cX0_lift 30 = .ok (.getfield 15, 3) := by decide +kernel
theorem dX0_lift_33 : decode cX0_lift 33 = .ok (.iload_n 2, 1) := by decide +kernel
theorem dX0_lift_34 : decode cX0_lift 34 = .ok (.dup2, 1) := by decide +kernel
theorem dX0_lift_35 : decode cX0_lift 35 = .ok (.iaload, 1) := by decide +kernel
theorem dX0_lift_36 : decode cX0_lift 36 = .ok (.aload_n 0, 1) := by decide +kernel
theorem dX0_lift_37 : decode cX0_lift 37 = .ok (.getfield 24, 3) := by decide +kernel
theorem dX0_lift_40 : decode cX0_lift 40 = .ok (.iload_n 1, 1) := by decide +kernel
theorem dX0_lift_41 : decode cX0_lift 41 = .ok (.iaload, 1) := by decide +kernel
theorem dX0_lift_42 : decode cX0_lift 42 = .ok (.isub, 1) := by decide +kernel
theorem dX0_lift_43 : decode cX0_lift 43 = .ok (.iastore, 1) := by decide +kernel
theorem dX0_lift_44 : decode cX0_lift 44 = .ok (.aload_n 0, 1) := by decide +kernel
theorem dX0_lift_45 : decode cX0_lift 45 = .ok (.getfield 18, 3) := by decide +kernel
theorem dX0_lift_48 : decode cX0_lift 48 = .ok (.iload_n 2, 1) := by decide +kernel
theorem dX0_lift_49 : decode cX0_lift 49 = .ok (.dup2, 1) := by decide +kernel
theorem dX0_lift_50 : decode cX0_lift 50 = .ok (.iaload, 1) := by decide +kernel
theorem dX0_lift_51 : decode cX0_lift 51 = .ok (.iconst 1, 1) := by decide +kernel
theorem dX0_lift_52 : decode cX0_lift 52 = .ok (.isub, 1) := by decide +kernel
theorem dX0_lift_53 : decode cX0_lift 53 = .ok (.iastore, 1) := by decide +kernel
theorem dX0_lift_54 : decode cX0_lift 54 = .ok (.aload_n 0, 1) := by decide +kernel
theorem dX0_lift_55 : decode cX0_lift 55 = .ok (.getfield 27, 3) := by decide +kernel
theorem dX0_lift_58 : decode cX0_lift 58 = .ok (.iload_n 1, 1) := by decide +kernel
theorem dX0_lift_59 : decode cX0_lift 59 = .ok (.bipush (-2), 2) := by decide +kernel
theorem dX0_lift_61 : decode cX0_lift 61 = .ok (.iastore, 1) := by decide +kernel
theorem dX0_lift_62 : decode cX0_lift 62 = .ok (.return_, 1) := by decide +kernel
theorem dX0_putBack_0 : decode cX0_putBack 0 = .ok (.aload_n 0, 1) := by decide +kernel
theorem dX0_putBack_1 : decode cX0_putBack 1 = .ok (.getfield 36, 3) := by decide +kernel
theorem dX0_putBack_4 : decode cX0_putBack 4 = .ok (.aload_n 1, 1) := by decide +kernel
theorem dX0_putBack_5 : decode cX0_putBack 5 = .ok (.getfield 36, 3) := by decide +kernel
theorem dX0_putBack_8 : decode cX0_putBack 8 = .ok (.invokestatic 77, 3) := by decide +kernel
theorem dX0_putBack_11 : decode cX0_putBack 11 = .ok (.istore_n 2, 1) := by decide +kernel
theorem dX0_putBack_12 : decode cX0_putBack 12 = .ok (.iconst 0, 1) := by decide +kernel
theorem dX0_putBack_13 : decode cX0_putBack 13 = .ok (.istore_n 3, 1) := by decide +kernel
theorem dX0_putBack_14 : decode cX0_putBack 14 = .ok (.iload_n 3, 1) := by decide +kernel
theorem dX0_putBack_15 : decode cX0_putBack 15 = .ok (.iload_n 2, 1) := by decide +kernel
theorem dX0_putBack_16 : decode cX0_putBack 16 = .ok (.if_icmp .ge 14, 3) := by decide +kernel
theorem dX0_putBack_19 : decode cX0_putBack 19 = .ok (.aload_n 0, 1) := by decide +kernel
theorem dX0_putBack_20 : decode cX0_putBack 20 = .ok (.iload_n 3, 1) := by decide +kernel
theorem dX0_putBack_21 : decode cX0_putBack 21 = .ok (.invokevirtual 83, 3) := by decide +kernel
theorem dX0_putBack_24 : decode cX0_putBack 24 = .ok (.iinc 3 1, 3) := by decide +kernel
theorem dX0_putBack_27 : decode cX0_putBack 27 = .ok (.goto (-13), 3) := by decide +kernel
theorem dX0_putBack_30 : decode cX0_putBack 30 = .ok (.iconst 0, 1) := by decide +kernel
theorem dX0_putBack_31 : decode cX0_putBack 31 = .ok (.istore_n 3, 1) := by decide +kernel
theorem dX0_putBack_32 : decode cX0_putBack 32 = .ok (.iload_n 3, 1) := by decide +kernel
theorem dX0_putBack_33 : decode cX0_putBack 33 = .ok (.iload_n 2, 1) := by decide +kernel
theorem dX0_putBack_34 : decode cX0_putBack 34 = .ok (.if_icmp .ge 66, 3) := by decide +kernel
theorem dX0_putBack_37 : decode cX0_putBack 37 = .ok (.aload_n 1, 1) := by decide +kernel
theorem dX0_putBack_38 : decode cX0_putBack 38 = .ok (.iload_n 3, 1) := by decide +kernel
theorem dX0_putBack_39 : decode cX0_putBack 39 = .ok (.invokevirtual 86, 3) := by decide +kernel
theorem dX0_putBack_42 : decode cX0_putBack 42 = .ok (.ifCond .eq 52, 3) := by decide +kernel
theorem dX0_putBack_45 : decode cX0_putBack 45 = .ok (.aload_n 0, 1) := by decide +kernel
theorem dX0_putBack_46 : decode cX0_putBack 46 = .ok (.iload_n 3, 1) := by decide +kernel
theorem dX0_putBack_47 : decode cX0_putBack 47 = .ok (.aload_n 1, 1) := by decide +kernel
theorem dX0_putBack_48 : decode cX0_putBack 48 = .ok (.getfield 27, 3) := by decide +kernel
theorem dX0_putBack_51 : decode cX0_putBack 51 = .ok (.iload_n 3, 1) := by decide +kernel
theorem dX0_putBack_52 : decode cX0_putBack 52 = .ok (.iaload, 1) := by decide +kernel
theorem dX0_putBack_53 : decode cX0_putBack 53 = .ok (.invokevirtual 73, 3) := by decide +kernel
theorem dX0_putBack_56 : decode cX0_putBack 56 = .ok (.ifCond .eq 38, 3) := by decide +kernel
theorem dX0_putBack_59 : decode cX0_putBack 59 = .ok (.aload_n 0, 1) := by decide +kernel
theorem dX0_putBack_60 : decode cX0_putBack 60 = .ok (.iload_n 3, 1) := by decide +kernel
theorem dX0_putBack_61 : decode cX0_putBack 61 = .ok (.aload_n 1, 1) := by decide +kernel
theorem dX0_putBack_62 : decode cX0_putBack 62 = .ok (.getfield 27, 3) := by decide +kernel
theorem dX0_putBack_65 : decode cX0_putBack 65 = .ok (.iload_n 3, 1) := by decide +kernel
theorem dX0_putBack_66 : decode cX0_putBack 66 = .ok (.iaload, 1) := by decide +kernel
theorem dX0_putBack_67 : decode cX0_putBack 67 = .ok (.invokevirtual 89, 3) := by decide +kernel
theorem dX0_putBack_70 : decode cX0_putBack 70 = .ok (.aload_n 0, 1) := by decide +kernel
theorem dX0_putBack_71 : decode cX0_putBack 71 = .ok (.getfield 30, 3) := by decide +kernel
theorem dX0_putBack_74 : decode cX0_putBack 74 = .ok (.iload_n 3, 1) := by decide +kernel
theorem dX0_putBack_75 : decode cX0_putBack 75 = .ok (.aload_n 1, 1) := by decide +kernel
theorem dX0_putBack_76 : decode cX0_putBack 76 = .ok (.getfield 30, 3) := by decide +kernel
theorem dX0_putBack_79 : decode cX0_putBack 79 = .ok (.iload_n 3, 1) := by decide +kernel
theorem dX0_putBack_80 : decode cX0_putBack 80 = .ok (.iaload, 1) := by decide +kernel
theorem dX0_putBack_81 : decode cX0_putBack 81 = .ok (.iastore, 1) := by decide +kernel
theorem dX0_putBack_82 : decode cX0_putBack 82 = .ok (.aload_n 0, 1) := by decide +kernel
theorem dX0_putBack_83 : decode cX0_putBack 83 = .ok (.getfield 33, 3) := by decide +kernel
theorem dX0_putBack_86 : decode cX0_putBack 86 = .ok (.iload_n 3, 1) := by decide +kernel
theorem dX0_putBack_87 : decode cX0_putBack 87 = .ok (.aload_n 1, 1) := by decide +kernel
theorem dX0_putBack_88 : decode cX0_putBack 88 = .ok (.getfield 33, 3) := by decide +kernel
theorem dX0_putBack_91 : decode cX0_putBack 91 = .ok (.iload_n 3, 1) := by decide +kernel
theorem dX0_putBack_92 : decode cX0_putBack 92 = .ok (.iaload, 1) := by decide +kernel
theorem dX0_putBack_93 : decode cX0_putBack 93 = .ok (.iastore, 1) := by decide +kernel
theorem dX0_putBack_94 : decode cX0_putBack 94 = .ok (.iinc 3 1, 3) := by decide +kernel
theorem dX0_putBack_97 : decode cX0_putBack 97 = .ok (.goto (-65), 3) := by decide +kernel
theorem dX0_putBack_100 : decode cX0_putBack 100 = .ok (.return_, 1) := by decide +kernel
theorem dX0_draw_0 : decode cX0_draw 0 = .ok (.aload_n 0, 1) := by decide +kernel
theorem dX0_draw_1 : decode cX0_draw 1 = .ok (.sipush 25173, 3) := by decide +kernel
theorem dX0_draw_4 : decode cX0_draw 4 = .ok (.aload_n 0, 1) := by decide +kernel
theorem dX0_draw_5 : decode cX0_draw 5 = .ok (.getfield 43, 3) := by decide +kernel
theorem dX0_draw_8 : decode cX0_draw 8 = .ok (.imul, 1) := by decide +kernel
theorem dX0_draw_9 : decode cX0_draw 9 = .ok (.sipush 13849, 3) := by decide +kernel
theorem dX0_draw_12 : decode cX0_draw 12 = .ok (.iadd, 1) := by decide +kernel
theorem dX0_draw_13 : decode cX0_draw 13 = .ok (.ldc 93, 2) := by decide +kernel
theorem dX0_draw_15 : decode cX0_draw 15 = .ok (.irem, 1) := by decide +kernel
theorem dX0_draw_16 : decode cX0_draw 16 = .ok (.putfield 43, 3) := by decide +kernel
theorem dX0_draw_19 : decode cX0_draw 19 = .ok (.aload_n 0, 1) := by decide +kernel
theorem dX0_draw_20 : decode cX0_draw 20 = .ok (.getfield 43, 3) := by decide +kernel
theorem dX0_draw_23 : decode cX0_draw 23 = .ok (.bipush 10, 2) := by decide +kernel
theorem dX0_draw_25 : decode cX0_draw 25 = .ok (.irem, 1) := by decide +kernel
theorem dX0_draw_26 : decode cX0_draw 26 = .ok (.ireturn, 1) := by decide +kernel
theorem dX0_bitsTold_0 : decode cX0_bitsTold 0 = .ok (.iconst 0, 1) := by decide +kernel
theorem dX0_bitsTold_1 : decode cX0_bitsTold 1 = .ok (.istore_n 1, 1) := by decide +kernel
theorem dX0_bitsTold_2 : decode cX0_bitsTold 2 = .ok (.iconst 0, 1) := by decide +kernel
theorem dX0_bitsTold_3 : decode cX0_bitsTold 3 = .ok (.istore_n 2, 1) := by decide +kernel
theorem dX0_bitsTold_4 : decode cX0_bitsTold 4 = .ok (.iload_n 2, 1) := by decide +kernel
theorem dX0_bitsTold_5 : decode cX0_bitsTold 5 = .ok (.bipush 12, 2) := by decide +kernel
theorem dX0_bitsTold_7 : decode cX0_bitsTold 7 = .ok (.if_icmp .ge 27, 3) := by decide +kernel
theorem dX0_bitsTold_10 : decode cX0_bitsTold 10 = .ok (.iload_n 1, 1) := by decide +kernel
theorem dX0_bitsTold_11 : decode cX0_bitsTold 11 = .ok (.aload_n 0, 1) := by decide +kernel
theorem dX0_bitsTold_12 : decode cX0_bitsTold 12 = .ok (.iload_n 2, 1) := by decide +kernel
theorem dX0_bitsTold_13 : decode cX0_bitsTold 13 = .ok (.invokevirtual 66, 3) := by decide +kernel
theorem dX0_bitsTold_16 : decode cX0_bitsTold 16 = .ok (.ifCond .eq 9, 3) := by decide +kernel
theorem dX0_bitsTold_19 : decode cX0_bitsTold 19 = .ok (.iconst 1, 1) := by decide +kernel
theorem dX0_bitsTold_20 : decode cX0_bitsTold 20 = .ok (.iload_n 2, 1) := by decide +kernel
theorem dX0_bitsTold_21 : decode cX0_bitsTold 21 = .ok (.ishl, 1) := by decide +kernel
theorem dX0_bitsTold_22 : decode cX0_bitsTold 22 = .ok (.goto 4, 3) := by decide +kernel
theorem dX0_bitsTold_25 : decode cX0_bitsTold 25 = .ok (.iconst 0, 1) := by decide +kernel
theorem dX0_bitsTold_26 : decode cX0_bitsTold 26 = .ok (.ior, 1) := by decide +kernel
theorem dX0_bitsTold_27 : decode cX0_bitsTold 27 = .ok (.istore_n 1, 1) := by decide +kernel
theorem dX0_bitsTold_28 : decode cX0_bitsTold 28 = .ok (.iinc 2 1, 3) := by decide +kernel
theorem dX0_bitsTold_31 : decode cX0_bitsTold 31 = .ok (.goto (-27), 3) := by decide +kernel
theorem dX0_bitsTold_34 : decode cX0_bitsTold 34 = .ok (.iload_n 1, 1) := by decide +kernel
theorem dX0_bitsTold_35 : decode cX0_bitsTold 35 = .ok (.ireturn, 1) := by decide +kernel
theorem dX0_bitsIn_0 : decode cX0_bitsIn 0 = .ok (.iconst 0, 1) := by decide +kernel
theorem dX0_bitsIn_1 : decode cX0_bitsIn 1 = .ok (.istore_n 2, 1) := by decide +kernel
theorem dX0_bitsIn_2 : decode cX0_bitsIn 2 = .ok (.iconst 0, 1) := by decide +kernel
theorem dX0_bitsIn_3 : decode cX0_bitsIn 3 = .ok (.istore_n 3, 1) := by decide +kernel
theorem dX0_bitsIn_4 : decode cX0_bitsIn 4 = .ok (.iload_n 3, 1) := by decide +kernel
theorem dX0_bitsIn_5 : decode cX0_bitsIn 5 = .ok (.aload_n 0, 1) := by decide +kernel
theorem dX0_bitsIn_6 : decode cX0_bitsIn 6 = .ok (.getfield 36, 3) := by decide +kernel
theorem dX0_bitsIn_9 : decode cX0_bitsIn 9 = .ok (.if_icmp .ge 37, 3) := by decide +kernel
theorem dX0_bitsIn_12 : decode cX0_bitsIn 12 = .ok (.iload_n 2, 1) := by decide +kernel
theorem dX0_bitsIn_13 : decode cX0_bitsIn 13 = .ok (.aload_n 0, 1) := by decide +kernel
theorem dX0_bitsIn_14 : decode cX0_bitsIn 14 = .ok (.iload_n 3, 1) := by decide +kernel
theorem dX0_bitsIn_15 : decode cX0_bitsIn 15 = .ok (.invokevirtual 62, 3) := by decide +kernel
theorem dX0_bitsIn_18 : decode cX0_bitsIn 18 = .ok (.ifCond .eq 19, 3) := by decide +kernel
theorem dX0_bitsIn_21 : decode cX0_bitsIn 21 = .ok (.aload_n 0, 1) := by decide +kernel
theorem dX0_bitsIn_22 : decode cX0_bitsIn 22 = .ok (.getfield 27, 3) := by decide +kernel
theorem dX0_bitsIn_25 : decode cX0_bitsIn 25 = .ok (.iload_n 3, 1) := by decide +kernel
theorem dX0_bitsIn_26 : decode cX0_bitsIn 26 = .ok (.iaload, 1) := by decide +kernel
theorem dX0_bitsIn_27 : decode cX0_bitsIn 27 = .ok (.iload_n 1, 1) := by decide +kernel
theorem dX0_bitsIn_28 : decode cX0_bitsIn 28 = .ok (.if_icmp .ne 9, 3) := by decide +kernel
theorem dX0_bitsIn_31 : decode cX0_bitsIn 31 = .ok (.iconst 1, 1) := by decide +kernel
theorem dX0_bitsIn_32 : decode cX0_bitsIn 32 = .ok (.iload_n 3, 1) := by decide +kernel
theorem dX0_bitsIn_33 : decode cX0_bitsIn 33 = .ok (.ishl, 1) := by decide +kernel
theorem dX0_bitsIn_34 : decode cX0_bitsIn 34 = .ok (.goto 4, 3) := by decide +kernel
theorem dX0_bitsIn_37 : decode cX0_bitsIn 37 = .ok (.iconst 0, 1) := by decide +kernel
theorem dX0_bitsIn_38 : decode cX0_bitsIn 38 = .ok (.ior, 1) := by decide +kernel
theorem dX0_bitsIn_39 : decode cX0_bitsIn 39 = .ok (.istore_n 2, 1) := by decide +kernel
theorem dX0_bitsIn_40 : decode cX0_bitsIn 40 = .ok (.iinc 3 1, 3) := by decide +kernel
theorem dX0_bitsIn_43 : decode cX0_bitsIn 43 = .ok (.goto (-39), 3) := by decide +kernel
theorem dX0_bitsIn_46 : decode cX0_bitsIn 46 = .ok (.iload_n 2, 1) := by decide +kernel
theorem dX0_bitsIn_47 : decode cX0_bitsIn 47 = .ok (.ireturn, 1) := by decide +kernel
theorem dX0_bitsOut_0 : decode cX0_bitsOut 0 = .ok (.aload_n 0, 1) := by decide +kernel
theorem dX0_bitsOut_1 : decode cX0_bitsOut 1 = .ok (.bipush (-2), 2) := by decide +kernel
theorem dX0_bitsOut_3 : decode cX0_bitsOut 3 = .ok (.invokevirtual 94, 3) := by decide +kernel
theorem dX0_bitsOut_6 : decode cX0_bitsOut 6 = .ok (.ireturn, 1) := by decide +kernel
theorem dX0_bitsRead_0 : decode cX0_bitsRead 0 = .ok (.iconst 0, 1) := by decide +kernel
theorem dX0_bitsRead_1 : decode cX0_bitsRead 1 = .ok (.istore_n 1, 1) := by decide +kernel
theorem dX0_bitsRead_2 : decode cX0_bitsRead 2 = .ok (.iconst 0, 1) := by decide +kernel
theorem dX0_bitsRead_3 : decode cX0_bitsRead 3 = .ok (.istore_n 2, 1) := by decide +kernel
theorem dX0_bitsRead_4 : decode cX0_bitsRead 4 = .ok (.iload_n 2, 1) := by decide +kernel
theorem dX0_bitsRead_5 : decode cX0_bitsRead 5 = .ok (.aload_n 0, 1) := by decide +kernel
theorem dX0_bitsRead_6 : decode cX0_bitsRead 6 = .ok (.getfield 36, 3) := by decide +kernel
theorem dX0_bitsRead_9 : decode cX0_bitsRead 9 = .ok (.if_icmp .ge 36, 3) := by decide +kernel
theorem dX0_bitsRead_12 : decode cX0_bitsRead 12 = .ok (.iload_n 1, 1) := by decide +kernel
theorem dX0_bitsRead_13 : decode cX0_bitsRead 13 = .ok (.aload_n 0, 1) := by decide +kernel
theorem dX0_bitsRead_14 : decode cX0_bitsRead 14 = .ok (.iload_n 2, 1) := by decide +kernel
theorem dX0_bitsRead_15 : decode cX0_bitsRead 15 = .ok (.invokevirtual 62, 3) := by decide +kernel
theorem dX0_bitsRead_18 : decode cX0_bitsRead 18 = .ok (.ifCond .eq 18, 3) := by decide +kernel
theorem dX0_bitsRead_21 : decode cX0_bitsRead 21 = .ok (.aload_n 0, 1) := by decide +kernel
theorem dX0_bitsRead_22 : decode cX0_bitsRead 22 = .ok (.getfield 30, 3) := by decide +kernel
theorem dX0_bitsRead_25 : decode cX0_bitsRead 25 = .ok (.iload_n 2, 1) := by decide +kernel
theorem dX0_bitsRead_26 : decode cX0_bitsRead 26 = .ok (.iaload, 1) := by decide +kernel
theorem dX0_bitsRead_27 : decode cX0_bitsRead 27 = .ok (.ifCond .eq 9, 3) := by decide +kernel
theorem dX0_bitsRead_30 : decode cX0_bitsRead 30 = .ok (.iconst 1, 1) := by decide +kernel
theorem dX0_bitsRead_31 : decode cX0_bitsRead 31 = .ok (.iload_n 2, 1) := by decide +kernel
theorem dX0_bitsRead_32 : decode cX0_bitsRead 32 = .ok (.ishl, 1) := by decide +kernel
theorem dX0_bitsRead_33 : decode cX0_bitsRead 33 = .ok (.goto 4, 3) := by decide +kernel
theorem dX0_bitsRead_36 : decode cX0_bitsRead 36 = .ok (.iconst 0, 1) := by decide +kernel
theorem dX0_bitsRead_37 : decode cX0_bitsRead 37 = .ok (.ior, 1) := by decide +kernel
theorem dX0_bitsRead_38 : decode cX0_bitsRead 38 = .ok (.istore_n 1, 1) := by decide +kernel
theorem dX0_bitsRead_39 : decode cX0_bitsRead 39 = .ok (.iinc 2 1, 3) := by decide +kernel
theorem dX0_bitsRead_42 : decode cX0_bitsRead 42 = .ok (.goto (-38), 3) := by decide +kernel
theorem dX0_bitsRead_45 : decode cX0_bitsRead 45 = .ok (.iload_n 1, 1) := by decide +kernel
theorem dX0_bitsRead_46 : decode cX0_bitsRead 46 = .ok (.ireturn, 1) := by decide +kernel
theorem dX0_fullOfAll_0 : decode cX0_fullOfAll 0 = .ok (.iconst 0, 1) := by decide +kernel
theorem dX0_fullOfAll_1 : decode cX0_fullOfAll 1 = .ok (.istore_n 1, 1) := by decide +kernel
theorem dX0_fullOfAll_2 : decode cX0_fullOfAll 2 = .ok (.iconst 0, 1) := by decide +kernel
theorem dX0_fullOfAll_3 : decode cX0_fullOfAll 3 = .ok (.istore_n 2, 1) := by decide +kernel
theorem dX0_fullOfAll_4 : decode cX0_fullOfAll 4 = .ok (.iload_n 2, 1) := by decide +kernel
theorem dX0_fullOfAll_5 : decode cX0_fullOfAll 5 = .ok (.bipush 12, 2) := by decide +kernel
theorem dX0_fullOfAll_7 : decode cX0_fullOfAll 7 = .ok (.if_icmp .ge 18, 3) := by decide +kernel
theorem dX0_fullOfAll_10 : decode cX0_fullOfAll 10 = .ok (.iload_n 1, 1) := by decide +kernel
theorem dX0_fullOfAll_11 : decode cX0_fullOfAll 11 = .ok (.aload_n 0, 1) := by decide +kernel
theorem dX0_fullOfAll_12 : decode cX0_fullOfAll 12 = .ok (.getfield 15, 3) := by decide +kernel
theorem dX0_fullOfAll_15 : decode cX0_fullOfAll 15 = .ok (.iload_n 2, 1) := by decide +kernel
theorem dX0_fullOfAll_16 : decode cX0_fullOfAll 16 = .ok (.iaload, 1) := by decide +kernel
theorem dX0_fullOfAll_17 : decode cX0_fullOfAll 17 = .ok (.iadd, 1) := by decide +kernel
theorem dX0_fullOfAll_18 : decode cX0_fullOfAll 18 = .ok (.istore_n 1, 1) := by decide +kernel
theorem dX0_fullOfAll_19 : decode cX0_fullOfAll 19 = .ok (.iinc 2 1, 3) := by decide +kernel
theorem dX0_fullOfAll_22 : decode cX0_fullOfAll 22 = .ok (.goto (-18), 3) := by decide +kernel
theorem dX0_fullOfAll_25 : decode cX0_fullOfAll 25 = .ok (.iload_n 1, 1) := by decide +kernel
theorem dX0_fullOfAll_26 : decode cX0_fullOfAll 26 = .ok (.ireturn, 1) := by decide +kernel
theorem dX0_roomOfAll_0 : decode cX0_roomOfAll 0 = .ok (.iconst 0, 1) := by decide +kernel
theorem dX0_roomOfAll_1 : decode cX0_roomOfAll 1 = .ok (.istore_n 1, 1) := by decide +kernel
theorem dX0_roomOfAll_2 : decode cX0_roomOfAll 2 = .ok (.iconst 0, 1) := by decide +kernel
theorem dX0_roomOfAll_3 : decode cX0_roomOfAll 3 = .ok (.istore_n 2, 1) := by decide +kernel
theorem dX0_roomOfAll_4 : decode cX0_roomOfAll 4 = .ok (.iload_n 2, 1) := by decide +kernel
theorem dX0_roomOfAll_5 : decode cX0_roomOfAll 5 = .ok (.bipush 12, 2) := by decide +kernel
theorem dX0_roomOfAll_7 : decode cX0_roomOfAll 7 = .ok (.if_icmp .ge 18, 3) := by decide +kernel
theorem dX0_roomOfAll_10 : decode cX0_roomOfAll 10 = .ok (.iload_n 1, 1) := by decide +kernel
theorem dX0_roomOfAll_11 : decode cX0_roomOfAll 11 = .ok (.aload_n 0, 1) := by decide +kernel
theorem dX0_roomOfAll_12 : decode cX0_roomOfAll 12 = .ok (.getfield 9, 3) := by decide +kernel
theorem dX0_roomOfAll_15 : decode cX0_roomOfAll 15 = .ok (.iload_n 2, 1) := by decide +kernel
theorem dX0_roomOfAll_16 : decode cX0_roomOfAll 16 = .ok (.iaload, 1) := by decide +kernel
theorem dX0_roomOfAll_17 : decode cX0_roomOfAll 17 = .ok (.iadd, 1) := by decide +kernel
theorem dX0_roomOfAll_18 : decode cX0_roomOfAll 18 = .ok (.istore_n 1, 1) := by decide +kernel
theorem dX0_roomOfAll_19 : decode cX0_roomOfAll 19 = .ok (.iinc 2 1, 3) := by decide +kernel
theorem dX0_roomOfAll_22 : decode cX0_roomOfAll 22 = .ok (.goto (-18), 3) := by decide +kernel
theorem dX0_roomOfAll_25 : decode cX0_roomOfAll 25 = .ok (.iload_n 1, 1) := by decide +kernel
theorem dX0_roomOfAll_26 : decode cX0_roomOfAll 26 = .ok (.ireturn, 1) := by decide +kernel
theorem dX0_freest_0 : decode cX0_freest 0 = .ok (.bipush (-2), 2) := by decide +kernel
theorem dX0_freest_2 : decode cX0_freest 2 = .ok (.istore_n 1, 1) := by decide +kernel
theorem dX0_freest_3 : decode cX0_freest 3 = .ok (.iconst 0, 1) := by decide +kernel
theorem dX0_freest_4 : decode cX0_freest 4 = .ok (.istore_n 2, 1) := by decide +kernel
theorem dX0_freest_5 : decode cX0_freest 5 = .ok (.iload_n 2, 1) := by decide +kernel
theorem dX0_freest_6 : decode cX0_freest 6 = .ok (.bipush 12, 2) := by decide +kernel
theorem dX0_freest_8 : decode cX0_freest 8 = .ok (.if_icmp .ge 36, 3) := by decide +kernel
theorem dX0_freest_11 : decode cX0_freest 11 = .ok (.aload_n 0, 1) := by decide +kernel
theorem dX0_freest_12 : decode cX0_freest 12 = .ok (.iload_n 2, 1) := by decide +kernel
theorem dX0_freest_13 : decode cX0_freest 13 = .ok (.invokevirtual 66, 3) := by decide +kernel
theorem dX0_freest_16 : decode cX0_freest 16 = .ok (.ifCond .eq 22, 3) := by decide +kernel
theorem dX0_freest_19 : decode cX0_freest 19 = .ok (.iload_n 1, 1) := by decide +kernel
theorem dX0_freest_20 : decode cX0_freest 20 = .ok (.ifCond .lt 16, 3) := by decide +kernel
theorem dX0_freest_23 : decode cX0_freest 23 = .ok (.aload_n 0, 1) := by decide +kernel
theorem dX0_freest_24 : decode cX0_freest 24 = .ok (.iload_n 2, 1) := by decide +kernel
theorem dX0_freest_25 : decode cX0_freest 25 = .ok (.invokevirtual 98, 3) := by decide +kernel
theorem dX0_freest_28 : decode cX0_freest 28 = .ok (.aload_n 0, 1) := by decide +kernel
theorem dX0_freest_29 : decode cX0_freest 29 = .ok (.iload_n 1, 1) := by decide +kernel
theorem dX0_freest_30 : decode cX0_freest 30 = .ok (.invokevirtual 98, 3) := by decide +kernel
theorem dX0_freest_33 : decode cX0_freest 33 = .ok (.if_icmp .le 5, 3) := by decide +kernel
theorem dX0_freest_36 : decode cX0_freest 36 = .ok (.iload_n 2, 1) := by decide +kernel
theorem dX0_freest_37 : decode cX0_freest 37 = .ok (.istore_n 1, 1) := by decide +kernel
theorem dX0_freest_38 : decode cX0_freest 38 = .ok (.iinc 2 1, 3) := by decide +kernel
theorem dX0_freest_41 : decode cX0_freest 41 = .ok (.goto (-36), 3) := by decide +kernel
theorem dX0_freest_44 : decode cX0_freest 44 = .ok (.iload_n 1, 1) := by decide +kernel
theorem dX0_freest_45 : decode cX0_freest 45 = .ok (.ireturn, 1) := by decide +kernel
theorem dX0_papersOf_0 : decode cX0_papersOf 0 = .ok (.iconst 0, 1) := by decide +kernel
theorem dX0_papersOf_1 : decode cX0_papersOf 1 = .ok (.istore_n 2, 1) := by decide +kernel
theorem dX0_papersOf_2 : decode cX0_papersOf 2 = .ok (.iconst 0, 1) := by decide +kernel
theorem dX0_papersOf_3 : decode cX0_papersOf 3 = .ok (.istore_n 3, 1) := by decide +kernel
theorem dX0_papersOf_4 : decode cX0_papersOf 4 = .ok (.iload_n 3, 1) := by decide +kernel
theorem dX0_papersOf_5 : decode cX0_papersOf 5 = .ok (.aload_n 0, 1) := by decide +kernel
theorem dX0_papersOf_6 : decode cX0_papersOf 6 = .ok (.getfield 36, 3) := by decide +kernel
theorem dX0_papersOf_9 : decode cX0_papersOf 9 = .ok (.if_icmp .ge 35, 3) := by decide +kernel
theorem dX0_papersOf_12 : decode cX0_papersOf 12 = .ok (.iload_n 2, 1) := by decide +kernel
theorem dX0_papersOf_13 : decode cX0_papersOf 13 = .ok (.aload_n 0, 1) := by decide +kernel
theorem dX0_papersOf_14 : decode cX0_papersOf 14 = .ok (.iload_n 3, 1) := by decide +kernel
theorem dX0_papersOf_15 : decode cX0_papersOf 15 = .ok (.invokevirtual 62, 3) := by decide +kernel
theorem dX0_papersOf_18 : decode cX0_papersOf 18 = .ok (.ifCond .eq 17, 3) := by decide +kernel
theorem dX0_papersOf_21 : decode cX0_papersOf 21 = .ok (.aload_n 0, 1) := by decide +kernel
theorem dX0_papersOf_22 : decode cX0_papersOf 22 = .ok (.getfield 21, 3) := by decide +kernel
theorem dX0_papersOf_25 : decode cX0_papersOf 25 = .ok (.iload_n 3, 1) := by decide +kernel
theorem dX0_papersOf_26 : decode cX0_papersOf 26 = .ok (.iaload, 1) := by decide +kernel
theorem dX0_papersOf_27 : decode cX0_papersOf 27 = .ok (.iload_n 1, 1) := by decide +kernel
theorem dX0_papersOf_28 : decode cX0_papersOf 28 = .ok (.if_icmp .ne 7, 3) := by decide +kernel
theorem dX0_papersOf_31 : decode cX0_papersOf 31 = .ok (.iconst 1, 1) := by decide +kernel
theorem dX0_papersOf_32 : decode cX0_papersOf 32 = .ok (.goto 4, 3) := by decide +kernel
theorem dX0_papersOf_35 : decode cX0_papersOf 35 = .ok (.iconst 0, 1) := by decide +kernel
theorem dX0_papersOf_36 : decode cX0_papersOf 36 = .ok (.iadd, 1) := by decide +kernel
theorem dX0_papersOf_37 : decode cX0_papersOf 37 = .ok (.istore_n 2, 1) := by decide +kernel
theorem dX0_papersOf_38 : decode cX0_papersOf 38 = .ok (.iinc 3 1, 3) := by decide +kernel
theorem dX0_papersOf_41 : decode cX0_papersOf 41 = .ok (.goto (-37), 3) := by decide +kernel
theorem dX0_papersOf_44 : decode cX0_papersOf 44 = .ok (.iload_n 2, 1) := by decide +kernel
theorem dX0_papersOf_45 : decode cX0_papersOf 45 = .ok (.ireturn, 1) := by decide +kernel
theorem dX0_sizesInOf_0 : decode cX0_sizesInOf 0 = .ok (.iconst 0, 1) := by decide +kernel
theorem dX0_sizesInOf_1 : decode cX0_sizesInOf 1 = .ok (.istore_n 2, 1) := by decide +kernel
theorem dX0_sizesInOf_2 : decode cX0_sizesInOf 2 = .ok (.iconst 0, 1) := by decide +kernel
theorem dX0_sizesInOf_3 : decode cX0_sizesInOf 3 = .ok (.istore_n 3, 1) := by decide +kernel
theorem dX0_sizesInOf_4 : decode cX0_sizesInOf 4 = .ok (.iload_n 3, 1) := by decide +kernel
theorem dX0_sizesInOf_5 : decode cX0_sizesInOf 5 = .ok (.aload_n 0, 1) := by decide +kernel
theorem dX0_sizesInOf_6 : decode cX0_sizesInOf 6 = .ok (.getfield 36, 3) := by decide +kernel
theorem dX0_sizesInOf_9 : decode cX0_sizesInOf 9 = .ok (.if_icmp .ge 40, 3) := by decide +kernel
theorem dX0_sizesInOf_12 : decode cX0_sizesInOf 12 = .ok (.iload_n 2, 1) := by decide +kernel
theorem dX0_sizesInOf_13 : decode cX0_sizesInOf 13 = .ok (.aload_n 0, 1) := by decide +kernel
theorem dX0_sizesInOf_14 : decode cX0_sizesInOf 14 = .ok (.iload_n 3, 1) := by decide +kernel
theorem dX0_sizesInOf_15 : decode cX0_sizesInOf 15 = .ok (.invokevirtual 86, 3) := by decide +kernel
theorem dX0_sizesInOf_18 : decode cX0_sizesInOf 18 = .ok (.ifCond .eq 22, 3) := by decide +kernel
theorem dX0_sizesInOf_21 : decode cX0_sizesInOf 21 = .ok (.aload_n 0, 1) := by decide +kernel
theorem dX0_sizesInOf_22 : decode cX0_sizesInOf 22 = .ok (.getfield 21, 3) := by decide +kernel
theorem dX0_sizesInOf_25 : decode cX0_sizesInOf 25 = .ok (.iload_n 3, 1) := by decide +kernel
theorem dX0_sizesInOf_26 : decode cX0_sizesInOf 26 = .ok (.iaload, 1) := by decide +kernel
theorem dX0_sizesInOf_27 : decode cX0_sizesInOf 27 = .ok (.iload_n 1, 1) := by decide +kernel
theorem dX0_sizesInOf_28 : decode cX0_sizesInOf 28 = .ok (.if_icmp .ne 12, 3) := by decide +kernel
theorem dX0_sizesInOf_31 : decode cX0_sizesInOf 31 = .ok (.aload_n 0, 1) := by decide +kernel
theorem dX0_sizesInOf_32 : decode cX0_sizesInOf 32 = .ok (.getfield 24, 3) := by decide +kernel
theorem dX0_sizesInOf_35 : decode cX0_sizesInOf 35 = .ok (.iload_n 3, 1) := by decide +kernel
theorem dX0_sizesInOf_36 : decode cX0_sizesInOf 36 = .ok (.iaload, 1) := by decide +kernel
theorem dX0_sizesInOf_37 : decode cX0_sizesInOf 37 = .ok (.goto 4, 3) := by decide +kernel
theorem dX0_sizesInOf_40 : decode cX0_sizesInOf 40 = .ok (.iconst 0, 1) := by decide +kernel
theorem dX0_sizesInOf_41 : decode cX0_sizesInOf 41 = .ok (.iadd, 1) := by decide +kernel
theorem dX0_sizesInOf_42 : decode cX0_sizesInOf 42 = .ok (.istore_n 2, 1) := by decide +kernel
theorem dX0_sizesInOf_43 : decode cX0_sizesInOf 43 = .ok (.iinc 3 1, 3) := by decide +kernel
theorem dX0_sizesInOf_46 : decode cX0_sizesInOf 46 = .ok (.goto (-42), 3) := by decide +kernel
theorem dX0_sizesInOf_49 : decode cX0_sizesInOf 49 = .ok (.iload_n 2, 1) := by decide +kernel
theorem dX0_sizesInOf_50 : decode cX0_sizesInOf 50 = .ok (.ireturn, 1) := by decide +kernel
theorem dX0_longestIn_0 : decode cX0_longestIn 0 = .ok (.bipush (-2), 2) := by decide +kernel
theorem dX0_longestIn_2 : decode cX0_longestIn 2 = .ok (.istore_n 1, 1) := by decide +kernel
theorem dX0_longestIn_3 : decode cX0_longestIn 3 = .ok (.iconst 0, 1) := by decide +kernel
theorem dX0_longestIn_4 : decode cX0_longestIn 4 = .ok (.istore_n 2, 1) := by decide +kernel
theorem dX0_longestIn_5 : decode cX0_longestIn 5 = .ok (.iload_n 2, 1) := by decide +kernel
theorem dX0_longestIn_6 : decode cX0_longestIn 6 = .ok (.aload_n 0, 1) := by decide +kernel
theorem dX0_longestIn_7 : decode cX0_longestIn 7 = .ok (.getfield 36, 3) := by decide +kernel
theorem dX0_longestIn_10 : decode cX0_longestIn 10 = .ok (.if_icmp .ge 38, 3) := by decide +kernel
theorem dX0_longestIn_13 : decode cX0_longestIn 13 = .ok (.aload_n 0, 1) := by decide +kernel
theorem dX0_longestIn_14 : decode cX0_longestIn 14 = .ok (.iload_n 2, 1) := by decide +kernel
theorem dX0_longestIn_15 : decode cX0_longestIn 15 = .ok (.invokevirtual 86, 3) := by decide +kernel
theorem dX0_longestIn_18 : decode cX0_longestIn 18 = .ok (.ifCond .eq 24, 3) := by decide +kernel
theorem dX0_longestIn_21 : decode cX0_longestIn 21 = .ok (.iload_n 1, 1) := by decide +kernel
theorem dX0_longestIn_22 : decode cX0_longestIn 22 = .ok (.ifCond .lt 18, 3) := by decide +kernel
theorem dX0_longestIn_25 : decode cX0_longestIn 25 = .ok (.aload_n 0, 1) := by decide +kernel
theorem dX0_longestIn_26 : decode cX0_longestIn 26 = .ok (.getfield 33, 3) := by decide +kernel
theorem dX0_longestIn_29 : decode cX0_longestIn 29 = .ok (.iload_n 2, 1) := by decide +kernel
theorem dX0_longestIn_30 : decode cX0_longestIn 30 = .ok (.iaload, 1) := by decide +kernel
theorem dX0_longestIn_31 : decode cX0_longestIn 31 = .ok (.aload_n 0, 1) := by decide +kernel
theorem dX0_longestIn_32 : decode cX0_longestIn 32 = .ok (.getfield 33, 3) := by decide +kernel
theorem dX0_longestIn_35 : decode cX0_longestIn 35 = .ok (.iload_n 1, 1) := by decide +kernel
theorem dX0_longestIn_36 : decode cX0_longestIn 36 = .ok (.iaload, 1) := by decide +kernel
theorem dX0_longestIn_37 : decode cX0_longestIn 37 = .ok (.if_icmp .le 5, 3) := by decide +kernel
theorem dX0_longestIn_40 : decode cX0_longestIn 40 = .ok (.iload_n 2, 1) := by decide +kernel
theorem dX0_longestIn_41 : decode cX0_longestIn 41 = .ok (.istore_n 1, 1) := by decide +kernel
theorem dX0_longestIn_42 : decode cX0_longestIn 42 = .ok (.iinc 2 1, 3) := by decide +kernel
theorem dX0_longestIn_45 : decode cX0_longestIn 45 = .ok (.goto (-40), 3) := by decide +kernel
theorem dX0_longestIn_48 : decode cX0_longestIn 48 = .ok (.iload_n 1, 1) := by decide +kernel
theorem dX0_longestIn_49 : decode cX0_longestIn 49 = .ok (.ireturn, 1) := by decide +kernel
theorem dX1_init_0 : decode cX1_init 0 = .ok (.aload_n 0, 1) := by decide +kernel
theorem dX1_init_1 : decode cX1_init 1 = .ok (.invokespecial 3, 3) := by decide +kernel
theorem dX1_init_4 : decode cX1_init 4 = .ok (.aload_n 0, 1) := by decide +kernel
theorem dX1_init_5 : decode cX1_init 5 = .ok (.aload_n 1, 1) := by decide +kernel
theorem dX1_init_6 : decode cX1_init 6 = .ok (.putfield 9, 3) := by decide +kernel
theorem dX1_init_9 : decode cX1_init 9 = .ok (.return_, 1) := by decide +kernel
theorem dX1_read_0 : decode cX1_read 0 = .ok (.aload_n 2, 1) := by decide +kernel
theorem dX1_read_1 : decode cX1_read 1 = .ok (.invokevirtual 15, 3) := by decide +kernel
theorem dX1_read_4 : decode cX1_read 4 = .ok (.aload_n 0, 1) := by decide +kernel
theorem dX1_read_5 : decode cX1_read 5 = .ok (.getfield 9, 3) := by decide +kernel
theorem dX1_read_8 : decode cX1_read 8 = .ok (.iload_n 1, 1) := by decide +kernel
theorem dX1_read_9 : decode cX1_read 9 = .ok (.invokevirtual 20, 3) := by decide +kernel
theorem dX1_read_12 : decode cX1_read 12 = .ok (.iconst 0, 1) := by decide +kernel
theorem dX1_read_13 : decode cX1_read 13 = .ok (.istore_n 3, 1) := by decide +kernel
theorem dX1_read_14 : decode cX1_read 14 = .ok (.iload_n 3, 1) := by decide +kernel
theorem dX1_read_15 : decode cX1_read 15 = .ok (.bipush 36, 2) := by decide +kernel
theorem dX1_read_17 : decode cX1_read 17 = .ok (.if_icmp .gt 59, 3) := by decide +kernel
theorem dX1_read_20 : decode cX1_read 20 = .ok (.aload_n 0, 1) := by decide +kernel
theorem dX1_read_21 : decode cX1_read 21 = .ok (.getfield 9, 3) := by decide +kernel
theorem dX1_read_24 : decode cX1_read 24 = .ok (.invokevirtual 26, 3) := by decide +kernel
theorem dX1_read_27 : decode cX1_read 27 = .ok (.ifCond .ne 49, 3) := by decide +kernel
theorem dX1_read_30 : decode cX1_read 30 = .ok (.aload_n 0, 1) := by decide +kernel
theorem dX1_read_31 : decode cX1_read 31 = .ok (.aload_n 2, 1) := by decide +kernel
theorem dX1_read_32 : decode cX1_read 32 = .ok (.iload_n 3, 1) := by decide +kernel
theorem dX1_read_33 : decode cX1_read 33 = .ok (.invokevirtual 30, 3) := by decide +kernel
theorem dX1_read_36 : decode cX1_read 36 = .ok (.aload_n 0, 1) := by decide +kernel
theorem dX1_read_37 : decode cX1_read 37 = .ok (.getfield 9, 3) := by decide +kernel
theorem dX1_read_40 : decode cX1_read 40 = .ok (.invokevirtual 26, 3) := by decide +kernel
theorem dX1_read_43 : decode cX1_read 43 = .ok (.ifCond .ne 18, 3) := by decide +kernel
theorem dX1_read_46 : decode cX1_read 46 = .ok (.aload_n 0, 1) := by decide +kernel
theorem dX1_read_47 : decode cX1_read 47 = .ok (.getfield 9, 3) := by decide +kernel
theorem dX1_read_50 : decode cX1_read 50 = .ok (.invokevirtual 34, 3) := by decide +kernel
theorem dX1_read_53 : decode cX1_read 53 = .ok (.iconst (-1), 1) := by decide +kernel
theorem dX1_read_54 : decode cX1_read 54 = .ok (.if_icmp .ne 7, 3) := by decide +kernel
theorem dX1_read_57 : decode cX1_read 57 = .ok (.iload_n 3, 1) := by decide +kernel
theorem dX1_read_58 : decode cX1_read 58 = .ok (.iconst 1, 1) := by decide +kernel
theorem dX1_read_59 : decode cX1_read 59 = .ok (.iadd, 1) := by decide +kernel
theorem dX1_read_60 : decode cX1_read 60 = .ok (.ireturn, 1) := by decide +kernel
theorem dX1_read_61 : decode cX1_read 61 = .ok (.aload_n 0, 1) := by decide +kernel
theorem dX1_read_62 : decode cX1_read 62 = .ok (.getfield 9, 3) := by decide +kernel
theorem dX1_read_65 : decode cX1_read 65 = .ok (.bipush 59, 2) := by decide +kernel
theorem dX1_read_67 : decode cX1_read 67 = .ok (.invokevirtual 38, 3) := by decide +kernel
theorem dX1_read_70 : decode cX1_read 70 = .ok (.iinc 3 1, 3) := by decide +kernel
theorem dX1_read_73 : decode cX1_read 73 = .ok (.goto (-59), 3) := by decide +kernel
theorem dX1_read_76 : decode cX1_read 76 = .ok (.aload_n 0, 1) := by decide +kernel
theorem dX1_read_77 : decode cX1_read 77 = .ok (.getfield 9, 3) := by decide +kernel
theorem dX1_read_80 : decode cX1_read 80 = .ok (.getfield 41, 3) := by decide +kernel
theorem dX1_read_83 : decode cX1_read 83 = .ok (.ireturn, 1) := by decide +kernel
theorem dX1_readLine_0 : decode cX1_readLine 0 = .ok (.aload_n 0, 1) := by decide +kernel
theorem dX1_readLine_1 : decode cX1_readLine 1 = .ok (.getfield 9, 3) := by decide +kernel
theorem dX1_readLine_4 : decode cX1_readLine 4 = .ok (.invokevirtual 34, 3) := by decide +kernel
theorem dX1_readLine_7 : decode cX1_readLine 7 = .ok (.istore_n 3, 1) := by decide +kernel
theorem dX1_readLine_8 : decode cX1_readLine 8 = .ok (.iload_n 3, 1) := by decide +kernel
theorem dX1_readLine_9 : decode cX1_readLine 9 = .ok (.invokestatic 45, 3) := by decide +kernel
theorem dX1_readLine_12 : decode cX1_readLine 12 = .ok (.istore 4, 2) := by decide +kernel
theorem dX1_readLine_14 : decode cX1_readLine 14 = .ok (.iload 4, 2) := by decide +kernel
theorem dX1_readLine_16 : decode cX1_readLine 16 = .ok (.ifCond .ne 26, 3) := by decide +kernel
theorem dX1_readLine_19 : decode cX1_readLine 19 = .ok (.iload_n 3, 1) := by decide +kernel
theorem dX1_readLine_20 : decode cX1_readLine 20 = .ok (.bipush 65, 2) := by decide +kernel
theorem dX1_readLine_22 : decode cX1_readLine 22 = .ok (.if_icmp .lt 9, 3) := by decide +kernel
theorem dX1_readLine_25 : decode cX1_readLine 25 = .ok (.iload_n 3, 1) := by decide +kernel
theorem dX1_readLine_26 : decode cX1_readLine 26 = .ok (.bipush 80, 2) := by decide +kernel
theorem dX1_readLine_28 : decode cX1_readLine 28 = .ok (.if_icmp .le 14, 3) := by decide +kernel
theorem dX1_readLine_31 : decode cX1_readLine 31 = .ok (.aload_n 0, 1) := by decide +kernel
theorem dX1_readLine_32 : decode cX1_readLine 32 = .ok (.getfield 9, 3) := by decide +kernel
theorem dX1_readLine_35 : decode cX1_readLine 35 = .ok (.iconst 1, 1) := by decide +kernel
theorem dX1_readLine_36 : decode cX1_readLine 36 = .ok (.invokevirtual 49, 3) := by decide +kernel
theorem dX1_readLine_39 : decode cX1_readLine 39 = .ok (.goto 60, 3) := by decide +kernel
theorem dX1_readLine_42 : decode cX1_readLine 42 = .ok (.iload_n 2, 1) := by decide +kernel
theorem dX1_readLine_43 : decode cX1_readLine 43 = .ok (.bipush 36, 2) := by decide +kernel
theorem dX1_readLine_45 : decode cX1_readLine 45 = .ok (.if_icmp .ge 17, 3) := by decide +kernel
theorem dX1_readLine_48 : decode cX1_readLine 48 = .ok (.iload 4, 2) := by decide +kernel
theorem dX1_readLine_50 : decode cX1_readLine 50 = .ok (.ifCond .ne 23, 3) := by decide +kernel
theorem dX1_readLine_53 : decode cX1_readLine 53 = .ok (.aload_n 1, 1) := by decide +kernel
theorem dX1_readLine_54 : decode cX1_readLine 54 = .ok (.getfield 52, 3) := by decide +kernel
theorem dX1_readLine_57 : decode cX1_readLine 57 = .ok (.bipush 24, 2) := by decide +kernel
theorem dX1_readLine_59 : decode cX1_readLine 59 = .ok (.if_icmp .lt 14, 3) := by decide +kernel
theorem dX1_readLine_62 : decode cX1_readLine 62 = .ok (.aload_n 0, 1) := by decide +kernel
theorem dX1_readLine_63 : decode cX1_readLine 63 = .ok (.getfield 9, 3) := by decide +kernel
theorem dX1_readLine_66 : decode cX1_readLine 66 = .ok (.iconst 4, 1) := by decide +kernel
theorem dX1_readLine_67 : decode cX1_readLine 67 = .ok (.invokevirtual 49, 3) := by decide +kernel
theorem dX1_readLine_70 : decode cX1_readLine 70 = .ok (.goto 29, 3) := by decide +kernel
theorem dX1_readLine_73 : decode cX1_readLine 73 = .ok (.iload 4, 2) := by decide +kernel
theorem dX1_readLine_75 : decode cX1_readLine 75 = .ok (.ifCond .eq 15, 3) := by decide +kernel
theorem dX1_readLine_78 : decode cX1_readLine 78 = .ok (.aload_n 0, 1) := by decide +kernel
theorem dX1_readLine_79 : decode cX1_readLine 79 = .ok (.aload_n 1, 1) := by decide +kernel
theorem dX1_readLine_80 : decode cX1_readLine 80 = .ok (.iload_n 3, 1) := by decide +kernel
theorem dX1_readLine_81 : decode cX1_readLine 81 = .ok (.bipush 97, 2) := by decide +kernel
theorem dX1_readLine_83 : decode cX1_readLine 83 = .ok (.isub, 1) := by decide +kernel
theorem dX1_readLine_84 : decode cX1_readLine 84 = .ok (.invokevirtual 55, 3) := by decide +kernel
theorem dX1_readLine_87 : decode cX1_readLine 87 = .ok (.goto 12, 3) := by decide +kernel
theorem dX1_readLine_90 : decode cX1_readLine 90 = .ok (.aload_n 0, 1) := by decide +kernel
theorem dX1_readLine_91 : decode cX1_readLine 91 = .ok (.aload_n 1, 1) := by decide +kernel
theorem dX1_readLine_92 : decode cX1_readLine 92 = .ok (.iload_n 3, 1) := by decide +kernel
theorem dX1_readLine_93 : decode cX1_readLine 93 = .ok (.bipush 65, 2) := by decide +kernel
theorem dX1_readLine_95 : decode cX1_readLine 95 = .ok (.isub, 1) := by decide +kernel
theorem dX1_readLine_96 : decode cX1_readLine 96 = .ok (.invokevirtual 58, 3) := by decide +kernel
theorem dX1_readLine_99 : decode cX1_readLine 99 = .ok (.return_, 1) := by decide +kernel
theorem dX1_readDrawer_0 : decode cX1_readDrawer 0 = .ok (.aload_n 1, 1) := by decide +kernel
theorem dX1_readDrawer_1 : decode cX1_readDrawer 1 = .ok (.iload_n 2, 1) := by decide +kernel
theorem dX1_readDrawer_2 : decode cX1_readDrawer 2 = .ok (.invokevirtual 61, 3) := by decide +kernel
theorem dX1_readDrawer_5 : decode cX1_readDrawer 5 = .ok (.ifCond .eq 13, 3) := by decide +kernel
theorem dX1_readDrawer_8 : decode cX1_readDrawer 8 = .ok (.aload_n 0, 1) := by decide +kernel
theorem dX1_readDrawer_9 : decode cX1_readDrawer 9 = .ok (.getfield 9, 3) := by decide +kernel
theorem dX1_readDrawer_12 : decode cX1_readDrawer 12 = .ok (.bipush 6, 2) := by decide +kernel
theorem dX1_readDrawer_14 : decode cX1_readDrawer 14 = .ok (.invokevirtual 49, 3) := by decide +kernel
theorem dX1_readDrawer_17 : decode cX1_readDrawer 17 = .ok (.return_, 1) := by decide +kernel
theorem dX1_readDrawer_18 : decode cX1_readDrawer 18 = .ok (.aload_n 0, 1) := by decide +kernel
theorem dX1_readDrawer_19 : decode cX1_readDrawer 19 = .ok (.getfield 9, 3) := by decide +kernel
theorem dX1_readDrawer_22 : decode cX1_readDrawer 22 = .ok (.invokevirtual 64, 3) := by decide +kernel
theorem dX1_readDrawer_25 : decode cX1_readDrawer 25 = .ok (.aload_n 0, 1) := by decide +kernel
theorem dX1_readDrawer_26 : decode cX1_readDrawer 26 = .ok (.invokevirtual 67, 3) := by decide +kernel
theorem dX1_readDrawer_29 : decode cX1_readDrawer 29 = .ok (.istore_n 3, 1) := by decide +kernel
theorem dX1_readDrawer_30 : decode cX1_readDrawer 30 = .ok (.aload_n 0, 1) := by decide +kernel
theorem dX1_readDrawer_31 : decode cX1_readDrawer 31 = .ok (.getfield 9, 3) := by decide +kernel
theorem dX1_readDrawer_34 : decode cX1_readDrawer 34 = .ok (.invokevirtual 26, 3) := by decide +kernel
theorem dX1_readDrawer_37 : decode cX1_readDrawer 37 = .ok (.ifCond .ne 9, 3) := by decide +kernel
theorem dX1_readDrawer_40 : decode cX1_readDrawer 40 = .ok (.aload_n 1, 1) := by decide +kernel
theorem dX1_readDrawer_41 : decode cX1_readDrawer 41 = .ok (.iload_n 2, 1) := by decide +kernel
theorem dX1_readDrawer_42 : decode cX1_readDrawer 42 = .ok (.iload_n 3, 1) := by decide +kernel
theorem dX1_readDrawer_43 : decode cX1_readDrawer 43 = .ok (.invokevirtual 70, 3) := by decide +kernel
theorem dX1_readDrawer_46 : decode cX1_readDrawer 46 = .ok (.return_, 1) := by decide +kernel
theorem dX1_readRoom_0 : decode cX1_readRoom 0 = .ok (.aload_n 0, 1) := by decide +kernel
theorem dX1_readRoom_1 : decode cX1_readRoom 1 = .ok (.getfield 9, 3) := by decide +kernel
theorem dX1_readRoom_4 : decode cX1_readRoom 4 = .ok (.getfield 74, 3) := by decide +kernel
theorem dX1_readRoom_7 : decode cX1_readRoom 7 = .ok (.istore_n 1, 1) := by decide +kernel
theorem dX1_readRoom_8 : decode cX1_readRoom 8 = .ok (.aload_n 0, 1) := by decide +kernel
theorem dX1_readRoom_9 : decode cX1_readRoom 9 = .ok (.getfield 9, 3) := by decide +kernel
theorem dX1_readRoom_12 : decode cX1_readRoom 12 = .ok (.invokevirtual 34, 3) := by decide +kernel
theorem dX1_readRoom_15 : decode cX1_readRoom 15 = .ok (.invokestatic 77, 3) := by decide +kernel
theorem dX1_readRoom_18 : decode cX1_readRoom 18 = .ok (.ifCond .ne 13, 3) := by decide +kernel
theorem dX1_readRoom_21 : decode cX1_readRoom 21 = .ok (.aload_n 0, 1) := by decide +kernel
theorem dX1_readRoom_22 : decode cX1_readRoom 22 = .ok (.getfield 9, 3) := by decide +kernel
theorem dX1_readRoom_25 : decode cX1_readRoom 25 = .ok (.iconst 1, 1) := by decide +kernel
theorem dX1_readRoom_26 : decode cX1_readRoom 26 = .ok (.invokevirtual 49, 3) := by decide +kernel
theorem dX1_readRoom_29 : decode cX1_readRoom 29 = .ok (.iconst 0, 1) := by decide +kernel
theorem dX1_readRoom_30 : decode cX1_readRoom 30 = .ok (.ireturn, 1) := by decide +kernel
theorem dX1_readRoom_31 : decode cX1_readRoom 31 = .ok (.aload_n 0, 1) := by decide +kernel
theorem dX1_readRoom_32 : decode cX1_readRoom 32 = .ok (.getfield 9, 3) := by decide +kernel
theorem dX1_readRoom_35 : decode cX1_readRoom 35 = .ok (.invokevirtual 34, 3) := by decide +kernel
theorem dX1_readRoom_38 : decode cX1_readRoom 38 = .ok (.bipush 48, 2) := by decide +kernel
theorem dX1_readRoom_40 : decode cX1_readRoom 40 = .ok (.isub, 1) := by decide +kernel
theorem dX1_readRoom_41 : decode cX1_readRoom 41 = .ok (.istore_n 2, 1) := by decide +kernel
theorem dX1_readRoom_42 : decode cX1_readRoom 42 = .ok (.aload_n 0, 1) := by decide +kernel
theorem dX1_readRoom_43 : decode cX1_readRoom 43 = .ok (.getfield 9, 3) := by decide +kernel
theorem dX1_readRoom_46 : decode cX1_readRoom 46 = .ok (.invokevirtual 64, 3) := by decide +kernel
theorem dX1_readRoom_49 : decode cX1_readRoom 49 = .ok (.aload_n 0, 1) := by decide +kernel
theorem dX1_readRoom_50 : decode cX1_readRoom 50 = .ok (.getfield 9, 3) := by decide +kernel
theorem dX1_readRoom_53 : decode cX1_readRoom 53 = .ok (.invokevirtual 34, 3) := by decide +kernel
theorem dX1_readRoom_56 : decode cX1_readRoom 56 = .ok (.invokestatic 77, 3) := by decide +kernel
theorem dX1_readRoom_59 : decode cX1_readRoom 59 = .ok (.ifCond .eq 26, 3) := by decide +kernel
theorem dX1_readRoom_62 : decode cX1_readRoom 62 = .ok (.bipush 10, 2) := by decide +kernel
theorem dX1_readRoom_64 : decode cX1_readRoom 64 = .ok (.iload_n 2, 1) := by decide +kernel
theorem dX1_readRoom_65 : decode cX1_readRoom 65 = .ok (.imul, 1) := by decide +kernel
theorem dX1_readRoom_66 : decode cX1_readRoom 66 = .ok (.aload_n 0, 1) := by decide +kernel
theorem dX1_readRoom_67 : decode cX1_readRoom 67 = .ok (.getfield 9, 3) := by decide +kernel
theorem dX1_readRoom_70 : decode cX1_readRoom 70 = .ok (.invokevirtual 34, 3) := by decide +kernel
theorem dX1_readRoom_73 : decode cX1_readRoom 73 = .ok (.iadd, 1) := by decide +kernel
theorem dX1_readRoom_74 : decode cX1_readRoom 74 = .ok (.bipush 48, 2) := by decide +kernel
theorem dX1_readRoom_76 : decode cX1_readRoom 76 = .ok (.isub, 1) := by decide +kernel
theorem dX1_readRoom_77 : decode cX1_readRoom 77 = .ok (.istore_n 2, 1) := by decide +kernel
theorem dX1_readRoom_78 : decode cX1_readRoom 78 = .ok (.aload_n 0, 1) := by decide +kernel
theorem dX1_readRoom_79 : decode cX1_readRoom 79 = .ok (.getfield 9, 3) := by decide +kernel
theorem dX1_readRoom_82 : decode cX1_readRoom 82 = .ok (.invokevirtual 64, 3) := by decide +kernel
theorem dX1_readRoom_85 : decode cX1_readRoom 85 = .ok (.aload_n 0, 1) := by decide +kernel
theorem dX1_readRoom_86 : decode cX1_readRoom 86 = .ok (.getfield 9, 3) := by decide +kernel
theorem dX1_readRoom_89 : decode cX1_readRoom 89 = .ok (.invokevirtual 34, 3) := by decide +kernel
theorem dX1_readRoom_92 : decode cX1_readRoom 92 = .ok (.invokestatic 77, 3) := by decide +kernel
theorem dX1_readRoom_95 : decode cX1_readRoom 95 = .ok (.ifCond .eq 14, 3) := by decide +kernel
theorem dX1_readRoom_98 : decode cX1_readRoom 98 = .ok (.aload_n 0, 1) := by decide +kernel
theorem dX1_readRoom_99 : decode cX1_readRoom 99 = .ok (.getfield 9, 3) := by decide +kernel
theorem dX1_readRoom_102 : decode cX1_readRoom 102 = .ok (.iconst 2, 1) := by decide +kernel
theorem dX1_readRoom_103 : decode cX1_readRoom 103 = .ok (.invokevirtual 49, 3) := by decide +kernel
theorem dX1_readRoom_106 : decode cX1_readRoom 106 = .ok (.goto 16, 3) := by decide +kernel
theorem dX1_readRoom_109 : decode cX1_readRoom 109 = .ok (.iload_n 2, 1) := by decide +kernel
theorem dX1_readRoom_110 : decode cX1_readRoom 110 = .ok (.ifCond .ne 12, 3) := by decide +kernel
theorem dX1_readRoom_113 : decode cX1_readRoom 113 = .ok (.aload_n 0, 1) := by decide +kernel
theorem dX1_readRoom_114 : decode cX1_readRoom 114 = .ok (.getfield 9, 3) := by decide +kernel
theorem dX1_readRoom_117 : decode cX1_readRoom 117 = .ok (.iconst 3, 1) := by decide +kernel
theorem dX1_readRoom_118 : decode cX1_readRoom 118 = .ok (.iload_n 1, 1) := by decide +kernel
theorem dX1_readRoom_119 : decode cX1_readRoom 119 = .ok (.invokevirtual 80, 3) := by decide +kernel
theorem dX1_readRoom_122 : decode cX1_readRoom 122 = .ok (.iload_n 2, 1) := by decide +kernel
theorem dX1_readRoom_123 : decode cX1_readRoom 123 = .ok (.ireturn, 1) := by decide +kernel
theorem dX1_readPaper_0 : decode cX1_readPaper 0 = .ok (.aload_n 0, 1) := by decide +kernel
theorem dX1_readPaper_1 : decode cX1_readPaper 1 = .ok (.getfield 9, 3) := by decide +kernel
theorem dX1_readPaper_4 : decode cX1_readPaper 4 = .ok (.invokevirtual 64, 3) := by decide +kernel
theorem dX1_readPaper_7 : decode cX1_readPaper 7 = .ok (.aload_n 0, 1) := by decide +kernel
theorem dX1_readPaper_8 : decode cX1_readPaper 8 = .ok (.getfield 9, 3) := by decide +kernel
theorem dX1_readPaper_11 : decode cX1_readPaper 11 = .ok (.invokevirtual 34, 3) := by decide +kernel
theorem dX1_readPaper_14 : decode cX1_readPaper 14 = .ok (.istore_n 3, 1) := by decide +kernel
theorem dX1_readPaper_15 : decode cX1_readPaper 15 = .ok (.iload_n 3, 1) := by decide +kernel
theorem dX1_readPaper_16 : decode cX1_readPaper 16 = .ok (.invokestatic 77, 3) := by decide +kernel
theorem dX1_readPaper_19 : decode cX1_readPaper 19 = .ok (.ifCond .eq 9, 3) := by decide +kernel
theorem dX1_readPaper_22 : decode cX1_readPaper 22 = .ok (.iload_n 3, 1) := by decide +kernel
theorem dX1_readPaper_23 : decode cX1_readPaper 23 = .ok (.bipush 48, 2) := by decide +kernel
theorem dX1_readPaper_25 : decode cX1_readPaper 25 = .ok (.if_icmp .ne 12, 3) := by decide +kernel
theorem dX1_readPaper_28 : decode cX1_readPaper 28 = .ok (.aload_n 0, 1) := by decide +kernel
theorem dX1_readPaper_29 : decode cX1_readPaper 29 = .ok (.getfield 9, 3) := by decide +kernel
theorem dX1_readPaper_32 : decode cX1_readPaper 32 = .ok (.iconst 1, 1) := by decide +kernel
theorem dX1_readPaper_33 : decode cX1_readPaper 33 = .ok (.invokevirtual 49, 3) := by decide +kernel
theorem dX1_readPaper_36 : decode cX1_readPaper 36 = .ok (.return_, 1) := by decide +kernel
theorem dX1_readPaper_37 : decode cX1_readPaper 37 = .ok (.aload_n 0, 1) := by decide +kernel
theorem dX1_readPaper_38 : decode cX1_readPaper 38 = .ok (.getfield 9, 3) := by decide +kernel
theorem dX1_readPaper_41 : decode cX1_readPaper 41 = .ok (.invokevirtual 64, 3) := by decide +kernel
theorem dX1_readPaper_44 : decode cX1_readPaper 44 = .ok (.aload_n 1, 1) := by decide +kernel
theorem dX1_readPaper_45 : decode cX1_readPaper 45 = .ok (.iload_n 2, 1) := by decide +kernel
theorem dX1_readPaper_46 : decode cX1_readPaper 46 = .ok (.iload_n 3, 1) := by decide +kernel
theorem dX1_readPaper_47 : decode cX1_readPaper 47 = .ok (.bipush 48, 2) := by decide +kernel
theorem dX1_readPaper_49 : decode cX1_readPaper 49 = .ok (.isub, 1) := by decide +kernel
theorem dX1_readPaper_50 : decode cX1_readPaper 50 = .ok (.invokevirtual 83, 3) := by decide +kernel
theorem dX1_readPaper_53 : decode cX1_readPaper 53 = .ok (.aload_n 0, 1) := by decide +kernel
theorem dX1_readPaper_54 : decode cX1_readPaper 54 = .ok (.getfield 9, 3) := by decide +kernel
theorem dX1_readPaper_57 : decode cX1_readPaper 57 = .ok (.invokevirtual 34, 3) := by decide +kernel
theorem dX1_readPaper_60 : decode cX1_readPaper 60 = .ok (.bipush 62, 2) := by decide +kernel
theorem dX1_readPaper_62 : decode cX1_readPaper 62 = .ok (.if_icmp .ne 15, 3) := by decide +kernel
theorem dX1_readPaper_65 : decode cX1_readPaper 65 = .ok (.aload_n 0, 1) := by decide +kernel
theorem dX1_readPaper_66 : decode cX1_readPaper 66 = .ok (.getfield 9, 3) := by decide +kernel
theorem dX1_readPaper_69 : decode cX1_readPaper 69 = .ok (.invokevirtual 64, 3) := by decide +kernel
theorem dX1_readPaper_72 : decode cX1_readPaper 72 = .ok (.aload_n 0, 1) := by decide +kernel
theorem dX1_readPaper_73 : decode cX1_readPaper 73 = .ok (.aload_n 1, 1) := by decide +kernel
theorem dX1_readPaper_74 : decode cX1_readPaper 74 = .ok (.invokevirtual 86, 3) := by decide +kernel
theorem dX1_readPaper_77 : decode cX1_readPaper 77 = .ok (.return_, 1) := by decide +kernel
theorem dX1_readItsDrawer_0 : decode cX1_readItsDrawer 0 = .ok (.aload_n 0, 1) := by decide +kernel
theorem dX1_readItsDrawer_1 : decode cX1_readItsDrawer 1 = .ok (.getfield 9, 3) := by decide +kernel
theorem dX1_readItsDrawer_4 : decode cX1_readItsDrawer 4 = .ok (.invokevirtual 34, 3) := by decide +kernel
theorem dX1_readItsDrawer_7 : decode cX1_readItsDrawer 7 = .ok (.istore_n 2, 1) := by decide +kernel
theorem dX1_readItsDrawer_8 : decode cX1_readItsDrawer 8 = .ok (.aload_n 1, 1) := by decide +kernel
theorem dX1_readItsDrawer_9 : decode cX1_readItsDrawer 9 = .ok (.getfield 52, 3) := by decide +kernel
theorem dX1_readItsDrawer_12 : decode cX1_readItsDrawer 12 = .ok (.iconst 1, 1) := by decide +kernel
theorem dX1_readItsDrawer_13 : decode cX1_readItsDrawer 13 = .ok (.isub, 1) := by decide +kernel
theorem dX1_readItsDrawer_14 : decode cX1_readItsDrawer 14 = .ok (.istore_n 3, 1) := by decide +kernel
theorem dX1_readItsDrawer_15 : decode cX1_readItsDrawer 15 = .ok (.iload_n 2, 1) := by decide +kernel
theorem dX1_readItsDrawer_16 : decode cX1_readItsDrawer 16 = .ok (.invokestatic 45, 3) := by decide +kernel
theorem dX1_readItsDrawer_19 : decode cX1_readItsDrawer 19 = .ok (.ifCond .ne 14, 3) := by decide +kernel
theorem dX1_readItsDrawer_22 : decode cX1_readItsDrawer 22 = .ok (.aload_n 0, 1) := by decide +kernel
theorem dX1_readItsDrawer_23 : decode cX1_readItsDrawer 23 = .ok (.getfield 9, 3) := by decide +kernel
theorem dX1_readItsDrawer_26 : decode cX1_readItsDrawer 26 = .ok (.iconst 1, 1) := by decide +kernel
theorem dX1_readItsDrawer_27 : decode cX1_readItsDrawer 27 = .ok (.invokevirtual 49, 3) := by decide +kernel
theorem dX1_readItsDrawer_30 : decode cX1_readItsDrawer 30 = .ok (.goto 66, 3) := by decide +kernel
theorem dX1_readItsDrawer_33 : decode cX1_readItsDrawer 33 = .ok (.aload_n 1, 1) := by decide +kernel
theorem dX1_readItsDrawer_34 : decode cX1_readItsDrawer 34 = .ok (.iload_n 2, 1) := by decide +kernel
theorem dX1_readItsDrawer_35 : decode cX1_readItsDrawer 35 = .ok (.bipush 97, 2) := by decide +kernel
theorem dX1_readItsDrawer_37 : decode cX1_readItsDrawer 37 = .ok (.isub, 1) := by decide +kernel
theorem dX1_readItsDrawer_38 : decode cX1_readItsDrawer 38 = .ok (.invokevirtual 61, 3) := by decide +kernel
theorem dX1_readItsDrawer_41 : decode cX1_readItsDrawer 41 = .ok (.ifCond .ne 15, 3) := by decide +kernel
theorem dX1_readItsDrawer_44 : decode cX1_readItsDrawer 44 = .ok (.aload_n 0, 1) := by decide +kernel
theorem dX1_readItsDrawer_45 : decode cX1_readItsDrawer 45 = .ok (.getfield 9, 3) := by decide +kernel
theorem dX1_readItsDrawer_48 : decode cX1_readItsDrawer 48 = .ok (.bipush 7, 2) := by decide +kernel
theorem dX1_readItsDrawer_50 : decode cX1_readItsDrawer 50 = .ok (.invokevirtual 49, 3) := by decide +kernel
theorem dX1_readItsDrawer_53 : decode cX1_readItsDrawer 53 = .ok (.goto 43, 3) := by decide +kernel
theorem dX1_readItsDrawer_56 : decode cX1_readItsDrawer 56 = .ok (.aload_n 1, 1) := by decide +kernel
theorem dX1_readItsDrawer_57 : decode cX1_readItsDrawer 57 = .ok (.iload_n 3, 1) := by decide +kernel
theorem dX1_readItsDrawer_58 : decode cX1_readItsDrawer 58 = .ok (.iload_n 2, 1) := by decide +kernel
theorem dX1_readItsDrawer_59 : decode cX1_readItsDrawer 59 = .ok (.bipush 97, 2) := by decide +kernel
theorem dX1_readItsDrawer_61 : decode cX1_readItsDrawer 61 = .ok (.isub, 1) := by decide +kernel
theorem dX1_readItsDrawer_62 : decode cX1_readItsDrawer 62 = .ok (.invokevirtual 90, 3) := by decide +kernel
theorem dX1_readItsDrawer_65 : decode cX1_readItsDrawer 65 = .ok (.ifCond .ne 15, 3) := by decide +kernel
theorem dX1_readItsDrawer_68 : decode cX1_readItsDrawer 68 = .ok (.aload_n 0, 1) := by decide +kernel
theorem dX1_readItsDrawer_69 : decode cX1_readItsDrawer 69 = .ok (.getfield 9, 3) := by decide +kernel
theorem dX1_readItsDrawer_72 : decode cX1_readItsDrawer 72 = .ok (.bipush 8, 2) := by decide +kernel
theorem dX1_readItsDrawer_74 : decode cX1_readItsDrawer 74 = .ok (.invokevirtual 49, 3) := by decide +kernel
theorem dX1_readItsDrawer_77 : decode cX1_readItsDrawer 77 = .ok (.goto 19, 3) := by decide +kernel
theorem dX1_readItsDrawer_80 : decode cX1_readItsDrawer 80 = .ok (.aload_n 1, 1) := by decide +kernel
theorem dX1_readItsDrawer_81 : decode cX1_readItsDrawer 81 = .ok (.iload_n 3, 1) := by decide +kernel
theorem dX1_readItsDrawer_82 : decode cX1_readItsDrawer 82 = .ok (.iload_n 2, 1) := by decide +kernel
theorem dX1_readItsDrawer_83 : decode cX1_readItsDrawer 83 = .ok (.bipush 97, 2) := by decide +kernel
theorem dX1_readItsDrawer_85 : decode cX1_readItsDrawer 85 = .ok (.isub, 1) := by decide +kernel
theorem dX1_readItsDrawer_86 : decode cX1_readItsDrawer 86 = .ok (.invokevirtual 94, 3) := by decide +kernel
theorem dX1_readItsDrawer_89 : decode cX1_readItsDrawer 89 = .ok (.aload_n 0, 1) := by decide +kernel
theorem dX1_readItsDrawer_90 : decode cX1_readItsDrawer 90 = .ok (.getfield 9, 3) := by decide +kernel
theorem dX1_readItsDrawer_93 : decode cX1_readItsDrawer 93 = .ok (.invokevirtual 64, 3) := by decide +kernel
theorem dX1_readItsDrawer_96 : decode cX1_readItsDrawer 96 = .ok (.return_, 1) := by decide +kernel
theorem dX1_isDrawerLetter_0 : decode cX1_isDrawerLetter 0 = .ok (.iload_n 0, 1) := by decide +kernel
theorem dX1_isDrawerLetter_1 : decode cX1_isDrawerLetter 1 = .ok (.bipush 97, 2) := by decide +kernel
theorem dX1_isDrawerLetter_3 : decode cX1_isDrawerLetter 3 = .ok (.if_icmp .lt 13, 3) := by decide +kernel
theorem dX1_isDrawerLetter_6 : decode cX1_isDrawerLetter 6 = .ok (.iload_n 0, 1) := by decide +kernel
theorem dX1_isDrawerLetter_7 : decode cX1_isDrawerLetter 7 = .ok (.bipush 108, 2) := by decide +kernel
theorem dX1_isDrawerLetter_9 : decode cX1_isDrawerLetter 9 = .ok (.if_icmp .gt 7, 3) := by decide +kernel
theorem dX1_isDrawerLetter_12 : decode cX1_isDrawerLetter 12 = .ok (.iconst 1, 1) := by decide +kernel
theorem dX1_isDrawerLetter_13 : decode cX1_isDrawerLetter 13 = .ok (.goto 4, 3) := by decide +kernel
theorem dX1_isDrawerLetter_16 : decode cX1_isDrawerLetter 16 = .ok (.iconst 0, 1) := by decide +kernel
theorem dX1_isDrawerLetter_17 : decode cX1_isDrawerLetter 17 = .ok (.ireturn, 1) := by decide +kernel
theorem dX2_init_0 : decode cX2_init 0 = .ok (.aload_n 0, 1) := by decide +kernel
theorem dX2_init_1 : decode cX2_init 1 = .ok (.invokespecial 3, 3) := by decide +kernel
theorem dX2_init_4 : decode cX2_init 4 = .ok (.aload_n 0, 1) := by decide +kernel
theorem dX2_init_5 : decode cX2_init 5 = .ok (.bipush 12, 2) := by decide +kernel
theorem dX2_init_7 : decode cX2_init 7 = .ok (.newarray .boolean, 2) := by decide +kernel
theorem dX2_init_9 : decode cX2_init 9 = .ok (.putfield 9, 3) := by decide +kernel
theorem dX2_init_12 : decode cX2_init 12 = .ok (.aload_n 0, 1) := by decide +kernel
theorem dX2_init_13 : decode cX2_init 13 = .ok (.iconst 0, 1) := by decide +kernel
theorem dX2_init_14 : decode cX2_init 14 = .ok (.putfield 15, 3) := by decide +kernel
theorem dX2_init_17 : decode cX2_init 17 = .ok (.aload_n 0, 1) := by decide +kernel
theorem dX2_init_18 : decode cX2_init 18 = .ok (.iconst 0, 1) := by decide +kernel
theorem dX2_init_19 : decode cX2_init 19 = .ok (.putfield 19, 3) := by decide +kernel
theorem dX2_init_22 : decode cX2_init 22 = .ok (.return_, 1) := by decide +kernel
theorem dX2_pass_0 : decode cX2_pass 0 = .ok (.aload_n 0, 1) := by decide +kernel
theorem dX2_pass_1 : decode cX2_pass 1 = .ok (.iconst 0, 1) := by decide +kernel
theorem dX2_pass_2 : decode cX2_pass 2 = .ok (.putfield 15, 3) := by decide +kernel
theorem dX2_pass_5 : decode cX2_pass 5 = .ok (.aload_n 0, 1) := by decide +kernel
theorem dX2_pass_6 : decode cX2_pass 6 = .ok (.iconst 0, 1) := by decide +kernel
theorem dX2_pass_7 : decode cX2_pass 7 = .ok (.putfield 19, 3) := by decide +kernel
theorem dX2_pass_10 : decode cX2_pass 10 = .ok (.iconst 0, 1) := by decide +kernel
theorem dX2_pass_11 : decode cX2_pass 11 = .ok (.istore 4, 2) := by decide +kernel
theorem dX2_pass_13 : decode cX2_pass 13 = .ok (.iload 4, 2) := by decide +kernel
theorem dX2_pass_15 : decode cX2_pass 15 = .ok (.iload_n 3, 1) := by decide +kernel
theorem dX2_pass_16 : decode cX2_pass 16 = .ok (.if_icmp .ge 47, 3) := by decide +kernel
theorem dX2_pass_19 : decode cX2_pass 19 = .ok (.aload_n 1, 1) := by decide +kernel
theorem dX2_pass_20 : decode cX2_pass 20 = .ok (.getfield 22, 3) := by decide +kernel
theorem dX2_pass_23 : decode cX2_pass 23 = .ok (.sipush 9999, 3) := by decide +kernel
theorem dX2_pass_26 : decode cX2_pass 26 = .ok (.if_icmp .ge 37, 3) := by decide +kernel
theorem dX2_pass_29 : decode cX2_pass 29 = .ok (.aload_n 0, 1) := by decide +kernel
theorem dX2_pass_30 : decode cX2_pass 30 = .ok (.aload_n 1, 1) := by decide +kernel
theorem dX2_pass_31 : decode cX2_pass 31 = .ok (.aload_n 2, 1) := by decide +kernel
theorem dX2_pass_32 : decode cX2_pass 32 = .ok (.invokevirtual 27, 3) := by decide +kernel
theorem dX2_pass_35 : decode cX2_pass 35 = .ok (.aload_n 0, 1) := by decide +kernel
theorem dX2_pass_36 : decode cX2_pass 36 = .ok (.aload_n 1, 1) := by decide +kernel
theorem dX2_pass_37 : decode cX2_pass 37 = .ok (.aload_n 2, 1) := by decide +kernel
theorem dX2_pass_38 : decode cX2_pass 38 = .ok (.invokevirtual 31, 3) := by decide +kernel
theorem dX2_pass_41 : decode cX2_pass 41 = .ok (.aload_n 0, 1) := by decide +kernel
theorem dX2_pass_42 : decode cX2_pass 42 = .ok (.aload_n 1, 1) := by decide +kernel
theorem dX2_pass_43 : decode cX2_pass 43 = .ok (.aload_n 2, 1) := by decide +kernel
theorem dX2_pass_44 : decode cX2_pass 44 = .ok (.invokevirtual 34, 3) := by decide +kernel
theorem dX2_pass_47 : decode cX2_pass 47 = .ok (.aload_n 1, 1) := by decide +kernel
theorem dX2_pass_48 : decode cX2_pass 48 = .ok (.dup, 1) := by decide +kernel
theorem dX2_pass_49 : decode cX2_pass 49 = .ok (.getfield 22, 3) := by decide +kernel
theorem dX2_pass_52 : decode cX2_pass 52 = .ok (.iconst 1, 1) := by decide +kernel
theorem dX2_pass_53 : decode cX2_pass 53 = .ok (.iadd, 1) := by decide +kernel
theorem dX2_pass_54 : decode cX2_pass 54 = .ok (.putfield 22, 3) := by decide +kernel
theorem dX2_pass_57 : decode cX2_pass 57 = .ok (.iinc 4 1, 3) := by decide +kernel
theorem dX2_pass_60 : decode cX2_pass 60 = .ok (.goto (-47), 3) := by decide +kernel
theorem dX2_pass_63 : decode cX2_pass 63 = .ok (.return_, 1) := by decide +kernel
theorem dX2_findStuck_0 : decode cX2_findStuck 0 = .ok (.iconst 0, 1) := by decide +kernel
theorem dX2_findStuck_1 : decode cX2_findStuck 1 = .ok (.istore_n 3, 1) := by decide +kernel
theorem dX2_findStuck_2 : decode cX2_findStuck 2 = .ok (.iload_n 3, 1) := by decide +kernel
theorem dX2_findStuck_3 : decode cX2_findStuck 3 = .ok (.bipush 12, 2) := by decide +kernel
theorem dX2_findStuck_5 : decode cX2_findStuck 5 = .ok (.if_icmp .ge 45, 3) := by decide +kernel
theorem dX2_findStuck_8 : decode cX2_findStuck 8 = .ok (.aload_n 0, 1) := by decide +kernel
theorem dX2_findStuck_9 : decode cX2_findStuck 9 = .ok (.getfield 9, 3) := by decide +kernel
theorem dX2_findStuck_12 : decode cX2_findStuck 12 = .ok (.iload_n 3, 1) := by decide +kernel
theorem dX2_findStuck_13 : decode cX2_findStuck 13 = .ok (.aload_n 1, 1) := by decide +kernel
theorem dX2_findStuck_14 : decode cX2_findStuck 14 = .ok (.iload_n 3, 1) := by decide +kernel
theorem dX2_findStuck_15 : decode cX2_findStuck 15 = .ok (.invokevirtual 37, 3) := by decide +kernel
theorem dX2_findStuck_18 : decode cX2_findStuck 18 = .ok (.ifCond .eq 24, 3) := by decide +kernel
theorem dX2_findStuck_21 : decode cX2_findStuck 21 = .ok (.aload_n 2, 1) := by decide +kernel
theorem dX2_findStuck_22 : decode cX2_findStuck 22 = .ok (.bipush 120, 2) := by decide +kernel
theorem dX2_findStuck_24 : decode cX2_findStuck 24 = .ok (.aload_n 1, 1) := by decide +kernel
theorem dX2_findStuck_25 : decode cX2_findStuck 25 = .ok (.bipush 24, 2) := by decide +kernel
theorem dX2_findStuck_27 : decode cX2_findStuck 27 = .ok (.iload_n 3, 1) := by decide +kernel
theorem dX2_findStuck_28 : decode cX2_findStuck 28 = .ok (.aload_n 1, 1) := by decide +kernel
theorem dX2_findStuck_29 : decode cX2_findStuck 29 = .ok (.invokevirtual 41, 3) := by decide +kernel
theorem dX2_findStuck_32 : decode cX2_findStuck 32 = .ok (.invokevirtual 45, 3) := by decide +kernel
theorem dX2_findStuck_35 : decode cX2_findStuck 35 = .ok (.ifCond .eq 7, 3) := by decide +kernel
theorem dX2_findStuck_38 : decode cX2_findStuck 38 = .ok (.iconst 1, 1) := by decide +kernel
theorem dX2_findStuck_39 : decode cX2_findStuck 39 = .ok (.goto 4, 3) := by decide +kernel
theorem dX2_findStuck_42 : decode cX2_findStuck 42 = .ok (.iconst 0, 1) := by decide +kernel
theorem dX2_findStuck_43 : decode cX2_findStuck 43 = .ok (.bastore, 1) := by decide +kernel
theorem dX2_findStuck_44 : decode cX2_findStuck 44 = .ok (.iinc 3 1, 3) := by decide +kernel
theorem dX2_findStuck_47 : decode cX2_findStuck 47 = .ok (.goto (-45), 3) := by decide +kernel
theorem dX2_findStuck_50 : decode cX2_findStuck 50 = .ok (.return_, 1) := by decide +kernel
theorem dX2_putPapersIn_0 : decode cX2_putPapersIn 0 = .ok (.iconst 0, 1) := by decide +kernel
theorem dX2_putPapersIn_1 : decode cX2_putPapersIn 1 = .ok (.istore_n 3, 1) := by decide +kernel
theorem dX2_putPapersIn_2 : decode cX2_putPapersIn 2 = .ok (.iload_n 3, 1) := by decide +kernel
theorem dX2_putPapersIn_3 : decode cX2_putPapersIn 3 = .ok (.aload_n 1, 1) := by decide +kernel
theorem dX2_putPapersIn_4 : decode cX2_putPapersIn 4 = .ok (.getfield 51, 3) := by decide +kernel
theorem dX2_putPapersIn_7 : decode cX2_putPapersIn 7 = .ok (.if_icmp .ge 48, 3) := by decide +kernel
theorem dX2_putPapersIn_10 : decode cX2_putPapersIn 10 = .ok (.aload_n 1, 1) := by decide +kernel
theorem dX2_putPapersIn_11 : decode cX2_putPapersIn 11 = .ok (.iload_n 3, 1) := by decide +kernel
theorem dX2_putPapersIn_12 : decode cX2_putPapersIn 12 = .ok (.invokevirtual 54, 3) := by decide +kernel
theorem dX2_putPapersIn_15 : decode cX2_putPapersIn 15 = .ok (.ifCond .ne 34, 3) := by decide +kernel
theorem dX2_putPapersIn_18 : decode cX2_putPapersIn 18 = .ok (.aload_n 0, 1) := by decide +kernel
theorem dX2_putPapersIn_19 : decode cX2_putPapersIn 19 = .ok (.aload_n 1, 1) := by decide +kernel
theorem dX2_putPapersIn_20 : decode cX2_putPapersIn 20 = .ok (.aload_n 2, 1) := by decide +kernel
theorem dX2_putPapersIn_21 : decode cX2_putPapersIn 21 = .ok (.iload_n 3, 1) := by decide +kernel
theorem dX2_putPapersIn_22 : decode cX2_putPapersIn 22 = .ok (.invokevirtual 57, 3) := by decide +kernel
theorem dX2_putPapersIn_25 : decode cX2_putPapersIn 25 = .ok (.istore 4, 2) := by decide +kernel
theorem dX2_putPapersIn_27 : decode cX2_putPapersIn 27 = .ok (.iload 4, 2) := by decide +kernel
theorem dX2_putPapersIn_29 : decode cX2_putPapersIn 29 = .ok (.ifCond .lt 20, 3) := by decide +kernel
theorem dX2_putPapersIn_32 : decode cX2_putPapersIn 32 = .ok (.aload_n 1, 1) := by decide +kernel
theorem dX2_putPapersIn_33 : decode cX2_putPapersIn 33 = .ok (.iload_n 3, 1) := by decide +kernel
theorem dX2_putPapersIn_34 : decode cX2_putPapersIn 34 = .ok (.iload 4, 2) := by decide +kernel
theorem dX2_putPapersIn_36 : decode cX2_putPapersIn 36 = .ok (.invokevirtual 61, 3) := by decide +kernel
theorem dX2_putPapersIn_39 : decode cX2_putPapersIn 39 = .ok (.aload_n 0, 1) := by decide +kernel
theorem dX2_putPapersIn_40 : decode cX2_putPapersIn 40 = .ok (.dup, 1) := by decide +kernel
theorem dX2_putPapersIn_41 : decode cX2_putPapersIn 41 = .ok (.getfield 15, 3) := by decide +kernel
theorem dX2_putPapersIn_44 : decode cX2_putPapersIn 44 = .ok (.iconst 1, 1) := by decide +kernel
theorem dX2_putPapersIn_45 : decode cX2_putPapersIn 45 = .ok (.iadd, 1) := by decide +kernel
theorem dX2_putPapersIn_46 : decode cX2_putPapersIn 46 = .ok (.putfield 15, 3) := by decide +kernel
theorem dX2_putPapersIn_49 : decode cX2_putPapersIn 49 = .ok (.iinc 3 1, 3) := by decide +kernel
theorem dX2_putPapersIn_52 : decode cX2_putPapersIn 52 = .ok (.goto (-50), 3) := by decide +kernel
theorem dX2_putPapersIn_55 : decode cX2_putPapersIn 55 = .ok (.return_, 1) := by decide +kernel
theorem dX2_mostWished_0 : decode cX2_mostWished 0 = .ok (.iconst (-1), 1) := by decide +kernel
theorem dX2_mostWished_1 : decode cX2_mostWished 1 = .ok (.istore 4, 2) := by decide +kernel
theorem dX2_mostWished_3 : decode cX2_mostWished 3 = .ok (.iconst 0, 1) := by decide +kernel
theorem dX2_mostWished_4 : decode cX2_mostWished 4 = .ok (.istore 5, 2) := by decide +kernel
theorem dX2_mostWished_6 : decode cX2_mostWished 6 = .ok (.iconst 0, 1) := by decide +kernel
theorem dX2_mostWished_7 : decode cX2_mostWished 7 = .ok (.istore 6, 2) := by decide +kernel
theorem dX2_mostWished_9 : decode cX2_mostWished 9 = .ok (.iload 6, 2) := by decide +kernel
theorem dX2_mostWished_11 : decode cX2_mostWished 11 = .ok (.bipush 12, 2) := by decide +kernel
theorem dX2_mostWished_13 : decode cX2_mostWished 13 = .ok (.if_icmp .ge 63, 3) := by decide +kernel
theorem dX2_mostWished_16 : decode cX2_mostWished 16 = .ok (.aload_n 0, 1) := by decide +kernel
theorem dX2_mostWished_17 : decode cX2_mostWished 17 = .ok (.getfield 9, 3) := by decide +kernel
theorem dX2_mostWished_20 : decode cX2_mostWished 20 = .ok (.iload 6, 2) := by decide +kernel
theorem dX2_mostWished_22 : decode cX2_mostWished 22 = .ok (.baload, 1) := by decide +kernel
theorem dX2_mostWished_23 : decode cX2_mostWished 23 = .ok (.ifCond .ne 47, 3) := by decide +kernel
theorem dX2_mostWished_26 : decode cX2_mostWished 26 = .ok (.aload_n 1, 1) := by decide +kernel
theorem dX2_mostWished_27 : decode cX2_mostWished 27 = .ok (.iload_n 3, 1) := by decide +kernel
theorem dX2_mostWished_28 : decode cX2_mostWished 28 = .ok (.iload 6, 2) := by decide +kernel
theorem dX2_mostWished_30 : decode cX2_mostWished 30 = .ok (.invokevirtual 65, 3) := by decide +kernel
theorem dX2_mostWished_33 : decode cX2_mostWished 33 = .ok (.ifCond .eq 37, 3) := by decide +kernel
theorem dX2_mostWished_36 : decode cX2_mostWished 36 = .ok (.sipush 9999, 3) := by decide +kernel
theorem dX2_mostWished_39 : decode cX2_mostWished 39 = .ok (.aload_n 2, 1) := by decide +kernel
theorem dX2_mostWished_40 : decode cX2_mostWished 40 = .ok (.bipush 101, 2) := by decide +kernel
theorem dX2_mostWished_42 : decode cX2_mostWished 42 = .ok (.aload_n 1, 1) := by decide +kernel
theorem dX2_mostWished_43 : decode cX2_mostWished 43 = .ok (.iload_n 3, 1) := by decide +kernel
theorem dX2_mostWished_44 : decode cX2_mostWished 44 = .ok (.iload 6, 2) := by decide +kernel
theorem dX2_mostWished_46 : decode cX2_mostWished 46 = .ok (.iconst 0, 1) := by decide +kernel
theorem dX2_mostWished_47 : decode cX2_mostWished 47 = .ok (.invokevirtual 45, 3) := by decide +kernel
theorem dX2_mostWished_50 : decode cX2_mostWished 50 = .ok (.invokestatic 69, 3) := by decide +kernel
theorem dX2_mostWished_53 : decode cX2_mostWished 53 = .ok (.istore 7, 2) := by decide +kernel
theorem dX2_mostWished_55 : decode cX2_mostWished 55 = .ok (.iload 7, 2) := by decide +kernel
theorem dX2_mostWished_57 : decode cX2_mostWished 57 = .ok (.iload 5, 2) := by decide +kernel
theorem dX2_mostWished_59 : decode cX2_mostWished 59 = .ok (.if_icmp .le 11, 3) := by decide +kernel
theorem dX2_mostWished_62 : decode cX2_mostWished 62 = .ok (.iload 7, 2) := by decide +kernel
theorem dX2_mostWished_64 : decode cX2_mostWished 64 = .ok (.istore 5, 2) := by decide +kernel
theorem dX2_mostWished_66 : decode cX2_mostWished 66 = .ok (.iload 6, 2) := by decide +kernel
theorem dX2_mostWished_68 : decode cX2_mostWished 68 = .ok (.istore 4, 2) := by decide +kernel
theorem dX2_mostWished_70 : decode cX2_mostWished 70 = .ok (.iinc 6 1, 3) := by decide +kernel
theorem dX2_mostWished_73 : decode cX2_mostWished 73 = .ok (.goto (-64), 3) := by decide +kernel
theorem dX2_mostWished_76 : decode cX2_mostWished 76 = .ok (.iload 4, 2) := by decide +kernel
theorem dX2_mostWished_78 : decode cX2_mostWished 78 = .ok (.ireturn, 1) := by decide +kernel
theorem dX2_readPapers_0 : decode cX2_readPapers 0 = .ok (.iconst 0, 1) := by decide +kernel
theorem dX2_readPapers_1 : decode cX2_readPapers 1 = .ok (.istore_n 3, 1) := by decide +kernel
theorem dX2_readPapers_2 : decode cX2_readPapers 2 = .ok (.iload_n 3, 1) := by decide +kernel
theorem dX2_readPapers_3 : decode cX2_readPapers 3 = .ok (.aload_n 1, 1) := by decide +kernel
theorem dX2_readPapers_4 : decode cX2_readPapers 4 = .ok (.getfield 51, 3) := by decide +kernel
theorem dX2_readPapers_7 : decode cX2_readPapers 7 = .ok (.if_icmp .ge 102, 3) := by decide +kernel
theorem dX2_readPapers_10 : decode cX2_readPapers 10 = .ok (.aload_n 1, 1) := by decide +kernel
theorem dX2_readPapers_11 : decode cX2_readPapers 11 = .ok (.iload_n 3, 1) := by decide +kernel
theorem dX2_readPapers_12 : decode cX2_readPapers 12 = .ok (.invokevirtual 54, 3) := by decide +kernel
theorem dX2_readPapers_15 : decode cX2_readPapers 15 = .ok (.ifCond .eq 88, 3) := by decide +kernel
theorem dX2_readPapers_18 : decode cX2_readPapers 18 = .ok (.aload_n 1, 1) := by decide +kernel
theorem dX2_readPapers_19 : decode cX2_readPapers 19 = .ok (.invokevirtual 41, 3) := by decide +kernel
theorem dX2_readPapers_22 : decode cX2_readPapers 22 = .ok (.istore 4, 2) := by decide +kernel
theorem dX2_readPapers_24 : decode cX2_readPapers 24 = .ok (.iload 4, 2) := by decide +kernel
theorem dX2_readPapers_26 : decode cX2_readPapers 26 = .ok (.aload_n 2, 1) := by decide +kernel
theorem dX2_readPapers_27 : decode cX2_readPapers 27 = .ok (.bipush 114, 2) := by decide +kernel
theorem dX2_readPapers_29 : decode cX2_readPapers 29 = .ok (.aload_n 1, 1) := by decide +kernel
theorem dX2_readPapers_30 : decode cX2_readPapers 30 = .ok (.iload_n 3, 1) := by decide +kernel
theorem dX2_readPapers_31 : decode cX2_readPapers 31 = .ok (.aload_n 1, 1) := by decide +kernel
theorem dX2_readPapers_32 : decode cX2_readPapers 32 = .ok (.getfield 75, 3) := by decide +kernel
theorem dX2_readPapers_35 : decode cX2_readPapers 35 = .ok (.iload_n 3, 1) := by decide +kernel
theorem dX2_readPapers_36 : decode cX2_readPapers 36 = .ok (.iaload, 1) := by decide +kernel
theorem dX2_readPapers_37 : decode cX2_readPapers 37 = .ok (.iload 4, 2) := by decide +kernel
theorem dX2_readPapers_39 : decode cX2_readPapers 39 = .ok (.invokevirtual 45, 3) := by decide +kernel
theorem dX2_readPapers_42 : decode cX2_readPapers 42 = .ok (.if_icmp .ge 7, 3) := by decide +kernel
theorem dX2_readPapers_45 : decode cX2_readPapers 45 = .ok (.iconst 1, 1) := by decide +kernel
theorem dX2_readPapers_46 : decode cX2_readPapers 46 = .ok (.goto 4, 3) := by decide +kernel
theorem dX2_readPapers_49 : decode cX2_readPapers 49 = .ok (.iconst 0, 1) := by decide +kernel
theorem dX2_readPapers_50 : decode cX2_readPapers 50 = .ok (.istore 5, 2) := by decide +kernel
theorem dX2_readPapers_52 : decode cX2_readPapers 52 = .ok (.iload 5, 2) := by decide +kernel
theorem dX2_readPapers_54 : decode cX2_readPapers 54 = .ok (.ifCond .eq 29, 3) := by decide +kernel
theorem dX2_readPapers_57 : decode cX2_readPapers 57 = .ok (.aload_n 1, 1) := by decide +kernel
theorem dX2_readPapers_58 : decode cX2_readPapers 58 = .ok (.getfield 79, 3) := by decide +kernel
theorem dX2_readPapers_61 : decode cX2_readPapers 61 = .ok (.iload_n 3, 1) := by decide +kernel
theorem dX2_readPapers_62 : decode cX2_readPapers 62 = .ok (.iaload, 1) := by decide +kernel
theorem dX2_readPapers_63 : decode cX2_readPapers 63 = .ok (.ifCond .ne 20, 3) := by decide +kernel
theorem dX2_readPapers_66 : decode cX2_readPapers 66 = .ok (.aload_n 1, 1) := by decide +kernel
theorem dX2_readPapers_67 : decode cX2_readPapers 67 = .ok (.getfield 79, 3) := by decide +kernel
theorem dX2_readPapers_70 : decode cX2_readPapers 70 = .ok (.iload_n 3, 1) := by decide +kernel
theorem dX2_readPapers_71 : decode cX2_readPapers 71 = .ok (.iconst 1, 1) := by decide +kernel
theorem dX2_readPapers_72 : decode cX2_readPapers 72 = .ok (.iastore, 1) := by decide +kernel
theorem dX2_readPapers_73 : decode cX2_readPapers 73 = .ok (.aload_n 0, 1) := by decide +kernel
theorem dX2_readPapers_74 : decode cX2_readPapers 74 = .ok (.dup, 1) := by decide +kernel
theorem dX2_readPapers_75 : decode cX2_readPapers 75 = .ok (.getfield 19, 3) := by decide +kernel
theorem dX2_readPapers_78 : decode cX2_readPapers 78 = .ok (.iconst 1, 1) := by decide +kernel
theorem dX2_readPapers_79 : decode cX2_readPapers 79 = .ok (.iadd, 1) := by decide +kernel
theorem dX2_readPapers_80 : decode cX2_readPapers 80 = .ok (.putfield 19, 3) := by decide +kernel
theorem dX2_readPapers_83 : decode cX2_readPapers 83 = .ok (.aload_n 1, 1) := by decide +kernel
theorem dX2_readPapers_84 : decode cX2_readPapers 84 = .ok (.getfield 82, 3) := by decide +kernel
theorem dX2_readPapers_87 : decode cX2_readPapers 87 = .ok (.iload_n 3, 1) := by decide +kernel
theorem dX2_readPapers_88 : decode cX2_readPapers 88 = .ok (.sipush 9999, 3) := by decide +kernel
theorem dX2_readPapers_91 : decode cX2_readPapers 91 = .ok (.aload_n 1, 1) := by decide +kernel
theorem dX2_readPapers_92 : decode cX2_readPapers 92 = .ok (.getfield 82, 3) := by decide +kernel
theorem dX2_readPapers_95 : decode cX2_readPapers 95 = .ok (.iload_n 3, 1) := by decide +kernel
theorem dX2_readPapers_96 : decode cX2_readPapers 96 = .ok (.iaload, 1) := by decide +kernel
theorem dX2_readPapers_97 : decode cX2_readPapers 97 = .ok (.iconst 1, 1) := by decide +kernel
theorem dX2_readPapers_98 : decode cX2_readPapers 98 = .ok (.iadd, 1) := by decide +kernel
theorem dX2_readPapers_99 : decode cX2_readPapers 99 = .ok (.invokestatic 69, 3) := by decide +kernel
theorem dX2_readPapers_102 : decode cX2_readPapers 102 = .ok (.iastore, 1) := by decide +kernel
theorem dX2_readPapers_103 : decode cX2_readPapers 103 = .ok (.iinc 3 1, 3) := by decide +kernel
theorem dX2_readPapers_106 : decode cX2_readPapers 106 = .ok (.goto (-104), 3) := by decide +kernel
theorem dX2_readPapers_109 : decode cX2_readPapers 109 = .ok (.return_, 1) := by decide +kernel
theorem dX3_init_0 : decode cX3_init 0 = .ok (.aload_n 0, 1) := by decide +kernel
theorem dX3_init_1 : decode cX3_init 1 = .ok (.invokespecial 3, 3) := by decide +kernel
theorem dX3_init_4 : decode cX3_init 4 = .ok (.aload_n 0, 1) := by decide +kernel
theorem dX3_init_5 : decode cX3_init 5 = .ok (.bipush 16, 2) := by decide +kernel
theorem dX3_init_7 : decode cX3_init 7 = .ok (.newarray .int, 2) := by decide +kernel
theorem dX3_init_9 : decode cX3_init 9 = .ok (.putfield 11, 3) := by decide +kernel
theorem dX3_init_12 : decode cX3_init 12 = .ok (.aload_n 0, 1) := by decide +kernel
theorem dX3_init_13 : decode cX3_init 13 = .ok (.bipush 16, 2) := by decide +kernel
theorem dX3_init_15 : decode cX3_init 15 = .ok (.newarray .int, 2) := by decide +kernel
theorem dX3_init_17 : decode cX3_init 17 = .ok (.putfield 15, 3) := by decide +kernel
theorem dX3_init_20 : decode cX3_init 20 = .ok (.aload_n 0, 1) := by decide +kernel
theorem dX3_init_21 : decode cX3_init 21 = .ok (.bipush 16, 2) := by decide +kernel
theorem dX3_init_23 : decode cX3_init 23 = .ok (.newarray .int, 2) := by decide +kernel
theorem dX3_init_25 : decode cX3_init 25 = .ok (.putfield 18, 3) := by decide +kernel
theorem dX3_init_28 : decode cX3_init 28 = .ok (.aload_n 0, 1) := by decide +kernel
theorem dX3_init_29 : decode cX3_init 29 = .ok (.bipush 16, 2) := by decide +kernel
theorem dX3_init_31 : decode cX3_init 31 = .ok (.newarray .int, 2) := by decide +kernel
theorem dX3_init_33 : decode cX3_init 33 = .ok (.putfield 21, 3) := by decide +kernel
theorem dX3_init_36 : decode cX3_init 36 = .ok (.aload_n 0, 1) := by decide +kernel
theorem dX3_init_37 : decode cX3_init 37 = .ok (.sipush 512, 3) := by decide +kernel
theorem dX3_init_40 : decode cX3_init 40 = .ok (.newarray .int, 2) := by decide +kernel
theorem dX3_init_42 : decode cX3_init 42 = .ok (.putfield 24, 3) := by decide +kernel
theorem dX3_init_45 : decode cX3_init 45 = .ok (.aload_n 0, 1) := by decide +kernel
theorem dX3_init_46 : decode cX3_init 46 = .ok (.bipush 64, 2) := by decide +kernel
theorem dX3_init_48 : decode cX3_init 48 = .ok (.newarray .int, 2) := by decide +kernel
theorem dX3_init_50 : decode cX3_init 50 = .ok (.putfield 27, 3) := by decide +kernel
theorem dX3_init_53 : decode cX3_init 53 = .ok (.aload_n 0, 1) := by decide +kernel
theorem dX3_init_54 : decode cX3_init 54 = .ok (.bipush 10, 2) := by decide +kernel
theorem dX3_init_56 : decode cX3_init 56 = .ok (.newarray .int, 2) := by decide +kernel
theorem dX3_init_58 : decode cX3_init 58 = .ok (.putfield 30, 3) := by decide +kernel
theorem dX3_init_61 : decode cX3_init 61 = .ok (.aload_n 0, 1) := by decide +kernel
theorem dX3_init_62 : decode cX3_init 62 = .ok (.iconst 0, 1) := by decide +kernel
theorem dX3_init_63 : decode cX3_init 63 = .ok (.putfield 33, 3) := by decide +kernel
theorem dX3_init_66 : decode cX3_init 66 = .ok (.aload_n 0, 1) := by decide +kernel
theorem dX3_init_67 : decode cX3_init 67 = .ok (.iconst 0, 1) := by decide +kernel
theorem dX3_init_68 : decode cX3_init 68 = .ok (.putfield 37, 3) := by decide +kernel
theorem dX3_init_71 : decode cX3_init 71 = .ok (.return_, 1) := by decide +kernel
theorem dX3_clear_0 : decode cX3_clear 0 = .ok (.aload_n 0, 1) := by decide +kernel
theorem dX3_clear_1 : decode cX3_clear 1 = .ok (.iconst 0, 1) := by decide +kernel
theorem dX3_clear_2 : decode cX3_clear 2 = .ok (.putfield 33, 3) := by decide +kernel
theorem dX3_clear_5 : decode cX3_clear 5 = .ok (.aload_n 0, 1) := by decide +kernel
theorem dX3_clear_6 : decode cX3_clear 6 = .ok (.iconst 0, 1) := by decide +kernel
theorem dX3_clear_7 : decode cX3_clear 7 = .ok (.putfield 37, 3) := by decide +kernel
theorem dX3_clear_10 : decode cX3_clear 10 = .ok (.return_, 1) := by decide +kernel
theorem dX3_emit_0 : decode cX3_emit 0 = .ok (.aload_n 0, 1) := by decide +kernel
theorem dX3_emit_1 : decode cX3_emit 1 = .ok (.getfield 37, 3) := by decide +kernel
theorem dX3_emit_4 : decode cX3_emit 4 = .ok (.ifCond .lt 33, 3) := by decide +kernel
theorem dX3_emit_7 : decode cX3_emit 7 = .ok (.aload_n 0, 1) := by decide +kernel
theorem dX3_emit_8 : decode cX3_emit 8 = .ok (.getfield 37, 3) := by decide +kernel
theorem dX3_emit_11 : decode cX3_emit 11 = .ok (.sipush 512, 3) := by decide +kernel
theorem dX3_emit_14 : decode cX3_emit 14 = .ok (.if_icmp .ge 23, 3) := by decide +kernel
theorem dX3_emit_17 : decode cX3_emit 17 = .ok (.aload_n 0, 1) := by decide +kernel
theorem dX3_emit_18 : decode cX3_emit 18 = .ok (.getfield 24, 3) := by decide +kernel
theorem dX3_emit_21 : decode cX3_emit 21 = .ok (.aload_n 0, 1) := by decide +kernel
theorem dX3_emit_22 : decode cX3_emit 22 = .ok (.getfield 37, 3) := by decide +kernel
theorem dX3_emit_25 : decode cX3_emit 25 = .ok (.iload_n 1, 1) := by decide +kernel
theorem dX3_emit_26 : decode cX3_emit 26 = .ok (.iastore, 1) := by decide +kernel
theorem dX3_emit_27 : decode cX3_emit 27 = .ok (.aload_n 0, 1) := by decide +kernel
theorem dX3_emit_28 : decode cX3_emit 28 = .ok (.dup, 1) := by decide +kernel
theorem dX3_emit_29 : decode cX3_emit 29 = .ok (.getfield 37, 3) := by decide +kernel
theorem dX3_emit_32 : decode cX3_emit 32 = .ok (.iconst 1, 1) := by decide +kernel
theorem dX3_emit_33 : decode cX3_emit 33 = .ok (.iadd, 1) := by decide +kernel
theorem dX3_emit_34 : decode cX3_emit 34 = .ok (.putfield 37, 3) := by decide +kernel
theorem dX3_emit_37 : decode cX3_emit 37 = .ok (.return_, 1) := by decide +kernel
theorem dX3_emitPair_0 : decode cX3_emitPair 0 = .ok (.aload_n 0, 1) := by decide +kernel
theorem dX3_emitPair_1 : decode cX3_emitPair 1 = .ok (.iload_n 1, 1) := by decide +kernel
theorem dX3_emitPair_2 : decode cX3_emitPair 2 = .ok (.invokevirtual 40, 3) := by decide +kernel
theorem dX3_emitPair_5 : decode cX3_emitPair 5 = .ok (.aload_n 0, 1) := by decide +kernel
theorem dX3_emitPair_6 : decode cX3_emitPair 6 = .ok (.iload_n 2, 1) := by decide +kernel
theorem dX3_emitPair_7 : decode cX3_emitPair 7 = .ok (.invokevirtual 40, 3) := by decide +kernel
theorem dX3_emitPair_10 : decode cX3_emitPair 10 = .ok (.return_, 1) := by decide +kernel
theorem dX3_emitJump_0 : decode cX3_emitJump 0 = .ok (.aload_n 0, 1) := by decide +kernel
theorem dX3_emitJump_1 : decode cX3_emitJump 1 = .ok (.iload_n 1, 1) := by decide +kernel
theorem dX3_emitJump_2 : decode cX3_emitJump 2 = .ok (.iconst 0, 1) := by decide +kernel
theorem dX3_emitJump_3 : decode cX3_emitJump 3 = .ok (.invokevirtual 44, 3) := by decide +kernel
theorem dX3_emitJump_6 : decode cX3_emitJump 6 = .ok (.aload_n 0, 1) := by decide +kernel
theorem dX3_emitJump_7 : decode cX3_emitJump 7 = .ok (.getfield 37, 3) := by decide +kernel
theorem dX3_emitJump_10 : decode cX3_emitJump 10 = .ok (.iconst 1, 1) := by decide +kernel
theorem dX3_emitJump_11 : decode cX3_emitJump 11 = .ok (.isub, 1) := by decide +kernel
theorem dX3_emitJump_12 : decode cX3_emitJump 12 = .ok (.ireturn, 1) := by decide +kernel
theorem dX3_land_0 : decode cX3_land 0 = .ok (.iload_n 1, 1) := by decide +kernel
theorem dX3_land_1 : decode cX3_land 1 = .ok (.ifCond .lt 20, 3) := by decide +kernel
theorem dX3_land_4 : decode cX3_land 4 = .ok (.iload_n 1, 1) := by decide +kernel
theorem dX3_land_5 : decode cX3_land 5 = .ok (.sipush 512, 3) := by decide +kernel
theorem dX3_land_8 : decode cX3_land 8 = .ok (.if_icmp .ge 13, 3) := by decide +kernel
theorem dX3_land_11 : decode cX3_land 11 = .ok (.aload_n 0, 1) := by decide +kernel
theorem dX3_land_12 : decode cX3_land 12 = .ok (.getfield 24, 3) := by decide +kernel
theorem dX3_land_15 : decode cX3_land 15 = .ok (.iload_n 1, 1) := by decide +kernel
theorem dX3_land_16 : decode cX3_land 16 = .ok (.aload_n 0, 1) := by decide +kernel
theorem dX3_land_17 : decode cX3_land 17 = .ok (.getfield 37, 3) := by decide +kernel
theorem dX3_land_20 : decode cX3_land 20 = .ok (.iastore, 1) := by decide +kernel
theorem dX3_land_21 : decode cX3_land 21 = .ok (.return_, 1) := by decide +kernel
theorem dX3_addRule_0 : decode cX3_addRule 0 = .ok (.aload_n 0, 1) := by decide +kernel
theorem dX3_addRule_1 : decode cX3_addRule 1 = .ok (.getfield 33, 3) := by decide +kernel
theorem dX3_addRule_4 : decode cX3_addRule 4 = .ok (.ifCond .lt 12, 3) := by decide +kernel
theorem dX3_addRule_7 : decode cX3_addRule 7 = .ok (.aload_n 0, 1) := by decide +kernel
theorem dX3_addRule_8 : decode cX3_addRule 8 = .ok (.getfield 33, 3) := by decide +kernel
theorem dX3_addRule_11 : decode cX3_addRule 11 = .ok (.bipush 16, 2) := by decide +kernel
theorem dX3_addRule_13 : decode cX3_addRule 13 = .ok (.if_icmp .lt 4, 3) := by decide +kernel
theorem dX3_addRule_16 : decode cX3_addRule 16 = .ok (.return_, 1) := by decide +kernel
theorem dX3_addRule_17 : decode cX3_addRule 17 = .ok (.aload_n 0, 1) := by decide +kernel
theorem dX3_addRule_18 : decode cX3_addRule 18 = .ok (.getfield 11, 3) := by decide +kernel
theorem dX3_addRule_21 : decode cX3_addRule 21 = .ok (.aload_n 0, 1) := by decide +kernel
theorem dX3_addRule_22 : decode cX3_addRule 22 = .ok (.getfield 33, 3) := by decide +kernel
theorem dX3_addRule_25 : decode cX3_addRule 25 = .ok (.iload_n 1, 1) := by decide +kernel
theorem dX3_addRule_26 : decode cX3_addRule 26 = .ok (.iastore, 1) := by decide +kernel
theorem dX3_addRule_27 : decode cX3_addRule 27 = .ok (.aload_n 0, 1) := by decide +kernel
theorem dX3_addRule_28 : decode cX3_addRule 28 = .ok (.getfield 15, 3) := by decide +kernel
theorem dX3_addRule_31 : decode cX3_addRule 31 = .ok (.aload_n 0, 1) := by decide +kernel
theorem dX3_addRule_32 : decode cX3_addRule 32 = .ok (.getfield 33, 3) := by decide +kernel
theorem dX3_addRule_35 : decode cX3_addRule 35 = .ok (.iload_n 2, 1) := by decide +kernel
theorem dX3_addRule_36 : decode cX3_addRule 36 = .ok (.iastore, 1) := by decide +kernel
theorem dX3_addRule_37 : decode cX3_addRule 37 = .ok (.aload_n 0, 1) := by decide +kernel
theorem dX3_addRule_38 : decode cX3_addRule 38 = .ok (.getfield 18, 3) := by decide +kernel
theorem dX3_addRule_41 : decode cX3_addRule 41 = .ok (.aload_n 0, 1) := by decide +kernel
theorem dX3_addRule_42 : decode cX3_addRule 42 = .ok (.getfield 33, 3) := by decide +kernel
theorem dX3_addRule_45 : decode cX3_addRule 45 = .ok (.iload_n 3, 1) := by decide +kernel
theorem dX3_addRule_46 : decode cX3_addRule 46 = .ok (.iastore, 1) := by decide +kernel
theorem dX3_addRule_47 : decode cX3_addRule 47 = .ok (.aload_n 0, 1) := by decide +kernel
theorem dX3_addRule_48 : decode cX3_addRule 48 = .ok (.getfield 21, 3) := by decide +kernel
theorem dX3_addRule_51 : decode cX3_addRule 51 = .ok (.aload_n 0, 1) := by decide +kernel
theorem dX3_addRule_52 : decode cX3_addRule 52 = .ok (.getfield 33, 3) := by decide +kernel
theorem dX3_addRule_55 : decode cX3_addRule 55 = .ok (.aload_n 0, 1) := by decide +kernel
theorem dX3_addRule_56 : decode cX3_addRule 56 = .ok (.getfield 37, 3) := by decide +kernel
theorem dX3_addRule_59 : decode cX3_addRule 59 = .ok (.iastore, 1) := by decide +kernel
theorem dX3_addRule_60 : decode cX3_addRule 60 = .ok (.aload_n 0, 1) := by decide +kernel
theorem dX3_addRule_61 : decode cX3_addRule 61 = .ok (.dup, 1) := by decide +kernel
theorem dX3_addRule_62 : decode cX3_addRule 62 = .ok (.getfield 33, 3) := by decide +kernel
theorem dX3_addRule_65 : decode cX3_addRule 65 = .ok (.iconst 1, 1) := by decide +kernel
theorem dX3_addRule_66 : decode cX3_addRule 66 = .ok (.iadd, 1) := by decide +kernel
theorem dX3_addRule_67 : decode cX3_addRule 67 = .ok (.putfield 33, 3) := by decide +kernel
theorem dX3_addRule_70 : decode cX3_addRule 70 = .ok (.return_, 1) := by decide +kernel
theorem dX3_valueOf_0 : decode cX3_valueOf 0 = .ok (.aload_n 0, 1) := by decide +kernel
theorem dX3_valueOf_1 : decode cX3_valueOf 1 = .ok (.aload_n 2, 1) := by decide +kernel
theorem dX3_valueOf_2 : decode cX3_valueOf 2 = .ok (.iload_n 3, 1) := by decide +kernel
theorem dX3_valueOf_3 : decode cX3_valueOf 3 = .ok (.iload 4, 2) := by decide +kernel
theorem dX3_valueOf_5 : decode cX3_valueOf 5 = .ok (.iload 5, 2) := by decide +kernel
theorem dX3_valueOf_7 : decode cX3_valueOf 7 = .ok (.invokevirtual 48, 3) := by decide +kernel
theorem dX3_valueOf_10 : decode cX3_valueOf 10 = .ok (.iconst 0, 1) := by decide +kernel
theorem dX3_valueOf_11 : decode cX3_valueOf 11 = .ok (.istore 6, 2) := by decide +kernel
theorem dX3_valueOf_13 : decode cX3_valueOf 13 = .ok (.iload 6, 2) := by decide +kernel
theorem dX3_valueOf_15 : decode cX3_valueOf 15 = .ok (.aload_n 0, 1) := by decide +kernel
theorem dX3_valueOf_16 : decode cX3_valueOf 16 = .ok (.getfield 33, 3) := by decide +kernel
theorem dX3_valueOf_19 : decode cX3_valueOf 19 = .ok (.if_icmp .ge 67, 3) := by decide +kernel
theorem dX3_valueOf_22 : decode cX3_valueOf 22 = .ok (.iload 6, 2) := by decide +kernel
theorem dX3_valueOf_24 : decode cX3_valueOf 24 = .ok (.bipush 16, 2) := by decide +kernel
theorem dX3_valueOf_26 : decode cX3_valueOf 26 = .ok (.if_icmp .ge 60, 3) := by decide +kernel
theorem dX3_valueOf_29 : decode cX3_valueOf 29 = .ok (.aload_n 0, 1) := by decide +kernel
theorem dX3_valueOf_30 : decode cX3_valueOf 30 = .ok (.getfield 11, 3) := by decide +kernel
theorem dX3_valueOf_33 : decode cX3_valueOf 33 = .ok (.iload 6, 2) := by decide +kernel
theorem dX3_valueOf_35 : decode cX3_valueOf 35 = .ok (.iaload, 1) := by decide +kernel
theorem dX3_valueOf_36 : decode cX3_valueOf 36 = .ok (.iload_n 1, 1) := by decide +kernel
theorem dX3_valueOf_37 : decode cX3_valueOf 37 = .ok (.if_icmp .ne 43, 3) := by decide +kernel
theorem dX3_valueOf_40 : decode cX3_valueOf 40 = .ok (.aload_n 0, 1) := by decide +kernel
theorem dX3_valueOf_41 : decode cX3_valueOf 41 = .ok (.aload_n 0, 1) := by decide +kernel
theorem dX3_valueOf_42 : decode cX3_valueOf 42 = .ok (.getfield 18, 3) := by decide +kernel
theorem dX3_valueOf_45 : decode cX3_valueOf 45 = .ok (.iload 6, 2) := by decide +kernel
theorem dX3_valueOf_47 : decode cX3_valueOf 47 = .ok (.iaload, 1) := by decide +kernel
theorem dX3_valueOf_48 : decode cX3_valueOf 48 = .ok (.aload_n 0, 1) := by decide +kernel
theorem dX3_valueOf_49 : decode cX3_valueOf 49 = .ok (.getfield 21, 3) := by decide +kernel
theorem dX3_valueOf_52 : decode cX3_valueOf 52 = .ok (.iload 6, 2) := by decide +kernel
theorem dX3_valueOf_54 : decode cX3_valueOf 54 = .ok (.iaload, 1) := by decide +kernel
theorem dX3_valueOf_55 : decode cX3_valueOf 55 = .ok (.invokevirtual 52, 3) := by decide +kernel
theorem dX3_valueOf_58 : decode cX3_valueOf 58 = .ok (.ifCond .eq 22, 3) := by decide +kernel
theorem dX3_valueOf_61 : decode cX3_valueOf 61 = .ok (.aload_n 0, 1) := by decide +kernel
theorem dX3_valueOf_62 : decode cX3_valueOf 62 = .ok (.aload_n 0, 1) := by decide +kernel
theorem dX3_valueOf_63 : decode cX3_valueOf 63 = .ok (.getfield 15, 3) := by decide +kernel
theorem dX3_valueOf_66 : decode cX3_valueOf 66 = .ok (.iload 6, 2) := by decide +kernel
theorem dX3_valueOf_68 : decode cX3_valueOf 68 = .ok (.iaload, 1) := by decide +kernel
theorem dX3_valueOf_69 : decode cX3_valueOf 69 = .ok (.aload_n 0, 1) := by decide +kernel
theorem dX3_valueOf_70 : decode cX3_valueOf 70 = .ok (.getfield 18, 3) := by decide +kernel
theorem dX3_valueOf_73 : decode cX3_valueOf 73 = .ok (.iload 6, 2) := by decide +kernel
theorem dX3_valueOf_75 : decode cX3_valueOf 75 = .ok (.iaload, 1) := by decide +kernel
theorem dX3_valueOf_76 : decode cX3_valueOf 76 = .ok (.invokevirtual 52, 3) := by decide +kernel
theorem dX3_valueOf_79 : decode cX3_valueOf 79 = .ok (.ireturn, 1) := by decide +kernel
theorem dX3_valueOf_80 : decode cX3_valueOf 80 = .ok (.iinc 6 1, 3) := by decide +kernel
theorem dX3_valueOf_83 : decode cX3_valueOf 83 = .ok (.goto (-70), 3) := by decide +kernel
theorem dX3_valueOf_86 : decode cX3_valueOf 86 = .ok (.iconst 0, 1) := by decide +kernel
theorem dX3_valueOf_87 : decode cX3_valueOf 87 = .ok (.ireturn, 1) := by decide +kernel
theorem dX3_tellFacts_0 : decode cX3_tellFacts 0 = .ok (.aload_n 1, 1) := by decide +kernel
theorem dX3_tellFacts_1 : decode cX3_tellFacts 1 = .ok (.iload_n 2, 1) := by decide +kernel
theorem dX3_tellFacts_2 : decode cX3_tellFacts 2 = .ok (.invokevirtual 56, 3) := by decide +kernel
theorem dX3_tellFacts_5 : decode cX3_tellFacts 5 = .ok (.istore 5, 2) := by decide +kernel
theorem dX3_tellFacts_7 : decode cX3_tellFacts 7 = .ok (.aload_n 1, 1) := by decide +kernel
theorem dX3_tellFacts_8 : decode cX3_tellFacts 8 = .ok (.iload_n 3, 1) := by decide +kernel
theorem dX3_tellFacts_9 : decode cX3_tellFacts 9 = .ok (.invokevirtual 62, 3) := by decide +kernel
theorem dX3_tellFacts_12 : decode cX3_tellFacts 12 = .ok (.istore 6, 2) := by decide +kernel
theorem dX3_tellFacts_14 : decode cX3_tellFacts 14 = .ok (.aload_n 0, 1) := by decide +kernel
theorem dX3_tellFacts_15 : decode cX3_tellFacts 15 = .ok (.getfield 30, 3) := by decide +kernel
theorem dX3_tellFacts_18 : decode cX3_tellFacts 18 = .ok (.iconst 0, 1) := by decide +kernel
theorem dX3_tellFacts_19 : decode cX3_tellFacts 19 = .ok (.iload_n 2, 1) := by decide +kernel
theorem dX3_tellFacts_20 : decode cX3_tellFacts 20 = .ok (.iastore, 1) := by decide +kernel
theorem dX3_tellFacts_21 : decode cX3_tellFacts 21 = .ok (.aload_n 0, 1) := by decide +kernel
theorem dX3_tellFacts_22 : decode cX3_tellFacts 22 = .ok (.getfield 30, 3) := by decide +kernel
theorem dX3_tellFacts_25 : decode cX3_tellFacts 25 = .ok (.iconst 1, 1) := by decide +kernel
theorem dX3_tellFacts_26 : decode cX3_tellFacts 26 = .ok (.iload 5, 2) := by decide +kernel
theorem dX3_tellFacts_28 : decode cX3_tellFacts 28 = .ok (.ifCond .eq 12, 3) := by decide +kernel
theorem dX3_tellFacts_31 : decode cX3_tellFacts 31 = .ok (.aload_n 1, 1) := by decide +kernel
theorem dX3_tellFacts_32 : decode cX3_tellFacts 32 = .ok (.getfield 65, 3) := by decide +kernel
theorem dX3_tellFacts_35 : decode cX3_tellFacts 35 = .ok (.iload_n 2, 1) := by decide +kernel
theorem dX3_tellFacts_36 : decode cX3_tellFacts 36 = .ok (.iaload, 1) := by decide +kernel
theorem dX3_tellFacts_37 : decode cX3_tellFacts 37 = .ok (.goto 5, 3) := by decide +kernel
theorem dX3_tellFacts_40 : decode cX3_tellFacts 40 = .ok (.bipush 16, 2) := by decide +kernel
theorem dX3_tellFacts_42 : decode cX3_tellFacts 42 = .ok (.iastore, 1) := by decide +kernel
theorem dX3_tellFacts_43 : decode cX3_tellFacts 43 = .ok (.aload_n 0, 1) := by decide +kernel
theorem dX3_tellFacts_44 : decode cX3_tellFacts 44 = .ok (.getfield 30, 3) := by decide +kernel
theorem dX3_tellFacts_47 : decode cX3_tellFacts 47 = .ok (.iconst 2, 1) := by decide +kernel
theorem dX3_tellFacts_48 : decode cX3_tellFacts 48 = .ok (.iload 5, 2) := by decide +kernel
theorem dX3_tellFacts_50 : decode cX3_tellFacts 50 = .ok (.ifCond .eq 12, 3) := by decide +kernel
theorem dX3_tellFacts_53 : decode cX3_tellFacts 53 = .ok (.aload_n 1, 1) := by decide +kernel
theorem dX3_tellFacts_54 : decode cX3_tellFacts 54 = .ok (.getfield 68, 3) := by decide +kernel
theorem dX3_tellFacts_57 : decode cX3_tellFacts 57 = .ok (.iload_n 2, 1) := by decide +kernel
theorem dX3_tellFacts_58 : decode cX3_tellFacts 58 = .ok (.iaload, 1) := by decide +kernel
theorem dX3_tellFacts_59 : decode cX3_tellFacts 59 = .ok (.goto 4, 3) := by decide +kernel
theorem dX3_tellFacts_62 : decode cX3_tellFacts 62 = .ok (.iconst 0, 1) := by decide +kernel
theorem dX3_tellFacts_63 : decode cX3_tellFacts 63 = .ok (.iastore, 1) := by decide +kernel
theorem dX3_tellFacts_64 : decode cX3_tellFacts 64 = .ok (.aload_n 0, 1) := by decide +kernel
theorem dX3_tellFacts_65 : decode cX3_tellFacts 65 = .ok (.getfield 30, 3) := by decide +kernel
theorem dX3_tellFacts_68 : decode cX3_tellFacts 68 = .ok (.iconst 3, 1) := by decide +kernel
theorem dX3_tellFacts_69 : decode cX3_tellFacts 69 = .ok (.iload_n 3, 1) := by decide +kernel
theorem dX3_tellFacts_70 : decode cX3_tellFacts 70 = .ok (.iastore, 1) := by decide +kernel
theorem dX3_tellFacts_71 : decode cX3_tellFacts 71 = .ok (.aload_n 0, 1) := by decide +kernel
theorem dX3_tellFacts_72 : decode cX3_tellFacts 72 = .ok (.getfield 30, 3) := by decide +kernel
theorem dX3_tellFacts_75 : decode cX3_tellFacts 75 = .ok (.iconst 4, 1) := by decide +kernel
theorem dX3_tellFacts_76 : decode cX3_tellFacts 76 = .ok (.iload 6, 2) := by decide +kernel
theorem dX3_tellFacts_78 : decode cX3_tellFacts 78 = .ok (.ifCond .eq 19, 3) := by decide +kernel
theorem dX3_tellFacts_81 : decode cX3_tellFacts 81 = .ok (.aload_n 1, 1) := by decide +kernel
theorem dX3_tellFacts_82 : decode cX3_tellFacts 82 = .ok (.getfield 71, 3) := by decide +kernel
theorem dX3_tellFacts_85 : decode cX3_tellFacts 85 = .ok (.iload_n 3, 1) := by decide +kernel
theorem dX3_tellFacts_86 : decode cX3_tellFacts 86 = .ok (.iaload, 1) := by decide +kernel
theorem dX3_tellFacts_87 : decode cX3_tellFacts 87 = .ok (.aload_n 1, 1) := by decide +kernel
theorem dX3_tellFacts_88 : decode cX3_tellFacts 88 = .ok (.getfield 74, 3) := by decide +kernel
theorem dX3_tellFacts_91 : decode cX3_tellFacts 91 = .ok (.iload_n 3, 1) := by decide +kernel
theorem dX3_tellFacts_92 : decode cX3_tellFacts 92 = .ok (.iaload, 1) := by decide +kernel
theorem dX3_tellFacts_93 : decode cX3_tellFacts 93 = .ok (.isub, 1) := by decide +kernel
theorem dX3_tellFacts_94 : decode cX3_tellFacts 94 = .ok (.goto 4, 3) := by decide +kernel
theorem dX3_tellFacts_97 : decode cX3_tellFacts 97 = .ok (.iconst 0, 1) := by decide +kernel
theorem dX3_tellFacts_98 : decode cX3_tellFacts 98 = .ok (.iastore, 1) := by decide +kernel
theorem dX3_tellFacts_99 : decode cX3_tellFacts 99 = .ok (.aload_n 0, 1) := by decide +kernel
theorem dX3_tellFacts_100 : decode cX3_tellFacts 100 = .ok (.getfield 30, 3) := by decide +kernel
theorem dX3_tellFacts_103 : decode cX3_tellFacts 103 = .ok (.iconst 5, 1) := by decide +kernel
theorem dX3_tellFacts_104 : decode cX3_tellFacts 104 = .ok (.iload 6, 2) := by decide +kernel
theorem dX3_tellFacts_106 : decode cX3_tellFacts 106 = .ok (.ifCond .eq 12, 3) := by decide +kernel
theorem dX3_tellFacts_109 : decode cX3_tellFacts 109 = .ok (.aload_n 1, 1) := by decide +kernel
theorem dX3_tellFacts_110 : decode cX3_tellFacts 110 = .ok (.getfield 77, 3) := by decide +kernel
theorem dX3_tellFacts_113 : decode cX3_tellFacts 113 = .ok (.iload_n 3, 1) := by decide +kernel
theorem dX3_tellFacts_114 : decode cX3_tellFacts 114 = .ok (.iaload, 1) := by decide +kernel
theorem dX3_tellFacts_115 : decode cX3_tellFacts 115 = .ok (.goto 4, 3) := by decide +kernel
theorem dX3_tellFacts_118 : decode cX3_tellFacts 118 = .ok (.iconst 0, 1) := by decide +kernel
theorem dX3_tellFacts_119 : decode cX3_tellFacts 119 = .ok (.iastore, 1) := by decide +kernel
theorem dX3_tellFacts_120 : decode cX3_tellFacts 120 = .ok (.aload_n 0, 1) := by decide +kernel
theorem dX3_tellFacts_121 : decode cX3_tellFacts 121 = .ok (.getfield 30, 3) := by decide +kernel
theorem dX3_tellFacts_124 : decode cX3_tellFacts 124 = .ok (.bipush 6, 2) := by decide +kernel
theorem dX3_tellFacts_126 : decode cX3_tellFacts 126 = .ok (.iload 5, 2) := by decide +kernel
theorem dX3_tellFacts_128 : decode cX3_tellFacts 128 = .ok (.ifCond .eq 12, 3) := by decide +kernel
theorem dX3_tellFacts_131 : decode cX3_tellFacts 131 = .ok (.aload_n 1, 1) := by decide +kernel
theorem dX3_tellFacts_132 : decode cX3_tellFacts 132 = .ok (.getfield 80, 3) := by decide +kernel
theorem dX3_tellFacts_135 : decode cX3_tellFacts 135 = .ok (.iload_n 2, 1) := by decide +kernel
theorem dX3_tellFacts_136 : decode cX3_tellFacts 136 = .ok (.iaload, 1) := by decide +kernel
theorem dX3_tellFacts_137 : decode cX3_tellFacts 137 = .ok (.goto 4, 3) := by decide +kernel
theorem dX3_tellFacts_140 : decode cX3_tellFacts 140 = .ok (.iconst 0, 1) := by decide +kernel
theorem dX3_tellFacts_141 : decode cX3_tellFacts 141 = .ok (.iastore, 1) := by decide +kernel
theorem dX3_tellFacts_142 : decode cX3_tellFacts 142 = .ok (.aload_n 0, 1) := by decide +kernel
theorem dX3_tellFacts_143 : decode cX3_tellFacts 143 = .ok (.getfield 30, 3) := by decide +kernel
theorem dX3_tellFacts_146 : decode cX3_tellFacts 146 = .ok (.bipush 7, 2) := by decide +kernel
theorem dX3_tellFacts_148 : decode cX3_tellFacts 148 = .ok (.iload 5, 2) := by decide +kernel
theorem dX3_tellFacts_150 : decode cX3_tellFacts 150 = .ok (.ifCond .eq 12, 3) := by decide +kernel
theorem dX3_tellFacts_153 : decode cX3_tellFacts 153 = .ok (.aload_n 1, 1) := by decide +kernel
theorem dX3_tellFacts_154 : decode cX3_tellFacts 154 = .ok (.getfield 83, 3) := by decide +kernel
theorem dX3_tellFacts_157 : decode cX3_tellFacts 157 = .ok (.iload_n 2, 1) := by decide +kernel
theorem dX3_tellFacts_158 : decode cX3_tellFacts 158 = .ok (.iaload, 1) := by decide +kernel
theorem dX3_tellFacts_159 : decode cX3_tellFacts 159 = .ok (.goto 4, 3) := by decide +kernel
theorem dX3_tellFacts_162 : decode cX3_tellFacts 162 = .ok (.iconst 0, 1) := by decide +kernel
theorem dX3_tellFacts_163 : decode cX3_tellFacts 163 = .ok (.iastore, 1) := by decide +kernel
theorem dX3_tellFacts_164 : decode cX3_tellFacts 164 = .ok (.aload_n 0, 1) := by decide +kernel
theorem dX3_tellFacts_165 : decode cX3_tellFacts 165 = .ok (.getfield 30, 3) := by decide +kernel
theorem dX3_tellFacts_168 : decode cX3_tellFacts 168 = .ok (.bipush 8, 2) := by decide +kernel
theorem dX3_tellFacts_170 : decode cX3_tellFacts 170 = .ok (.aload_n 1, 1) := by decide +kernel
theorem dX3_tellFacts_171 : decode cX3_tellFacts 171 = .ok (.getfield 86, 3) := by decide +kernel
theorem dX3_tellFacts_174 : decode cX3_tellFacts 174 = .ok (.bipush 100, 2) := by decide +kernel
theorem dX3_tellFacts_176 : decode cX3_tellFacts 176 = .ok (.irem, 1) := by decide +kernel
theorem dX3_tellFacts_177 : decode cX3_tellFacts 177 = .ok (.iastore, 1) := by decide +kernel
theorem dX3_tellFacts_178 : decode cX3_tellFacts 178 = .ok (.aload_n 0, 1) := by decide +kernel
theorem dX3_tellFacts_179 : decode cX3_tellFacts 179 = .ok (.getfield 30, 3) := by decide +kernel
theorem dX3_tellFacts_182 : decode cX3_tellFacts 182 = .ok (.bipush 9, 2) := by decide +kernel
theorem dX3_tellFacts_184 : decode cX3_tellFacts 184 = .ok (.iload 4, 2) := by decide +kernel
theorem dX3_tellFacts_186 : decode cX3_tellFacts 186 = .ok (.iastore, 1) := by decide +kernel
theorem dX3_tellFacts_187 : decode cX3_tellFacts 187 = .ok (.return_, 1) := by decide +kernel
theorem dX3_run_0 : decode cX3_run 0 = .ok (.iload_n 1, 1) := by decide +kernel
theorem dX3_run_1 : decode cX3_run 1 = .ok (.istore_n 3, 1) := by decide +kernel
theorem dX3_run_2 : decode cX3_run 2 = .ok (.iconst (-1), 1) := by decide +kernel
theorem dX3_run_3 : decode cX3_run 3 = .ok (.istore 4, 2) := by decide +kernel
theorem dX3_run_5 : decode cX3_run 5 = .ok (.iconst 0, 1) := by decide +kernel
theorem dX3_run_6 : decode cX3_run 6 = .ok (.istore 5, 2) := by decide +kernel
theorem dX3_run_8 : decode cX3_run 8 = .ok (.iload 5, 2) := by decide +kernel
theorem dX3_run_10 : decode cX3_run 10 = .ok (.sipush 512, 3) := by decide +kernel
theorem dX3_run_13 : decode cX3_run 13 = .ok (.if_icmp .ge 293, 3) := by decide +kernel
theorem dX3_run_16 : decode cX3_run 16 = .ok (.iload_n 3, 1) := by decide +kernel
theorem dX3_run_17 : decode cX3_run 17 = .ok (.ifCond .lt 289, 3) := by decide +kernel
theorem dX3_run_20 : decode cX3_run 20 = .ok (.iload_n 3, 1) := by decide +kernel
theorem dX3_run_21 : decode cX3_run 21 = .ok (.iload_n 2, 1) := by decide +kernel
theorem dX3_run_22 : decode cX3_run 22 = .ok (.if_icmp .ge 284, 3) := by decide +kernel
theorem dX3_run_25 : decode cX3_run 25 = .ok (.iload_n 3, 1) := by decide +kernel
theorem dX3_run_26 : decode cX3_run 26 = .ok (.sipush 512, 3) := by decide +kernel
theorem dX3_run_29 : decode cX3_run 29 = .ok (.if_icmp .ge 277, 3) := by decide +kernel
theorem dX3_run_32 : decode cX3_run 32 = .ok (.aload_n 0, 1) := by decide +kernel
theorem dX3_run_33 : decode cX3_run 33 = .ok (.getfield 24, 3) := by decide +kernel
theorem dX3_run_36 : decode cX3_run 36 = .ok (.iload_n 3, 1) := by decide +kernel
theorem dX3_run_37 : decode cX3_run 37 = .ok (.iaload, 1) := by decide +kernel
theorem dX3_run_38 : decode cX3_run 38 = .ok (.istore 6, 2) := by decide +kernel
theorem dX3_run_40 : decode cX3_run 40 = .ok (.iload_n 3, 1) := by decide +kernel
theorem dX3_run_41 : decode cX3_run 41 = .ok (.iconst 1, 1) := by decide +kernel
theorem dX3_run_42 : decode cX3_run 42 = .ok (.iadd, 1) := by decide +kernel
theorem dX3_run_43 : decode cX3_run 43 = .ok (.sipush 512, 3) := by decide +kernel
theorem dX3_run_46 : decode cX3_run 46 = .ok (.if_icmp .ge 14, 3) := by decide +kernel
theorem dX3_run_49 : decode cX3_run 49 = .ok (.aload_n 0, 1) := by decide +kernel
theorem dX3_run_50 : decode cX3_run 50 = .ok (.getfield 24, 3) := by decide +kernel
theorem dX3_run_53 : decode cX3_run 53 = .ok (.iload_n 3, 1) := by decide +kernel
theorem dX3_run_54 : decode cX3_run 54 = .ok (.iconst 1, 1) := by decide +kernel
theorem dX3_run_55 : decode cX3_run 55 = .ok (.iadd, 1) := by decide +kernel
theorem dX3_run_56 : decode cX3_run 56 = .ok (.iaload, 1) := by decide +kernel
theorem dX3_run_57 : decode cX3_run 57 = .ok (.goto 4, 3) := by decide +kernel
theorem dX3_run_60 : decode cX3_run 60 = .ok (.iconst 0, 1) := by decide +kernel
theorem dX3_run_61 : decode cX3_run 61 = .ok (.istore 7, 2) := by decide +kernel
theorem dX3_run_63 : decode cX3_run 63 = .ok (.iinc 3 1, 3) := by decide +kernel
theorem dX3_run_66 : decode cX3_run 66 = .ok (.iload 6, 2) := by decide +kernel
theorem dX3_run_68 : decode cX3_run 68 = .ok (.iconst 1, 1) := by decide +kernel
theorem dX3_run_69 : decode cX3_run 69 = .ok (.if_icmp .eq 9, 3) := by decide +kernel
theorem dX3_run_72 : decode cX3_run 72 = .ok (.iload 6, 2) := by decide +kernel
theorem dX3_run_74 : decode cX3_run 74 = .ok (.iconst 2, 1) := by decide +kernel
theorem dX3_run_75 : decode cX3_run 75 = .ok (.if_icmp .ne 47, 3) := by decide +kernel
theorem dX3_run_78 : decode cX3_run 78 = .ok (.iload 4, 2) := by decide +kernel
theorem dX3_run_80 : decode cX3_run 80 = .ok (.iconst 1, 1) := by decide +kernel
theorem dX3_run_81 : decode cX3_run 81 = .ok (.iadd, 1) := by decide +kernel
theorem dX3_run_82 : decode cX3_run 82 = .ok (.bipush 64, 2) := by decide +kernel
theorem dX3_run_84 : decode cX3_run 84 = .ok (.if_icmp .lt 5, 3) := by decide +kernel
theorem dX3_run_87 : decode cX3_run 87 = .ok (.iconst 0, 1) := by decide +kernel
theorem dX3_run_88 : decode cX3_run 88 = .ok (.ireturn, 1) := by decide +kernel
theorem dX3_run_89 : decode cX3_run 89 = .ok (.iinc 4 1, 3) := by decide +kernel
theorem dX3_run_92 : decode cX3_run 92 = .ok (.aload_n 0, 1) := by decide +kernel
theorem dX3_run_93 : decode cX3_run 93 = .ok (.getfield 27, 3) := by decide +kernel
theorem dX3_run_96 : decode cX3_run 96 = .ok (.iload 4, 2) := by decide +kernel
theorem dX3_run_98 : decode cX3_run 98 = .ok (.iload 6, 2) := by decide +kernel
theorem dX3_run_100 : decode cX3_run 100 = .ok (.iconst 1, 1) := by decide +kernel
theorem dX3_run_101 : decode cX3_run 101 = .ok (.if_icmp .ne 8, 3) := by decide +kernel
theorem dX3_run_104 : decode cX3_run 104 = .ok (.iload 7, 2) := by decide +kernel
theorem dX3_run_106 : decode cX3_run 106 = .ok (.goto 9, 3) := by decide +kernel
theorem dX3_run_109 : decode cX3_run 109 = .ok (.aload_n 0, 1) := by decide +kernel
theorem dX3_run_110 : decode cX3_run 110 = .ok (.iload 7, 2) := by decide +kernel
theorem dX3_run_112 : decode cX3_run 112 = .ok (.invokevirtual 89, 3) := by decide +kernel
theorem dX3_run_115 : decode cX3_run 115 = .ok (.iastore, 1) := by decide +kernel
theorem dX3_run_116 : decode cX3_run 116 = .ok (.iinc 3 1, 3) := by decide +kernel
theorem dX3_run_119 : decode cX3_run 119 = .ok (.goto 181, 3) := by decide +kernel
theorem dX3_run_122 : decode cX3_run 122 = .ok (.iload 4, 2) := by decide +kernel
theorem dX3_run_124 : decode cX3_run 124 = .ok (.ifCond .ge 5, 3) := by decide +kernel
theorem dX3_run_127 : decode cX3_run 127 = .ok (.iconst 0, 1) := by decide +kernel
theorem dX3_run_128 : decode cX3_run 128 = .ok (.ireturn, 1) := by decide +kernel
theorem dX3_run_129 : decode cX3_run 129 = .ok (.iload 6, 2) := by decide +kernel
theorem dX3_run_131 : decode cX3_run 131 = .ok (.iconst 3, 1) := by decide +kernel
theorem dX3_run_132 : decode cX3_run 132 = .ok (.if_icmp .ne 28, 3) := by decide +kernel
theorem dX3_run_135 : decode cX3_run 135 = .ok (.aload_n 0, 1) := by decide +kernel
theorem dX3_run_136 : decode cX3_run 136 = .ok (.getfield 27, 3) := by decide +kernel
theorem dX3_run_139 : decode cX3_run 139 = .ok (.iload 4, 2) := by decide +kernel
theorem dX3_run_141 : decode cX3_run 141 = .ok (.aload_n 0, 1) := by decide +kernel
theorem dX3_run_142 : decode cX3_run 142 = .ok (.getfield 27, 3) := by decide +kernel
theorem dX3_run_145 : decode cX3_run 145 = .ok (.iload 4, 2) := by decide +kernel
theorem dX3_run_147 : decode cX3_run 147 = .ok (.iaload, 1) := by decide +kernel
theorem dX3_run_148 : decode cX3_run 148 = .ok (.ifCond .ne 7, 3) := by decide +kernel
theorem dX3_run_151 : decode cX3_run 151 = .ok (.iconst 1, 1) := by decide +kernel
theorem dX3_run_152 : decode cX3_run 152 = .ok (.goto 4, 3) := by decide +kernel
theorem dX3_run_155 : decode cX3_run 155 = .ok (.iconst 0, 1) := by decide +kernel
theorem dX3_run_156 : decode cX3_run 156 = .ok (.iastore, 1) := by decide +kernel
theorem dX3_run_157 : decode cX3_run 157 = .ok (.goto 143, 3) := by decide +kernel
theorem dX3_run_160 : decode cX3_run 160 = .ok (.iload 6, 2) := by decide +kernel
theorem dX3_run_162 : decode cX3_run 162 = .ok (.iconst 4, 1) := by decide +kernel
theorem dX3_run_163 : decode cX3_run 163 = .ok (.if_icmp .eq 9, 3) := by decide +kernel
theorem dX3_run_166 : decode cX3_run 166 = .ok (.iload 6, 2) := by decide +kernel
theorem dX3_run_168 : decode cX3_run 168 = .ok (.iconst 5, 1) := by decide +kernel
theorem dX3_run_169 : decode cX3_run 169 = .ok (.if_icmp .ne 72, 3) := by decide +kernel
theorem dX3_run_172 : decode cX3_run 172 = .ok (.aload_n 0, 1) := by decide +kernel
theorem dX3_run_173 : decode cX3_run 173 = .ok (.getfield 27, 3) := by decide +kernel
theorem dX3_run_176 : decode cX3_run 176 = .ok (.iload 4, 2) := by decide +kernel
theorem dX3_run_178 : decode cX3_run 178 = .ok (.iaload, 1) := by decide +kernel
theorem dX3_run_179 : decode cX3_run 179 = .ok (.ifCond .eq 7, 3) := by decide +kernel
theorem dX3_run_182 : decode cX3_run 182 = .ok (.iconst 1, 1) := by decide +kernel
theorem dX3_run_183 : decode cX3_run 183 = .ok (.goto 4, 3) := by decide +kernel
theorem dX3_run_186 : decode cX3_run 186 = .ok (.iconst 0, 1) := by decide +kernel
theorem dX3_run_187 : decode cX3_run 187 = .ok (.iload 6, 2) := by decide +kernel
theorem dX3_run_189 : decode cX3_run 189 = .ok (.iconst 4, 1) := by decide +kernel
theorem dX3_run_190 : decode cX3_run 190 = .ok (.if_icmp .ne 7, 3) := by decide +kernel
theorem dX3_run_193 : decode cX3_run 193 = .ok (.iconst 1, 1) := by decide +kernel
theorem dX3_run_194 : decode cX3_run 194 = .ok (.goto 4, 3) := by decide +kernel
theorem dX3_run_197 : decode cX3_run 197 = .ok (.iconst 0, 1) := by decide +kernel
theorem dX3_run_198 : decode cX3_run 198 = .ok (.if_icmp .ne 7, 3) := by decide +kernel
theorem dX3_run_201 : decode cX3_run 201 = .ok (.iconst 1, 1) := by decide +kernel
theorem dX3_run_202 : decode cX3_run 202 = .ok (.goto 4, 3) := by decide +kernel
theorem dX3_run_205 : decode cX3_run 205 = .ok (.iconst 0, 1) := by decide +kernel
theorem dX3_run_206 : decode cX3_run 206 = .ok (.istore 8, 2) := by decide +kernel
theorem dX3_run_208 : decode cX3_run 208 = .ok (.iload 8, 2) := by decide +kernel
theorem dX3_run_210 : decode cX3_run 210 = .ok (.ifCond .eq 8, 3) := by decide +kernel
theorem dX3_run_213 : decode cX3_run 213 = .ok (.iload 7, 2) := by decide +kernel
theorem dX3_run_215 : decode cX3_run 215 = .ok (.goto 6, 3) := by decide +kernel
theorem dX3_run_218 : decode cX3_run 218 = .ok (.iload_n 3, 1) := by decide +kernel
theorem dX3_run_219 : decode cX3_run 219 = .ok (.iconst 1, 1) := by decide +kernel
theorem dX3_run_220 : decode cX3_run 220 = .ok (.iadd, 1) := by decide +kernel
theorem dX3_run_221 : decode cX3_run 221 = .ok (.istore_n 3, 1) := by decide +kernel
theorem dX3_run_222 : decode cX3_run 222 = .ok (.iload 8, 2) := by decide +kernel
theorem dX3_run_224 : decode cX3_run 224 = .ok (.ifCond .eq 8, 3) := by decide +kernel
theorem dX3_run_227 : decode cX3_run 227 = .ok (.iload 4, 2) := by decide +kernel
theorem dX3_run_229 : decode cX3_run 229 = .ok (.goto 7, 3) := by decide +kernel
theorem dX3_run_232 : decode cX3_run 232 = .ok (.iload 4, 2) := by decide +kernel
theorem dX3_run_234 : decode cX3_run 234 = .ok (.iconst 1, 1) := by decide +kernel
theorem dX3_run_235 : decode cX3_run 235 = .ok (.isub, 1) := by decide +kernel
theorem dX3_run_236 : decode cX3_run 236 = .ok (.istore 4, 2) := by decide +kernel
theorem dX3_run_238 : decode cX3_run 238 = .ok (.goto 62, 3) := by decide +kernel
theorem dX3_run_241 : decode cX3_run 241 = .ok (.iload 4, 2) := by decide +kernel
theorem dX3_run_243 : decode cX3_run 243 = .ok (.iconst 1, 1) := by decide +kernel
theorem dX3_run_244 : decode cX3_run 244 = .ok (.if_icmp .lt 21, 3) := by decide +kernel
theorem dX3_run_247 : decode cX3_run 247 = .ok (.aload_n 0, 1) := by decide +kernel
theorem dX3_run_248 : decode cX3_run 248 = .ok (.getfield 27, 3) := by decide +kernel
theorem dX3_run_251 : decode cX3_run 251 = .ok (.iload 4, 2) := by decide +kernel
theorem dX3_run_253 : decode cX3_run 253 = .ok (.iaload, 1) := by decide +kernel
theorem dX3_run_254 : decode cX3_run 254 = .ok (.ifCond .ne 13, 3) := by decide +kernel
theorem dX3_run_257 : decode cX3_run 257 = .ok (.iload 6, 2) := by decide +kernel
theorem dX3_run_259 : decode cX3_run 259 = .ok (.invokestatic 93, 3) := by decide +kernel
theorem dX3_run_262 : decode cX3_run 262 = .ok (.ifCond .eq 5, 3) := by decide +kernel
theorem dX3_run_265 : decode cX3_run 265 = .ok (.iconst 0, 1) := by decide +kernel
theorem dX3_run_266 : decode cX3_run 266 = .ok (.ireturn, 1) := by decide +kernel
theorem dX3_run_267 : decode cX3_run 267 = .ok (.aload_n 0, 1) := by decide +kernel
theorem dX3_run_268 : decode cX3_run 268 = .ok (.getfield 27, 3) := by decide +kernel
theorem dX3_run_271 : decode cX3_run 271 = .ok (.iload 4, 2) := by decide +kernel
theorem dX3_run_273 : decode cX3_run 273 = .ok (.iconst 1, 1) := by decide +kernel
theorem dX3_run_274 : decode cX3_run 274 = .ok (.isub, 1) := by decide +kernel
theorem dX3_run_275 : decode cX3_run 275 = .ok (.iload 6, 2) := by decide +kernel
theorem dX3_run_277 : decode cX3_run 277 = .ok (.aload_n 0, 1) := by decide +kernel
theorem dX3_run_278 : decode cX3_run 278 = .ok (.getfield 27, 3) := by decide +kernel
theorem dX3_run_281 : decode cX3_run 281 = .ok (.iload 4, 2) := by decide +kernel
theorem dX3_run_283 : decode cX3_run 283 = .ok (.iconst 1, 1) := by decide +kernel
theorem dX3_run_284 : decode cX3_run 284 = .ok (.isub, 1) := by decide +kernel
theorem dX3_run_285 : decode cX3_run 285 = .ok (.iaload, 1) := by decide +kernel
theorem dX3_run_286 : decode cX3_run 286 = .ok (.aload_n 0, 1) := by decide +kernel
theorem dX3_run_287 : decode cX3_run 287 = .ok (.getfield 27, 3) := by decide +kernel
theorem dX3_run_290 : decode cX3_run 290 = .ok (.iload 4, 2) := by decide +kernel
theorem dX3_run_292 : decode cX3_run 292 = .ok (.iaload, 1) := by decide +kernel
theorem dX3_run_293 : decode cX3_run 293 = .ok (.invokestatic 96, 3) := by decide +kernel
theorem dX3_run_296 : decode cX3_run 296 = .ok (.iastore, 1) := by decide +kernel
theorem dX3_run_297 : decode cX3_run 297 = .ok (.iinc 4 (-1), 3) := by decide +kernel
theorem dX3_run_300 : decode cX3_run 300 = .ok (.iinc 5 1, 3) := by decide +kernel
theorem dX3_run_303 : decode cX3_run 303 = .ok (.goto (-295), 3) := by decide +kernel
theorem dX3_run_306 : decode cX3_run 306 = .ok (.iload 4, 2) := by decide +kernel
theorem dX3_run_308 : decode cX3_run 308 = .ok (.ifCond .lt 13, 3) := by decide +kernel
theorem dX3_run_311 : decode cX3_run 311 = .ok (.aload_n 0, 1) := by decide +kernel
theorem dX3_run_312 : decode cX3_run 312 = .ok (.getfield 27, 3) := by decide +kernel
theorem dX3_run_315 : decode cX3_run 315 = .ok (.iload 4, 2) := by decide +kernel
theorem dX3_run_317 : decode cX3_run 317 = .ok (.iaload, 1) := by decide +kernel
theorem dX3_run_318 : decode cX3_run 318 = .ok (.goto 4, 3) := by decide +kernel
theorem dX3_run_321 : decode cX3_run 321 = .ok (.iconst 0, 1) := by decide +kernel
theorem dX3_run_322 : decode cX3_run 322 = .ok (.ireturn, 1) := by decide +kernel
theorem dX3_fact_0 : decode cX3_fact 0 = .ok (.iload_n 1, 1) := by decide +kernel
theorem dX3_fact_1 : decode cX3_fact 1 = .ok (.ifCond .lt 18, 3) := by decide +kernel
theorem dX3_fact_4 : decode cX3_fact 4 = .ok (.iload_n 1, 1) := by decide +kernel
theorem dX3_fact_5 : decode cX3_fact 5 = .ok (.bipush 10, 2) := by decide +kernel
theorem dX3_fact_7 : decode cX3_fact 7 = .ok (.if_icmp .ge 12, 3) := by decide +kernel
theorem dX3_fact_10 : decode cX3_fact 10 = .ok (.aload_n 0, 1) := by decide +kernel
theorem dX3_fact_11 : decode cX3_fact 11 = .ok (.getfield 30, 3) := by decide +kernel
theorem dX3_fact_14 : decode cX3_fact 14 = .ok (.iload_n 1, 1) := by decide +kernel
theorem dX3_fact_15 : decode cX3_fact 15 = .ok (.iaload, 1) := by decide +kernel
theorem dX3_fact_16 : decode cX3_fact 16 = .ok (.goto 4, 3) := by decide +kernel
theorem dX3_fact_19 : decode cX3_fact 19 = .ok (.iconst 0, 1) := by decide +kernel
theorem dX3_fact_20 : decode cX3_fact 20 = .ok (.ireturn, 1) := by decide +kernel
theorem dX3_isDivision_0 : decode cX3_isDivision 0 = .ok (.iload_n 0, 1) := by decide +kernel
theorem dX3_isDivision_1 : decode cX3_isDivision 1 = .ok (.bipush 47, 2) := by decide +kernel
theorem dX3_isDivision_3 : decode cX3_isDivision 3 = .ok (.if_icmp .eq 9, 3) := by decide +kernel
theorem dX3_isDivision_6 : decode cX3_isDivision 6 = .ok (.iload_n 0, 1) := by decide +kernel
theorem dX3_isDivision_7 : decode cX3_isDivision 7 = .ok (.bipush 37, 2) := by decide +kernel
theorem dX3_isDivision_9 : decode cX3_isDivision 9 = .ok (.if_icmp .ne 7, 3) := by decide +kernel
theorem dX3_isDivision_12 : decode cX3_isDivision 12 = .ok (.iconst 1, 1) := by decide +kernel
theorem dX3_isDivision_13 : decode cX3_isDivision 13 = .ok (.goto 4, 3) := by decide +kernel
theorem dX3_isDivision_16 : decode cX3_isDivision 16 = .ok (.iconst 0, 1) := by decide +kernel
theorem dX3_isDivision_17 : decode cX3_isDivision 17 = .ok (.ireturn, 1) := by decide +kernel
theorem dX3_joined_0 : decode cX3_joined 0 = .ok (.iload_n 0, 1) := by decide +kernel
theorem dX3_joined_1 : decode cX3_joined 1 = .ok (.lookupswitch 125 #[(37, 91), (42, 75), (43, 67), (45, 71), (47, 79), (60, 103), (62, 114)], 67) := by decide +kernel
theorem dX3_joined_68 : decode cX3_joined 68 = .ok (.iload_n 1, 1) := by decide +kernel
theorem dX3_joined_69 : decode cX3_joined 69 = .ok (.iload_n 2, 1) := by decide +kernel
theorem dX3_joined_70 : decode cX3_joined 70 = .ok (.iadd, 1) := by decide +kernel
theorem dX3_joined_71 : decode cX3_joined 71 = .ok (.ireturn, 1) := by decide +kernel
theorem dX3_joined_72 : decode cX3_joined 72 = .ok (.iload_n 1, 1) := by decide +kernel
theorem dX3_joined_73 : decode cX3_joined 73 = .ok (.iload_n 2, 1) := by decide +kernel
theorem dX3_joined_74 : decode cX3_joined 74 = .ok (.isub, 1) := by decide +kernel
theorem dX3_joined_75 : decode cX3_joined 75 = .ok (.ireturn, 1) := by decide +kernel
theorem dX3_joined_76 : decode cX3_joined 76 = .ok (.iload_n 1, 1) := by decide +kernel
theorem dX3_joined_77 : decode cX3_joined 77 = .ok (.iload_n 2, 1) := by decide +kernel
theorem dX3_joined_78 : decode cX3_joined 78 = .ok (.imul, 1) := by decide +kernel
theorem dX3_joined_79 : decode cX3_joined 79 = .ok (.ireturn, 1) := by decide +kernel
theorem dX3_joined_80 : decode cX3_joined 80 = .ok (.iload_n 2, 1) := by decide +kernel
theorem dX3_joined_81 : decode cX3_joined 81 = .ok (.ifCond .ne 7, 3) := by decide +kernel
theorem dX3_joined_84 : decode cX3_joined 84 = .ok (.iconst 0, 1) := by decide +kernel
theorem dX3_joined_85 : decode cX3_joined 85 = .ok (.goto 6, 3) := by decide +kernel
theorem dX3_joined_88 : decode cX3_joined 88 = .ok (.iload_n 1, 1) := by decide +kernel
theorem dX3_joined_89 : decode cX3_joined 89 = .ok (.iload_n 2, 1) := by decide +kernel
theorem dX3_joined_90 : decode cX3_joined 90 = .ok (.idiv, 1) := by decide +kernel
theorem dX3_joined_91 : decode cX3_joined 91 = .ok (.ireturn, 1) := by decide +kernel
theorem dX3_joined_92 : decode cX3_joined 92 = .ok (.iload_n 2, 1) := by decide +kernel
theorem dX3_joined_93 : decode cX3_joined 93 = .ok (.ifCond .ne 7, 3) := by decide +kernel
theorem dX3_joined_96 : decode cX3_joined 96 = .ok (.iconst 0, 1) := by decide +kernel
theorem dX3_joined_97 : decode cX3_joined 97 = .ok (.goto 6, 3) := by decide +kernel
theorem dX3_joined_100 : decode cX3_joined 100 = .ok (.iload_n 1, 1) := by decide +kernel
theorem dX3_joined_101 : decode cX3_joined 101 = .ok (.iload_n 2, 1) := by decide +kernel
theorem dX3_joined_102 : decode cX3_joined 102 = .ok (.irem, 1) := by decide +kernel
theorem dX3_joined_103 : decode cX3_joined 103 = .ok (.ireturn, 1) := by decide +kernel
theorem dX3_joined_104 : decode cX3_joined 104 = .ok (.iload_n 1, 1) := by decide +kernel
theorem dX3_joined_105 : decode cX3_joined 105 = .ok (.iload_n 2, 1) := by decide +kernel
theorem dX3_joined_106 : decode cX3_joined 106 = .ok (.if_icmp .ge 7, 3) := by decide +kernel
theorem dX3_joined_109 : decode cX3_joined 109 = .ok (.iconst 1, 1) := by decide +kernel
theorem dX3_joined_110 : decode cX3_joined 110 = .ok (.goto 4, 3) := by decide +kernel
theorem dX3_joined_113 : decode cX3_joined 113 = .ok (.iconst 0, 1) := by decide +kernel
theorem dX3_joined_114 : decode cX3_joined 114 = .ok (.ireturn, 1) := by decide +kernel
theorem dX3_joined_115 : decode cX3_joined 115 = .ok (.iload_n 1, 1) := by decide +kernel
theorem dX3_joined_116 : decode cX3_joined 116 = .ok (.iload_n 2, 1) := by decide +kernel
theorem dX3_joined_117 : decode cX3_joined 117 = .ok (.if_icmp .le 7, 3) := by decide +kernel
theorem dX3_joined_120 : decode cX3_joined 120 = .ok (.iconst 1, 1) := by decide +kernel
theorem dX3_joined_121 : decode cX3_joined 121 = .ok (.goto 4, 3) := by decide +kernel
theorem dX3_joined_124 : decode cX3_joined 124 = .ok (.iconst 0, 1) := by decide +kernel
theorem dX3_joined_125 : decode cX3_joined 125 = .ok (.ireturn, 1) := by decide +kernel
theorem dX3_joined_126 : decode cX3_joined 126 = .ok (.iload_n 1, 1) := by decide +kernel
theorem dX3_joined_127 : decode cX3_joined 127 = .ok (.iload_n 2, 1) := by decide +kernel
theorem dX3_joined_128 : decode cX3_joined 128 = .ok (.if_icmp .ne 7, 3) := by decide +kernel
theorem dX3_joined_131 : decode cX3_joined 131 = .ok (.iconst 1, 1) := by decide +kernel
theorem dX3_joined_132 : decode cX3_joined 132 = .ok (.goto 4, 3) := by decide +kernel
theorem dX3_joined_135 : decode cX3_joined 135 = .ok (.iconst 0, 1) := by decide +kernel
theorem dX3_joined_136 : decode cX3_joined 136 = .ok (.ireturn, 1) := by decide +kernel
theorem dX4_init_0 : decode cX4_init 0 = .ok (.aload_n 0, 1) := by decide +kernel
theorem dX4_init_1 : decode cX4_init 1 = .ok (.invokespecial 3, 3) := by decide +kernel
theorem dX4_init_4 : decode cX4_init 4 = .ok (.aload_n 0, 1) := by decide +kernel
theorem dX4_init_5 : decode cX4_init 5 = .ok (.aload_n 1, 1) := by decide +kernel
theorem dX4_init_6 : decode cX4_init 6 = .ok (.putfield 9, 3) := by decide +kernel
theorem dX4_init_9 : decode cX4_init 9 = .ok (.aload_n 0, 1) := by decide +kernel
theorem dX4_init_10 : decode cX4_init 10 = .ok (.aload_n 2, 1) := by decide +kernel
theorem dX4_init_11 : decode cX4_init 11 = .ok (.putfield 15, 3) := by decide +kernel
theorem dX4_init_14 : decode cX4_init 14 = .ok (.return_, 1) := by decide +kernel
theorem dX4_read_0 : decode cX4_read 0 = .ok (.aload_n 0, 1) := by decide +kernel
theorem dX4_read_1 : decode cX4_read 1 = .ok (.aload_n 2, 1) := by decide +kernel
theorem dX4_read_2 : decode cX4_read 2 = .ok (.putfield 15, 3) := by decide +kernel
theorem dX4_read_5 : decode cX4_read 5 = .ok (.aload_n 0, 1) := by decide +kernel
theorem dX4_read_6 : decode cX4_read 6 = .ok (.getfield 15, 3) := by decide +kernel
theorem dX4_read_9 : decode cX4_read 9 = .ok (.invokevirtual 19, 3) := by decide +kernel
theorem dX4_read_12 : decode cX4_read 12 = .ok (.aload_n 0, 1) := by decide +kernel
theorem dX4_read_13 : decode cX4_read 13 = .ok (.getfield 9, 3) := by decide +kernel
theorem dX4_read_16 : decode cX4_read 16 = .ok (.iload_n 1, 1) := by decide +kernel
theorem dX4_read_17 : decode cX4_read 17 = .ok (.invokevirtual 24, 3) := by decide +kernel
theorem dX4_read_20 : decode cX4_read 20 = .ok (.iconst 0, 1) := by decide +kernel
theorem dX4_read_21 : decode cX4_read 21 = .ok (.istore_n 3, 1) := by decide +kernel
theorem dX4_read_22 : decode cX4_read 22 = .ok (.iload_n 3, 1) := by decide +kernel
theorem dX4_read_23 : decode cX4_read 23 = .ok (.bipush 16, 2) := by decide +kernel
theorem dX4_read_25 : decode cX4_read 25 = .ok (.if_icmp .gt 58, 3) := by decide +kernel
theorem dX4_read_28 : decode cX4_read 28 = .ok (.aload_n 0, 1) := by decide +kernel
theorem dX4_read_29 : decode cX4_read 29 = .ok (.getfield 9, 3) := by decide +kernel
theorem dX4_read_32 : decode cX4_read 32 = .ok (.invokevirtual 30, 3) := by decide +kernel
theorem dX4_read_35 : decode cX4_read 35 = .ok (.ifCond .ne 48, 3) := by decide +kernel
theorem dX4_read_38 : decode cX4_read 38 = .ok (.aload_n 0, 1) := by decide +kernel
theorem dX4_read_39 : decode cX4_read 39 = .ok (.iload_n 3, 1) := by decide +kernel
theorem dX4_read_40 : decode cX4_read 40 = .ok (.invokevirtual 34, 3) := by decide +kernel
theorem dX4_read_43 : decode cX4_read 43 = .ok (.aload_n 0, 1) := by decide +kernel
theorem dX4_read_44 : decode cX4_read 44 = .ok (.getfield 9, 3) := by decide +kernel
theorem dX4_read_47 : decode cX4_read 47 = .ok (.invokevirtual 30, 3) := by decide +kernel
theorem dX4_read_50 : decode cX4_read 50 = .ok (.ifCond .ne 18, 3) := by decide +kernel
theorem dX4_read_53 : decode cX4_read 53 = .ok (.aload_n 0, 1) := by decide +kernel
theorem dX4_read_54 : decode cX4_read 54 = .ok (.getfield 9, 3) := by decide +kernel
theorem dX4_read_57 : decode cX4_read 57 = .ok (.invokevirtual 37, 3) := by decide +kernel
theorem dX4_read_60 : decode cX4_read 60 = .ok (.iconst (-1), 1) := by decide +kernel
theorem dX4_read_61 : decode cX4_read 61 = .ok (.if_icmp .ne 7, 3) := by decide +kernel
theorem dX4_read_64 : decode cX4_read 64 = .ok (.iload_n 3, 1) := by decide +kernel
theorem dX4_read_65 : decode cX4_read 65 = .ok (.iconst 1, 1) := by decide +kernel
theorem dX4_read_66 : decode cX4_read 66 = .ok (.iadd, 1) := by decide +kernel
theorem dX4_read_67 : decode cX4_read 67 = .ok (.ireturn, 1) := by decide +kernel
theorem dX4_read_68 : decode cX4_read 68 = .ok (.aload_n 0, 1) := by decide +kernel
theorem dX4_read_69 : decode cX4_read 69 = .ok (.getfield 9, 3) := by decide +kernel
theorem dX4_read_72 : decode cX4_read 72 = .ok (.bipush 59, 2) := by decide +kernel
theorem dX4_read_74 : decode cX4_read 74 = .ok (.invokevirtual 41, 3) := by decide +kernel
theorem dX4_read_77 : decode cX4_read 77 = .ok (.iinc 3 1, 3) := by decide +kernel
theorem dX4_read_80 : decode cX4_read 80 = .ok (.goto (-58), 3) := by decide +kernel
theorem dX4_read_83 : decode cX4_read 83 = .ok (.aload_n 0, 1) := by decide +kernel
theorem dX4_read_84 : decode cX4_read 84 = .ok (.getfield 9, 3) := by decide +kernel
theorem dX4_read_87 : decode cX4_read 87 = .ok (.getfield 44, 3) := by decide +kernel
theorem dX4_read_90 : decode cX4_read 90 = .ok (.ireturn, 1) := by decide +kernel
theorem dX4_readRule_0 : decode cX4_readRule 0 = .ok (.aload_n 0, 1) := by decide +kernel
theorem dX4_readRule_1 : decode cX4_readRule 1 = .ok (.getfield 9, 3) := by decide +kernel
theorem dX4_readRule_4 : decode cX4_readRule 4 = .ok (.invokevirtual 37, 3) := by decide +kernel
theorem dX4_readRule_7 : decode cX4_readRule 7 = .ok (.istore_n 2, 1) := by decide +kernel
theorem dX4_readRule_8 : decode cX4_readRule 8 = .ok (.iload_n 2, 1) := by decide +kernel
theorem dX4_readRule_9 : decode cX4_readRule 9 = .ok (.bipush 101, 2) := by decide +kernel
theorem dX4_readRule_11 : decode cX4_readRule 11 = .ok (.if_icmp .eq 24, 3) := by decide +kernel
theorem dX4_readRule_14 : decode cX4_readRule 14 = .ok (.iload_n 2, 1) := by decide +kernel
theorem dX4_readRule_15 : decode cX4_readRule 15 = .ok (.bipush 114, 2) := by decide +kernel
theorem dX4_readRule_17 : decode cX4_readRule 17 = .ok (.if_icmp .eq 18, 3) := by decide +kernel
theorem dX4_readRule_20 : decode cX4_readRule 20 = .ok (.iload_n 2, 1) := by decide +kernel
theorem dX4_readRule_21 : decode cX4_readRule 21 = .ok (.bipush 120, 2) := by decide +kernel
theorem dX4_readRule_23 : decode cX4_readRule 23 = .ok (.if_icmp .eq 12, 3) := by decide +kernel
theorem dX4_readRule_26 : decode cX4_readRule 26 = .ok (.aload_n 0, 1) := by decide +kernel
theorem dX4_readRule_27 : decode cX4_readRule 27 = .ok (.getfield 9, 3) := by decide +kernel
theorem dX4_readRule_30 : decode cX4_readRule 30 = .ok (.iconst 1, 1) := by decide +kernel
theorem dX4_readRule_31 : decode cX4_readRule 31 = .ok (.invokevirtual 48, 3) := by decide +kernel
theorem dX4_readRule_34 : decode cX4_readRule 34 = .ok (.return_, 1) := by decide +kernel
theorem dX4_readRule_35 : decode cX4_readRule 35 = .ok (.iload_n 1, 1) := by decide +kernel
theorem dX4_readRule_36 : decode cX4_readRule 36 = .ok (.bipush 16, 2) := by decide +kernel
theorem dX4_readRule_38 : decode cX4_readRule 38 = .ok (.if_icmp .lt 12, 3) := by decide +kernel
theorem dX4_readRule_41 : decode cX4_readRule 41 = .ok (.aload_n 0, 1) := by decide +kernel
theorem dX4_readRule_42 : decode cX4_readRule 42 = .ok (.getfield 9, 3) := by decide +kernel
theorem dX4_readRule_45 : decode cX4_readRule 45 = .ok (.iconst 4, 1) := by decide +kernel
theorem dX4_readRule_46 : decode cX4_readRule 46 = .ok (.invokevirtual 48, 3) := by decide +kernel
theorem dX4_readRule_49 : decode cX4_readRule 49 = .ok (.return_, 1) := by decide +kernel
theorem dX4_readRule_50 : decode cX4_readRule 50 = .ok (.aload_n 0, 1) := by decide +kernel
theorem dX4_readRule_51 : decode cX4_readRule 51 = .ok (.getfield 9, 3) := by decide +kernel
theorem dX4_readRule_54 : decode cX4_readRule 54 = .ok (.invokevirtual 51, 3) := by decide +kernel
theorem dX4_readRule_57 : decode cX4_readRule 57 = .ok (.aload_n 0, 1) := by decide +kernel
theorem dX4_readRule_58 : decode cX4_readRule 58 = .ok (.getfield 15, 3) := by decide +kernel
theorem dX4_readRule_61 : decode cX4_readRule 61 = .ok (.getfield 54, 3) := by decide +kernel
theorem dX4_readRule_64 : decode cX4_readRule 64 = .ok (.istore_n 3, 1) := by decide +kernel
theorem dX4_readRule_65 : decode cX4_readRule 65 = .ok (.iload_n 2, 1) := by decide +kernel
theorem dX4_readRule_66 : decode cX4_readRule 66 = .ok (.bipush 120, 2) := by decide +kernel
theorem dX4_readRule_68 : decode cX4_readRule 68 = .ok (.if_icmp .ne 15, 3) := by decide +kernel
theorem dX4_readRule_71 : decode cX4_readRule 71 = .ok (.aload_n 0, 1) := by decide +kernel
theorem dX4_readRule_72 : decode cX4_readRule 72 = .ok (.getfield 15, 3) := by decide +kernel
theorem dX4_readRule_75 : decode cX4_readRule 75 = .ok (.iconst 1, 1) := by decide +kernel
theorem dX4_readRule_76 : decode cX4_readRule 76 = .ok (.iconst 1, 1) := by decide +kernel
theorem dX4_readRule_77 : decode cX4_readRule 77 = .ok (.invokevirtual 57, 3) := by decide +kernel
theorem dX4_readRule_80 : decode cX4_readRule 80 = .ok (.goto 8, 3) := by decide +kernel
theorem dX4_readRule_83 : decode cX4_readRule 83 = .ok (.aload_n 0, 1) := by decide +kernel
theorem dX4_readRule_84 : decode cX4_readRule 84 = .ok (.iconst 0, 1) := by decide +kernel
theorem dX4_readRule_85 : decode cX4_readRule 85 = .ok (.invokevirtual 61, 3) := by decide +kernel
theorem dX4_readRule_88 : decode cX4_readRule 88 = .ok (.aload_n 0, 1) := by decide +kernel
theorem dX4_readRule_89 : decode cX4_readRule 89 = .ok (.getfield 15, 3) := by decide +kernel
theorem dX4_readRule_92 : decode cX4_readRule 92 = .ok (.getfield 54, 3) := by decide +kernel
theorem dX4_readRule_95 : decode cX4_readRule 95 = .ok (.istore 4, 2) := by decide +kernel
theorem dX4_readRule_97 : decode cX4_readRule 97 = .ok (.aload_n 0, 1) := by decide +kernel
theorem dX4_readRule_98 : decode cX4_readRule 98 = .ok (.getfield 9, 3) := by decide +kernel
theorem dX4_readRule_101 : decode cX4_readRule 101 = .ok (.bipush 40, 2) := by decide +kernel
theorem dX4_readRule_103 : decode cX4_readRule 103 = .ok (.invokevirtual 41, 3) := by decide +kernel
theorem dX4_readRule_106 : decode cX4_readRule 106 = .ok (.aload_n 0, 1) := by decide +kernel
theorem dX4_readRule_107 : decode cX4_readRule 107 = .ok (.iconst 1, 1) := by decide +kernel
theorem dX4_readRule_108 : decode cX4_readRule 108 = .ok (.invokevirtual 64, 3) := by decide +kernel
theorem dX4_readRule_111 : decode cX4_readRule 111 = .ok (.aload_n 0, 1) := by decide +kernel
theorem dX4_readRule_112 : decode cX4_readRule 112 = .ok (.getfield 9, 3) := by decide +kernel
theorem dX4_readRule_115 : decode cX4_readRule 115 = .ok (.bipush 41, 2) := by decide +kernel
theorem dX4_readRule_117 : decode cX4_readRule 117 = .ok (.invokevirtual 41, 3) := by decide +kernel
theorem dX4_readRule_120 : decode cX4_readRule 120 = .ok (.aload_n 0, 1) := by decide +kernel
theorem dX4_readRule_121 : decode cX4_readRule 121 = .ok (.getfield 15, 3) := by decide +kernel
theorem dX4_readRule_124 : decode cX4_readRule 124 = .ok (.iload_n 2, 1) := by decide +kernel
theorem dX4_readRule_125 : decode cX4_readRule 125 = .ok (.iload_n 3, 1) := by decide +kernel
theorem dX4_readRule_126 : decode cX4_readRule 126 = .ok (.iload 4, 2) := by decide +kernel
theorem dX4_readRule_128 : decode cX4_readRule 128 = .ok (.invokevirtual 67, 3) := by decide +kernel
theorem dX4_readRule_131 : decode cX4_readRule 131 = .ok (.return_, 1) := by decide +kernel
theorem dX4_readChoice_0 : decode cX4_readChoice 0 = .ok (.aload_n 0, 1) := by decide +kernel
theorem dX4_readChoice_1 : decode cX4_readChoice 1 = .ok (.iload_n 1, 1) := by decide +kernel
theorem dX4_readChoice_2 : decode cX4_readChoice 2 = .ok (.invokevirtual 71, 3) := by decide +kernel
theorem dX4_readChoice_5 : decode cX4_readChoice 5 = .ok (.iconst 0, 1) := by decide +kernel
theorem dX4_readChoice_6 : decode cX4_readChoice 6 = .ok (.istore_n 2, 1) := by decide +kernel
theorem dX4_readChoice_7 : decode cX4_readChoice 7 = .ok (.iload_n 2, 1) := by decide +kernel
theorem dX4_readChoice_8 : decode cX4_readChoice 8 = .ok (.sipush 240, 3) := by decide +kernel
theorem dX4_readChoice_11 : decode cX4_readChoice 11 = .ok (.if_icmp .ge 50, 3) := by decide +kernel
theorem dX4_readChoice_14 : decode cX4_readChoice 14 = .ok (.aload_n 0, 1) := by decide +kernel
theorem dX4_readChoice_15 : decode cX4_readChoice 15 = .ok (.getfield 9, 3) := by decide +kernel
theorem dX4_readChoice_18 : decode cX4_readChoice 18 = .ok (.invokevirtual 37, 3) := by decide +kernel
theorem dX4_readChoice_21 : decode cX4_readChoice 21 = .ok (.bipush 124, 2) := by decide +kernel
theorem dX4_readChoice_23 : decode cX4_readChoice 23 = .ok (.if_icmp .ne 38, 3) := by decide +kernel
theorem dX4_readChoice_26 : decode cX4_readChoice 26 = .ok (.aload_n 0, 1) := by decide +kernel
theorem dX4_readChoice_27 : decode cX4_readChoice 27 = .ok (.getfield 9, 3) := by decide +kernel
theorem dX4_readChoice_30 : decode cX4_readChoice 30 = .ok (.invokevirtual 51, 3) := by decide +kernel
theorem dX4_readChoice_33 : decode cX4_readChoice 33 = .ok (.aload_n 0, 1) := by decide +kernel
theorem dX4_readChoice_34 : decode cX4_readChoice 34 = .ok (.getfield 15, 3) := by decide +kernel
theorem dX4_readChoice_37 : decode cX4_readChoice 37 = .ok (.iconst 4, 1) := by decide +kernel
theorem dX4_readChoice_38 : decode cX4_readChoice 38 = .ok (.invokevirtual 74, 3) := by decide +kernel
theorem dX4_readChoice_41 : decode cX4_readChoice 41 = .ok (.istore_n 3, 1) := by decide +kernel
theorem dX4_readChoice_42 : decode cX4_readChoice 42 = .ok (.aload_n 0, 1) := by decide +kernel
theorem dX4_readChoice_43 : decode cX4_readChoice 43 = .ok (.iload_n 1, 1) := by decide +kernel
theorem dX4_readChoice_44 : decode cX4_readChoice 44 = .ok (.invokevirtual 71, 3) := by decide +kernel
theorem dX4_readChoice_47 : decode cX4_readChoice 47 = .ok (.aload_n 0, 1) := by decide +kernel
theorem dX4_readChoice_48 : decode cX4_readChoice 48 = .ok (.getfield 15, 3) := by decide +kernel
theorem dX4_readChoice_51 : decode cX4_readChoice 51 = .ok (.iload_n 3, 1) := by decide +kernel
theorem dX4_readChoice_52 : decode cX4_readChoice 52 = .ok (.invokevirtual 78, 3) := by decide +kernel
theorem dX4_readChoice_55 : decode cX4_readChoice 55 = .ok (.iinc 2 1, 3) := by decide +kernel
theorem dX4_readChoice_58 : decode cX4_readChoice 58 = .ok (.goto (-51), 3) := by decide +kernel
theorem dX4_readChoice_61 : decode cX4_readChoice 61 = .ok (.return_, 1) := by decide +kernel
theorem dX4_readPart_0 : decode cX4_readPart 0 = .ok (.aload_n 0, 1) := by decide +kernel
theorem dX4_readPart_1 : decode cX4_readPart 1 = .ok (.iload_n 1, 1) := by decide +kernel
theorem dX4_readPart_2 : decode cX4_readPart 2 = .ok (.invokevirtual 81, 3) := by decide +kernel
theorem dX4_readPart_5 : decode cX4_readPart 5 = .ok (.iconst 0, 1) := by decide +kernel
theorem dX4_readPart_6 : decode cX4_readPart 6 = .ok (.istore_n 2, 1) := by decide +kernel
theorem dX4_readPart_7 : decode cX4_readPart 7 = .ok (.iload_n 2, 1) := by decide +kernel
theorem dX4_readPart_8 : decode cX4_readPart 8 = .ok (.sipush 240, 3) := by decide +kernel
theorem dX4_readPart_11 : decode cX4_readPart 11 = .ok (.if_icmp .ge 50, 3) := by decide +kernel
theorem dX4_readPart_14 : decode cX4_readPart 14 = .ok (.aload_n 0, 1) := by decide +kernel
theorem dX4_readPart_15 : decode cX4_readPart 15 = .ok (.getfield 9, 3) := by decide +kernel
theorem dX4_readPart_18 : decode cX4_readPart 18 = .ok (.invokevirtual 37, 3) := by decide +kernel
theorem dX4_readPart_21 : decode cX4_readPart 21 = .ok (.bipush 38, 2) := by decide +kernel
theorem dX4_readPart_23 : decode cX4_readPart 23 = .ok (.if_icmp .ne 38, 3) := by decide +kernel
theorem dX4_readPart_26 : decode cX4_readPart 26 = .ok (.aload_n 0, 1) := by decide +kernel
theorem dX4_readPart_27 : decode cX4_readPart 27 = .ok (.getfield 9, 3) := by decide +kernel
theorem dX4_readPart_30 : decode cX4_readPart 30 = .ok (.invokevirtual 51, 3) := by decide +kernel
theorem dX4_readPart_33 : decode cX4_readPart 33 = .ok (.aload_n 0, 1) := by decide +kernel
theorem dX4_readPart_34 : decode cX4_readPart 34 = .ok (.getfield 15, 3) := by decide +kernel
theorem dX4_readPart_37 : decode cX4_readPart 37 = .ok (.iconst 5, 1) := by decide +kernel
theorem dX4_readPart_38 : decode cX4_readPart 38 = .ok (.invokevirtual 74, 3) := by decide +kernel
theorem dX4_readPart_41 : decode cX4_readPart 41 = .ok (.istore_n 3, 1) := by decide +kernel
theorem dX4_readPart_42 : decode cX4_readPart 42 = .ok (.aload_n 0, 1) := by decide +kernel
theorem dX4_readPart_43 : decode cX4_readPart 43 = .ok (.iload_n 1, 1) := by decide +kernel
theorem dX4_readPart_44 : decode cX4_readPart 44 = .ok (.invokevirtual 81, 3) := by decide +kernel
theorem dX4_readPart_47 : decode cX4_readPart 47 = .ok (.aload_n 0, 1) := by decide +kernel
theorem dX4_readPart_48 : decode cX4_readPart 48 = .ok (.getfield 15, 3) := by decide +kernel
theorem dX4_readPart_51 : decode cX4_readPart 51 = .ok (.iload_n 3, 1) := by decide +kernel
theorem dX4_readPart_52 : decode cX4_readPart 52 = .ok (.invokevirtual 78, 3) := by decide +kernel
theorem dX4_readPart_55 : decode cX4_readPart 55 = .ok (.iinc 2 1, 3) := by decide +kernel
theorem dX4_readPart_58 : decode cX4_readPart 58 = .ok (.goto (-51), 3) := by decide +kernel
theorem dX4_readPart_61 : decode cX4_readPart 61 = .ok (.return_, 1) := by decide +kernel
theorem dX4_readTest_0 : decode cX4_readTest 0 = .ok (.aload_n 0, 1) := by decide +kernel
theorem dX4_readTest_1 : decode cX4_readTest 1 = .ok (.getfield 9, 3) := by decide +kernel
theorem dX4_readTest_4 : decode cX4_readTest 4 = .ok (.invokevirtual 37, 3) := by decide +kernel
theorem dX4_readTest_7 : decode cX4_readTest 7 = .ok (.istore_n 2, 1) := by decide +kernel
theorem dX4_readTest_8 : decode cX4_readTest 8 = .ok (.iload_n 2, 1) := by decide +kernel
theorem dX4_readTest_9 : decode cX4_readTest 9 = .ok (.bipush 33, 2) := by decide +kernel
theorem dX4_readTest_11 : decode cX4_readTest 11 = .ok (.if_icmp .ne 29, 3) := by decide +kernel
theorem dX4_readTest_14 : decode cX4_readTest 14 = .ok (.aload_n 0, 1) := by decide +kernel
theorem dX4_readTest_15 : decode cX4_readTest 15 = .ok (.iload_n 1, 1) := by decide +kernel
theorem dX4_readTest_16 : decode cX4_readTest 16 = .ok (.invokevirtual 84, 3) := by decide +kernel
theorem dX4_readTest_19 : decode cX4_readTest 19 = .ok (.ifCond .eq 105, 3) := by decide +kernel
theorem dX4_readTest_22 : decode cX4_readTest 22 = .ok (.aload_n 0, 1) := by decide +kernel
theorem dX4_readTest_23 : decode cX4_readTest 23 = .ok (.iload_n 1, 1) := by decide +kernel
theorem dX4_readTest_24 : decode cX4_readTest 24 = .ok (.iconst 1, 1) := by decide +kernel
theorem dX4_readTest_25 : decode cX4_readTest 25 = .ok (.iadd, 1) := by decide +kernel
theorem dX4_readTest_26 : decode cX4_readTest 26 = .ok (.invokevirtual 81, 3) := by decide +kernel
theorem dX4_readTest_29 : decode cX4_readTest 29 = .ok (.aload_n 0, 1) := by decide +kernel
theorem dX4_readTest_30 : decode cX4_readTest 30 = .ok (.getfield 15, 3) := by decide +kernel
theorem dX4_readTest_33 : decode cX4_readTest 33 = .ok (.iconst 3, 1) := by decide +kernel
theorem dX4_readTest_34 : decode cX4_readTest 34 = .ok (.invokevirtual 88, 3) := by decide +kernel
theorem dX4_readTest_37 : decode cX4_readTest 37 = .ok (.goto 87, 3) := by decide +kernel
theorem dX4_readTest_40 : decode cX4_readTest 40 = .ok (.iload_n 2, 1) := by decide +kernel
theorem dX4_readTest_41 : decode cX4_readTest 41 = .ok (.bipush 40, 2) := by decide +kernel
theorem dX4_readTest_43 : decode cX4_readTest 43 = .ok (.if_icmp .ne 30, 3) := by decide +kernel
theorem dX4_readTest_46 : decode cX4_readTest 46 = .ok (.aload_n 0, 1) := by decide +kernel
theorem dX4_readTest_47 : decode cX4_readTest 47 = .ok (.iload_n 1, 1) := by decide +kernel
theorem dX4_readTest_48 : decode cX4_readTest 48 = .ok (.invokevirtual 84, 3) := by decide +kernel
theorem dX4_readTest_51 : decode cX4_readTest 51 = .ok (.ifCond .eq 73, 3) := by decide +kernel
theorem dX4_readTest_54 : decode cX4_readTest 54 = .ok (.aload_n 0, 1) := by decide +kernel
theorem dX4_readTest_55 : decode cX4_readTest 55 = .ok (.iload_n 1, 1) := by decide +kernel
theorem dX4_readTest_56 : decode cX4_readTest 56 = .ok (.iconst 1, 1) := by decide +kernel
theorem dX4_readTest_57 : decode cX4_readTest 57 = .ok (.iadd, 1) := by decide +kernel
theorem dX4_readTest_58 : decode cX4_readTest 58 = .ok (.invokevirtual 64, 3) := by decide +kernel
theorem dX4_readTest_61 : decode cX4_readTest 61 = .ok (.aload_n 0, 1) := by decide +kernel
theorem dX4_readTest_62 : decode cX4_readTest 62 = .ok (.getfield 9, 3) := by decide +kernel
theorem dX4_readTest_65 : decode cX4_readTest 65 = .ok (.bipush 41, 2) := by decide +kernel
theorem dX4_readTest_67 : decode cX4_readTest 67 = .ok (.invokevirtual 41, 3) := by decide +kernel
theorem dX4_readTest_70 : decode cX4_readTest 70 = .ok (.goto 54, 3) := by decide +kernel
theorem dX4_readTest_73 : decode cX4_readTest 73 = .ok (.aload_n 0, 1) := by decide +kernel
theorem dX4_readTest_74 : decode cX4_readTest 74 = .ok (.iload_n 1, 1) := by decide +kernel
theorem dX4_readTest_75 : decode cX4_readTest 75 = .ok (.invokevirtual 61, 3) := by decide +kernel
theorem dX4_readTest_78 : decode cX4_readTest 78 = .ok (.aload_n 0, 1) := by decide +kernel
theorem dX4_readTest_79 : decode cX4_readTest 79 = .ok (.getfield 9, 3) := by decide +kernel
theorem dX4_readTest_82 : decode cX4_readTest 82 = .ok (.invokevirtual 37, 3) := by decide +kernel
theorem dX4_readTest_85 : decode cX4_readTest 85 = .ok (.istore_n 3, 1) := by decide +kernel
theorem dX4_readTest_86 : decode cX4_readTest 86 = .ok (.iload_n 3, 1) := by decide +kernel
theorem dX4_readTest_87 : decode cX4_readTest 87 = .ok (.invokestatic 91, 3) := by decide +kernel
theorem dX4_readTest_90 : decode cX4_readTest 90 = .ok (.ifCond .eq 26, 3) := by decide +kernel
theorem dX4_readTest_93 : decode cX4_readTest 93 = .ok (.aload_n 0, 1) := by decide +kernel
theorem dX4_readTest_94 : decode cX4_readTest 94 = .ok (.getfield 9, 3) := by decide +kernel
theorem dX4_readTest_97 : decode cX4_readTest 97 = .ok (.invokevirtual 51, 3) := by decide +kernel
theorem dX4_readTest_100 : decode cX4_readTest 100 = .ok (.aload_n 0, 1) := by decide +kernel
theorem dX4_readTest_101 : decode cX4_readTest 101 = .ok (.iload_n 1, 1) := by decide +kernel
theorem dX4_readTest_102 : decode cX4_readTest 102 = .ok (.invokevirtual 61, 3) := by decide +kernel
theorem dX4_readTest_105 : decode cX4_readTest 105 = .ok (.aload_n 0, 1) := by decide +kernel
theorem dX4_readTest_106 : decode cX4_readTest 106 = .ok (.getfield 15, 3) := by decide +kernel
theorem dX4_readTest_109 : decode cX4_readTest 109 = .ok (.iload_n 3, 1) := by decide +kernel
theorem dX4_readTest_110 : decode cX4_readTest 110 = .ok (.invokevirtual 88, 3) := by decide +kernel
theorem dX4_readTest_113 : decode cX4_readTest 113 = .ok (.goto 11, 3) := by decide +kernel
theorem dX4_readTest_116 : decode cX4_readTest 116 = .ok (.aload_n 0, 1) := by decide +kernel
theorem dX4_readTest_117 : decode cX4_readTest 117 = .ok (.getfield 9, 3) := by decide +kernel
theorem dX4_readTest_120 : decode cX4_readTest 120 = .ok (.iconst 1, 1) := by decide +kernel
theorem dX4_readTest_121 : decode cX4_readTest 121 = .ok (.invokevirtual 48, 3) := by decide +kernel
theorem dX4_readTest_124 : decode cX4_readTest 124 = .ok (.return_, 1) := by decide +kernel
theorem dX4_readSum_0 : decode cX4_readSum 0 = .ok (.aload_n 0, 1) := by decide +kernel
theorem dX4_readSum_1 : decode cX4_readSum 1 = .ok (.iload_n 1, 1) := by decide +kernel
theorem dX4_readSum_2 : decode cX4_readSum 2 = .ok (.invokevirtual 94, 3) := by decide +kernel
theorem dX4_readSum_5 : decode cX4_readSum 5 = .ok (.iconst 0, 1) := by decide +kernel
theorem dX4_readSum_6 : decode cX4_readSum 6 = .ok (.istore_n 2, 1) := by decide +kernel
theorem dX4_readSum_7 : decode cX4_readSum 7 = .ok (.iload_n 2, 1) := by decide +kernel
theorem dX4_readSum_8 : decode cX4_readSum 8 = .ok (.sipush 240, 3) := by decide +kernel
theorem dX4_readSum_11 : decode cX4_readSum 11 = .ok (.if_icmp .ge 50, 3) := by decide +kernel
theorem dX4_readSum_14 : decode cX4_readSum 14 = .ok (.aload_n 0, 1) := by decide +kernel
theorem dX4_readSum_15 : decode cX4_readSum 15 = .ok (.getfield 9, 3) := by decide +kernel
theorem dX4_readSum_18 : decode cX4_readSum 18 = .ok (.invokevirtual 37, 3) := by decide +kernel
theorem dX4_readSum_21 : decode cX4_readSum 21 = .ok (.invokestatic 97, 3) := by decide +kernel
theorem dX4_readSum_24 : decode cX4_readSum 24 = .ok (.ifCond .eq 37, 3) := by decide +kernel
theorem dX4_readSum_27 : decode cX4_readSum 27 = .ok (.aload_n 0, 1) := by decide +kernel
theorem dX4_readSum_28 : decode cX4_readSum 28 = .ok (.getfield 9, 3) := by decide +kernel
theorem dX4_readSum_31 : decode cX4_readSum 31 = .ok (.invokevirtual 37, 3) := by decide +kernel
theorem dX4_readSum_34 : decode cX4_readSum 34 = .ok (.istore_n 3, 1) := by decide +kernel
theorem dX4_readSum_35 : decode cX4_readSum 35 = .ok (.aload_n 0, 1) := by decide +kernel
theorem dX4_readSum_36 : decode cX4_readSum 36 = .ok (.getfield 9, 3) := by decide +kernel
theorem dX4_readSum_39 : decode cX4_readSum 39 = .ok (.invokevirtual 51, 3) := by decide +kernel
theorem dX4_readSum_42 : decode cX4_readSum 42 = .ok (.aload_n 0, 1) := by decide +kernel
theorem dX4_readSum_43 : decode cX4_readSum 43 = .ok (.iload_n 1, 1) := by decide +kernel
theorem dX4_readSum_44 : decode cX4_readSum 44 = .ok (.invokevirtual 94, 3) := by decide +kernel
theorem dX4_readSum_47 : decode cX4_readSum 47 = .ok (.aload_n 0, 1) := by decide +kernel
theorem dX4_readSum_48 : decode cX4_readSum 48 = .ok (.getfield 15, 3) := by decide +kernel
theorem dX4_readSum_51 : decode cX4_readSum 51 = .ok (.iload_n 3, 1) := by decide +kernel
theorem dX4_readSum_52 : decode cX4_readSum 52 = .ok (.invokevirtual 88, 3) := by decide +kernel
theorem dX4_readSum_55 : decode cX4_readSum 55 = .ok (.iinc 2 1, 3) := by decide +kernel
theorem dX4_readSum_58 : decode cX4_readSum 58 = .ok (.goto (-51), 3) := by decide +kernel
theorem dX4_readSum_61 : decode cX4_readSum 61 = .ok (.return_, 1) := by decide +kernel
theorem dX4_readTerm_0 : decode cX4_readTerm 0 = .ok (.aload_n 0, 1) := by decide +kernel
theorem dX4_readTerm_1 : decode cX4_readTerm 1 = .ok (.iload_n 1, 1) := by decide +kernel
theorem dX4_readTerm_2 : decode cX4_readTerm 2 = .ok (.invokevirtual 100, 3) := by decide +kernel
theorem dX4_readTerm_5 : decode cX4_readTerm 5 = .ok (.iconst 0, 1) := by decide +kernel
theorem dX4_readTerm_6 : decode cX4_readTerm 6 = .ok (.istore_n 2, 1) := by decide +kernel
theorem dX4_readTerm_7 : decode cX4_readTerm 7 = .ok (.iload_n 2, 1) := by decide +kernel
theorem dX4_readTerm_8 : decode cX4_readTerm 8 = .ok (.sipush 240, 3) := by decide +kernel
theorem dX4_readTerm_11 : decode cX4_readTerm 11 = .ok (.if_icmp .ge 50, 3) := by decide +kernel
theorem dX4_readTerm_14 : decode cX4_readTerm 14 = .ok (.aload_n 0, 1) := by decide +kernel
theorem dX4_readTerm_15 : decode cX4_readTerm 15 = .ok (.getfield 9, 3) := by decide +kernel
theorem dX4_readTerm_18 : decode cX4_readTerm 18 = .ok (.invokevirtual 37, 3) := by decide +kernel
theorem dX4_readTerm_21 : decode cX4_readTerm 21 = .ok (.invokestatic 103, 3) := by decide +kernel
theorem dX4_readTerm_24 : decode cX4_readTerm 24 = .ok (.ifCond .eq 37, 3) := by decide +kernel
theorem dX4_readTerm_27 : decode cX4_readTerm 27 = .ok (.aload_n 0, 1) := by decide +kernel
theorem dX4_readTerm_28 : decode cX4_readTerm 28 = .ok (.getfield 9, 3) := by decide +kernel
theorem dX4_readTerm_31 : decode cX4_readTerm 31 = .ok (.invokevirtual 37, 3) := by decide +kernel
theorem dX4_readTerm_34 : decode cX4_readTerm 34 = .ok (.istore_n 3, 1) := by decide +kernel
theorem dX4_readTerm_35 : decode cX4_readTerm 35 = .ok (.aload_n 0, 1) := by decide +kernel
theorem dX4_readTerm_36 : decode cX4_readTerm 36 = .ok (.getfield 9, 3) := by decide +kernel
theorem dX4_readTerm_39 : decode cX4_readTerm 39 = .ok (.invokevirtual 51, 3) := by decide +kernel
theorem dX4_readTerm_42 : decode cX4_readTerm 42 = .ok (.aload_n 0, 1) := by decide +kernel
theorem dX4_readTerm_43 : decode cX4_readTerm 43 = .ok (.iload_n 1, 1) := by decide +kernel
theorem dX4_readTerm_44 : decode cX4_readTerm 44 = .ok (.invokevirtual 100, 3) := by decide +kernel
theorem dX4_readTerm_47 : decode cX4_readTerm 47 = .ok (.aload_n 0, 1) := by decide +kernel
theorem dX4_readTerm_48 : decode cX4_readTerm 48 = .ok (.getfield 15, 3) := by decide +kernel
theorem dX4_readTerm_51 : decode cX4_readTerm 51 = .ok (.iload_n 3, 1) := by decide +kernel
theorem dX4_readTerm_52 : decode cX4_readTerm 52 = .ok (.invokevirtual 88, 3) := by decide +kernel
theorem dX4_readTerm_55 : decode cX4_readTerm 55 = .ok (.iinc 2 1, 3) := by decide +kernel
theorem dX4_readTerm_58 : decode cX4_readTerm 58 = .ok (.goto (-51), 3) := by decide +kernel
theorem dX4_readTerm_61 : decode cX4_readTerm 61 = .ok (.return_, 1) := by decide +kernel
theorem dX4_readFactor_0 : decode cX4_readFactor 0 = .ok (.aload_n 0, 1) := by decide +kernel
theorem dX4_readFactor_1 : decode cX4_readFactor 1 = .ok (.getfield 9, 3) := by decide +kernel
theorem dX4_readFactor_4 : decode cX4_readFactor 4 = .ok (.invokevirtual 37, 3) := by decide +kernel
theorem dX4_readFactor_7 : decode cX4_readFactor 7 = .ok (.istore_n 2, 1) := by decide +kernel
theorem dX4_readFactor_8 : decode cX4_readFactor 8 = .ok (.iload_n 2, 1) := by decide +kernel
theorem dX4_readFactor_9 : decode cX4_readFactor 9 = .ok (.bipush 91, 2) := by decide +kernel
theorem dX4_readFactor_11 : decode cX4_readFactor 11 = .ok (.if_icmp .ne 30, 3) := by decide +kernel
theorem dX4_readFactor_14 : decode cX4_readFactor 14 = .ok (.aload_n 0, 1) := by decide +kernel
theorem dX4_readFactor_15 : decode cX4_readFactor 15 = .ok (.iload_n 1, 1) := by decide +kernel
theorem dX4_readFactor_16 : decode cX4_readFactor 16 = .ok (.invokevirtual 84, 3) := by decide +kernel
theorem dX4_readFactor_19 : decode cX4_readFactor 19 = .ok (.ifCond .eq 41, 3) := by decide +kernel
theorem dX4_readFactor_22 : decode cX4_readFactor 22 = .ok (.aload_n 0, 1) := by decide +kernel
theorem dX4_readFactor_23 : decode cX4_readFactor 23 = .ok (.iload_n 1, 1) := by decide +kernel
theorem dX4_readFactor_24 : decode cX4_readFactor 24 = .ok (.iconst 1, 1) := by decide +kernel
theorem dX4_readFactor_25 : decode cX4_readFactor 25 = .ok (.iadd, 1) := by decide +kernel
theorem dX4_readFactor_26 : decode cX4_readFactor 26 = .ok (.invokevirtual 61, 3) := by decide +kernel
theorem dX4_readFactor_29 : decode cX4_readFactor 29 = .ok (.aload_n 0, 1) := by decide +kernel
theorem dX4_readFactor_30 : decode cX4_readFactor 30 = .ok (.getfield 9, 3) := by decide +kernel
theorem dX4_readFactor_33 : decode cX4_readFactor 33 = .ok (.bipush 93, 2) := by decide +kernel
theorem dX4_readFactor_35 : decode cX4_readFactor 35 = .ok (.invokevirtual 41, 3) := by decide +kernel
theorem dX4_readFactor_38 : decode cX4_readFactor 38 = .ok (.goto 22, 3) := by decide +kernel
theorem dX4_readFactor_41 : decode cX4_readFactor 41 = .ok (.iload_n 2, 1) := by decide +kernel
theorem dX4_readFactor_42 : decode cX4_readFactor 42 = .ok (.invokestatic 106, 3) := by decide +kernel
theorem dX4_readFactor_45 : decode cX4_readFactor 45 = .ok (.ifCond .eq 10, 3) := by decide +kernel
theorem dX4_readFactor_48 : decode cX4_readFactor 48 = .ok (.aload_n 0, 1) := by decide +kernel
theorem dX4_readFactor_49 : decode cX4_readFactor 49 = .ok (.invokevirtual 109, 3) := by decide +kernel
theorem dX4_readFactor_52 : decode cX4_readFactor 52 = .ok (.goto 8, 3) := by decide +kernel
theorem dX4_readFactor_55 : decode cX4_readFactor 55 = .ok (.aload_n 0, 1) := by decide +kernel
theorem dX4_readFactor_56 : decode cX4_readFactor 56 = .ok (.iload_n 2, 1) := by decide +kernel
theorem dX4_readFactor_57 : decode cX4_readFactor 57 = .ok (.invokevirtual 112, 3) := by decide +kernel
theorem dX4_readFactor_60 : decode cX4_readFactor 60 = .ok (.return_, 1) := by decide +kernel
theorem dX4_readNumber_0 : decode cX4_readNumber 0 = .ok (.iconst 0, 1) := by decide +kernel
theorem dX4_readNumber_1 : decode cX4_readNumber 1 = .ok (.istore_n 1, 1) := by decide +kernel
theorem dX4_readNumber_2 : decode cX4_readNumber 2 = .ok (.iconst 0, 1) := by decide +kernel
theorem dX4_readNumber_3 : decode cX4_readNumber 3 = .ok (.istore_n 2, 1) := by decide +kernel
theorem dX4_readNumber_4 : decode cX4_readNumber 4 = .ok (.iload_n 2, 1) := by decide +kernel
theorem dX4_readNumber_5 : decode cX4_readNumber 5 = .ok (.iconst 5, 1) := by decide +kernel
theorem dX4_readNumber_6 : decode cX4_readNumber 6 = .ok (.if_icmp .ge 45, 3) := by decide +kernel
theorem dX4_readNumber_9 : decode cX4_readNumber 9 = .ok (.aload_n 0, 1) := by decide +kernel
theorem dX4_readNumber_10 : decode cX4_readNumber 10 = .ok (.getfield 9, 3) := by decide +kernel
theorem dX4_readNumber_13 : decode cX4_readNumber 13 = .ok (.invokevirtual 37, 3) := by decide +kernel
theorem dX4_readNumber_16 : decode cX4_readNumber 16 = .ok (.invokestatic 106, 3) := by decide +kernel
theorem dX4_readNumber_19 : decode cX4_readNumber 19 = .ok (.ifCond .eq 32, 3) := by decide +kernel
theorem dX4_readNumber_22 : decode cX4_readNumber 22 = .ok (.bipush 10, 2) := by decide +kernel
theorem dX4_readNumber_24 : decode cX4_readNumber 24 = .ok (.iload_n 1, 1) := by decide +kernel
theorem dX4_readNumber_25 : decode cX4_readNumber 25 = .ok (.imul, 1) := by decide +kernel
theorem dX4_readNumber_26 : decode cX4_readNumber 26 = .ok (.aload_n 0, 1) := by decide +kernel
theorem dX4_readNumber_27 : decode cX4_readNumber 27 = .ok (.getfield 9, 3) := by decide +kernel
theorem dX4_readNumber_30 : decode cX4_readNumber 30 = .ok (.invokevirtual 37, 3) := by decide +kernel
theorem dX4_readNumber_33 : decode cX4_readNumber 33 = .ok (.iadd, 1) := by decide +kernel
theorem dX4_readNumber_34 : decode cX4_readNumber 34 = .ok (.bipush 48, 2) := by decide +kernel
theorem dX4_readNumber_36 : decode cX4_readNumber 36 = .ok (.isub, 1) := by decide +kernel
theorem dX4_readNumber_37 : decode cX4_readNumber 37 = .ok (.istore_n 1, 1) := by decide +kernel
theorem dX4_readNumber_38 : decode cX4_readNumber 38 = .ok (.aload_n 0, 1) := by decide +kernel
theorem dX4_readNumber_39 : decode cX4_readNumber 39 = .ok (.getfield 9, 3) := by decide +kernel
theorem dX4_readNumber_42 : decode cX4_readNumber 42 = .ok (.invokevirtual 51, 3) := by decide +kernel
theorem dX4_readNumber_45 : decode cX4_readNumber 45 = .ok (.iinc 2 1, 3) := by decide +kernel
theorem dX4_readNumber_48 : decode cX4_readNumber 48 = .ok (.goto (-44), 3) := by decide +kernel
theorem dX4_readNumber_51 : decode cX4_readNumber 51 = .ok (.aload_n 0, 1) := by decide +kernel
theorem dX4_readNumber_52 : decode cX4_readNumber 52 = .ok (.getfield 9, 3) := by decide +kernel
theorem dX4_readNumber_55 : decode cX4_readNumber 55 = .ok (.invokevirtual 37, 3) := by decide +kernel
theorem dX4_readNumber_58 : decode cX4_readNumber 58 = .ok (.invokestatic 106, 3) := by decide +kernel
theorem dX4_readNumber_61 : decode cX4_readNumber 61 = .ok (.ifCond .eq 11, 3) := by decide +kernel
theorem dX4_readNumber_64 : decode cX4_readNumber 64 = .ok (.aload_n 0, 1) := by decide +kernel
theorem dX4_readNumber_65 : decode cX4_readNumber 65 = .ok (.getfield 9, 3) := by decide +kernel
theorem dX4_readNumber_68 : decode cX4_readNumber 68 = .ok (.iconst 2, 1) := by decide +kernel
theorem dX4_readNumber_69 : decode cX4_readNumber 69 = .ok (.invokevirtual 48, 3) := by decide +kernel
theorem dX4_readNumber_72 : decode cX4_readNumber 72 = .ok (.aload_n 0, 1) := by decide +kernel
theorem dX4_readNumber_73 : decode cX4_readNumber 73 = .ok (.getfield 15, 3) := by decide +kernel
theorem dX4_readNumber_76 : decode cX4_readNumber 76 = .ok (.iconst 1, 1) := by decide +kernel
theorem dX4_readNumber_77 : decode cX4_readNumber 77 = .ok (.iload_n 1, 1) := by decide +kernel
theorem dX4_readNumber_78 : decode cX4_readNumber 78 = .ok (.invokevirtual 57, 3) := by decide +kernel
theorem dX4_readNumber_81 : decode cX4_readNumber 81 = .ok (.return_, 1) := by decide +kernel
theorem dX4_readFact_0 : decode cX4_readFact 0 = .ok (.iload_n 1, 1) := by decide +kernel
theorem dX4_readFact_1 : decode cX4_readFact 1 = .ok (.ifCond .ge 7, 3) := by decide +kernel
theorem dX4_readFact_4 : decode cX4_readFact 4 = .ok (.iconst (-1), 1) := by decide +kernel
theorem dX4_readFact_5 : decode cX4_readFact 5 = .ok (.goto 10, 3) := by decide +kernel
theorem dX4_readFact_8 : decode cX4_readFact 8 = .ok (.ldc 115, 2) := by decide +kernel
theorem dX4_readFact_10 : decode cX4_readFact 10 = .ok (.iload_n 1, 1) := by decide +kernel
theorem dX4_readFact_11 : decode cX4_readFact 11 = .ok (.i2c, 1) := by decide +kernel
theorem dX4_readFact_12 : decode cX4_readFact 12 = .ok (.invokevirtual 117, 3) := by decide +kernel
theorem dX4_readFact_15 : decode cX4_readFact 15 = .ok (.istore_n 2, 1) := by decide +kernel
theorem dX4_readFact_16 : decode cX4_readFact 16 = .ok (.iload_n 2, 1) := by decide +kernel
theorem dX4_readFact_17 : decode cX4_readFact 17 = .ok (.ifCond .ge 12, 3) := by decide +kernel
theorem dX4_readFact_20 : decode cX4_readFact 20 = .ok (.aload_n 0, 1) := by decide +kernel
theorem dX4_readFact_21 : decode cX4_readFact 21 = .ok (.getfield 9, 3) := by decide +kernel
theorem dX4_readFact_24 : decode cX4_readFact 24 = .ok (.iconst 1, 1) := by decide +kernel
theorem dX4_readFact_25 : decode cX4_readFact 25 = .ok (.invokevirtual 48, 3) := by decide +kernel
theorem dX4_readFact_28 : decode cX4_readFact 28 = .ok (.return_, 1) := by decide +kernel
theorem dX4_readFact_29 : decode cX4_readFact 29 = .ok (.aload_n 0, 1) := by decide +kernel
theorem dX4_readFact_30 : decode cX4_readFact 30 = .ok (.getfield 9, 3) := by decide +kernel
theorem dX4_readFact_33 : decode cX4_readFact 33 = .ok (.invokevirtual 51, 3) := by decide +kernel
theorem dX4_readFact_36 : decode cX4_readFact 36 = .ok (.aload_n 0, 1) := by decide +kernel
theorem dX4_readFact_37 : decode cX4_readFact 37 = .ok (.getfield 15, 3) := by decide +kernel
theorem dX4_readFact_40 : decode cX4_readFact 40 = .ok (.iconst 2, 1) := by decide +kernel
theorem dX4_readFact_41 : decode cX4_readFact 41 = .ok (.iload_n 2, 1) := by decide +kernel
theorem dX4_readFact_42 : decode cX4_readFact 42 = .ok (.invokevirtual 57, 3) := by decide +kernel
theorem dX4_readFact_45 : decode cX4_readFact 45 = .ok (.return_, 1) := by decide +kernel
theorem dX4_opens_0 : decode cX4_opens 0 = .ok (.iload_n 1, 1) := by decide +kernel
theorem dX4_opens_1 : decode cX4_opens 1 = .ok (.bipush 6, 2) := by decide +kernel
theorem dX4_opens_3 : decode cX4_opens 3 = .ok (.if_icmp .lt 13, 3) := by decide +kernel
theorem dX4_opens_6 : decode cX4_opens 6 = .ok (.aload_n 0, 1) := by decide +kernel
theorem dX4_opens_7 : decode cX4_opens 7 = .ok (.getfield 9, 3) := by decide +kernel
theorem dX4_opens_10 : decode cX4_opens 10 = .ok (.iconst 5, 1) := by decide +kernel
theorem dX4_opens_11 : decode cX4_opens 11 = .ok (.invokevirtual 48, 3) := by decide +kernel
theorem dX4_opens_14 : decode cX4_opens 14 = .ok (.iconst 0, 1) := by decide +kernel
theorem dX4_opens_15 : decode cX4_opens 15 = .ok (.ireturn, 1) := by decide +kernel
theorem dX4_opens_16 : decode cX4_opens 16 = .ok (.aload_n 0, 1) := by decide +kernel
theorem dX4_opens_17 : decode cX4_opens 17 = .ok (.getfield 9, 3) := by decide +kernel
theorem dX4_opens_20 : decode cX4_opens 20 = .ok (.invokevirtual 51, 3) := by decide +kernel
theorem dX4_opens_23 : decode cX4_opens 23 = .ok (.iconst 1, 1) := by decide +kernel
theorem dX4_opens_24 : decode cX4_opens 24 = .ok (.ireturn, 1) := by decide +kernel
theorem dX4_isComparison_0 : decode cX4_isComparison 0 = .ok (.iload_n 0, 1) := by decide +kernel
theorem dX4_isComparison_1 : decode cX4_isComparison 1 = .ok (.bipush 60, 2) := by decide +kernel
theorem dX4_isComparison_3 : decode cX4_isComparison 3 = .ok (.if_icmp .eq 15, 3) := by decide +kernel
theorem dX4_isComparison_6 : decode cX4_isComparison 6 = .ok (.iload_n 0, 1) := by decide +kernel
theorem dX4_isComparison_7 : decode cX4_isComparison 7 = .ok (.bipush 62, 2) := by decide +kernel
theorem dX4_isComparison_9 : decode cX4_isComparison 9 = .ok (.if_icmp .eq 9, 3) := by decide +kernel
theorem dX4_isComparison_12 : decode cX4_isComparison 12 = .ok (.iload_n 0, 1) := by decide +kernel
theorem dX4_isComparison_13 : decode cX4_isComparison 13 = .ok (.bipush 61, 2) := by decide +kernel
theorem dX4_isComparison_15 : decode cX4_isComparison 15 = .ok (.if_icmp .ne 7, 3) := by decide +kernel
theorem dX4_isComparison_18 : decode cX4_isComparison 18 = .ok (.iconst 1, 1) := by decide +kernel
theorem dX4_isComparison_19 : decode cX4_isComparison 19 = .ok (.goto 4, 3) := by decide +kernel
theorem dX4_isComparison_22 : decode cX4_isComparison 22 = .ok (.iconst 0, 1) := by decide +kernel
theorem dX4_isComparison_23 : decode cX4_isComparison 23 = .ok (.ireturn, 1) := by decide +kernel
theorem dX4_isSumSign_0 : decode cX4_isSumSign 0 = .ok (.iload_n 0, 1) := by decide +kernel
theorem dX4_isSumSign_1 : decode cX4_isSumSign 1 = .ok (.bipush 43, 2) := by decide +kernel
theorem dX4_isSumSign_3 : decode cX4_isSumSign 3 = .ok (.if_icmp .eq 9, 3) := by decide +kernel
theorem dX4_isSumSign_6 : decode cX4_isSumSign 6 = .ok (.iload_n 0, 1) := by decide +kernel
theorem dX4_isSumSign_7 : decode cX4_isSumSign 7 = .ok (.bipush 45, 2) := by decide +kernel
theorem dX4_isSumSign_9 : decode cX4_isSumSign 9 = .ok (.if_icmp .ne 7, 3) := by decide +kernel
theorem dX4_isSumSign_12 : decode cX4_isSumSign 12 = .ok (.iconst 1, 1) := by decide +kernel
theorem dX4_isSumSign_13 : decode cX4_isSumSign 13 = .ok (.goto 4, 3) := by decide +kernel
theorem dX4_isSumSign_16 : decode cX4_isSumSign 16 = .ok (.iconst 0, 1) := by decide +kernel
theorem dX4_isSumSign_17 : decode cX4_isSumSign 17 = .ok (.ireturn, 1) := by decide +kernel
theorem dX4_isTermSign_0 : decode cX4_isTermSign 0 = .ok (.iload_n 0, 1) := by decide +kernel
theorem dX4_isTermSign_1 : decode cX4_isTermSign 1 = .ok (.bipush 42, 2) := by decide +kernel
theorem dX4_isTermSign_3 : decode cX4_isTermSign 3 = .ok (.if_icmp .eq 15, 3) := by decide +kernel
theorem dX4_isTermSign_6 : decode cX4_isTermSign 6 = .ok (.iload_n 0, 1) := by decide +kernel
theorem dX4_isTermSign_7 : decode cX4_isTermSign 7 = .ok (.bipush 47, 2) := by decide +kernel
theorem dX4_isTermSign_9 : decode cX4_isTermSign 9 = .ok (.if_icmp .eq 9, 3) := by decide +kernel
theorem dX4_isTermSign_12 : decode cX4_isTermSign 12 = .ok (.iload_n 0, 1) := by decide +kernel
theorem dX4_isTermSign_13 : decode cX4_isTermSign 13 = .ok (.bipush 37, 2) := by decide +kernel
theorem dX4_isTermSign_15 : decode cX4_isTermSign 15 = .ok (.if_icmp .ne 7, 3) := by decide +kernel
theorem dX4_isTermSign_18 : decode cX4_isTermSign 18 = .ok (.iconst 1, 1) := by decide +kernel
theorem dX4_isTermSign_19 : decode cX4_isTermSign 19 = .ok (.goto 4, 3) := by decide +kernel
theorem dX4_isTermSign_22 : decode cX4_isTermSign 22 = .ok (.iconst 0, 1) := by decide +kernel
theorem dX4_isTermSign_23 : decode cX4_isTermSign 23 = .ok (.ireturn, 1) := by decide +kernel

theorem dX11_shut_95 : decode cX11_shut 95 = .ok (.bipush (-2), 2) := by decide +kernel
theorem dX11_shut_97 : decode cX11_shut 97 = .ok (.ireturn, 1) := by decide +kernel
theorem dX11_laysSums_0 : decode cX11_laysSums 0 = .ok (.iconst 0, 1) := by decide +kernel
theorem dX11_laysSums_1 : decode cX11_laysSums 1 = .ok (.istore_n 1, 1) := by decide +kernel
theorem dX11_laysSums_2 : decode cX11_laysSums 2 = .ok (.iload_n 1, 1) := by decide +kernel
theorem dX11_laysSums_3 : decode cX11_laysSums 3 = .ok (.iconst 1, 1) := by decide +kernel
theorem dX11_laysSums_4 : decode cX11_laysSums 4 = .ok (.aload_n 0, 1) := by decide +kernel
theorem dX11_laysSums_5 : decode cX11_laysSums 5 = .ok (.getfield 137, 3) := by decide +kernel
theorem dX11_laysSums_8 : decode cX11_laysSums 8 = .ok (.ishl, 1) := by decide +kernel
theorem dX11_laysSums_9 : decode cX11_laysSums 9 = .ok (.if_icmp .ge 76, 3) := by decide +kernel
theorem dX11_laysSums_12 : decode cX11_laysSums 12 = .ok (.aload_n 0, 1) := by decide +kernel
theorem dX11_laysSums_13 : decode cX11_laysSums 13 = .ok (.getfield 86, 3) := by decide +kernel
theorem dX11_laysSums_16 : decode cX11_laysSums 16 = .ok (.iload_n 1, 1) := by decide +kernel
theorem dX11_laysSums_17 : decode cX11_laysSums 17 = .ok (.iconst 0, 1) := by decide +kernel
theorem dX11_laysSums_18 : decode cX11_laysSums 18 = .ok (.iastore, 1) := by decide +kernel
theorem dX11_laysSums_19 : decode cX11_laysSums 19 = .ok (.iconst 0, 1) := by decide +kernel
theorem dX11_laysSums_20 : decode cX11_laysSums 20 = .ok (.istore_n 2, 1) := by decide +kernel
theorem dX11_laysSums_21 : decode cX11_laysSums 21 = .ok (.iload_n 2, 1) := by decide +kernel
theorem dX11_laysSums_22 : decode cX11_laysSums 22 = .ok (.aload_n 0, 1) := by decide +kernel
theorem dX11_laysSums_23 : decode cX11_laysSums 23 = .ok (.getfield 137, 3) := by decide +kernel
theorem dX11_laysSums_26 : decode cX11_laysSums 26 = .ok (.if_icmp .ge 36, 3) := by decide +kernel
theorem dX11_laysSums_29 : decode cX11_laysSums 29 = .ok (.iload_n 1, 1) := by decide +kernel
theorem dX11_laysSums_30 : decode cX11_laysSums 30 = .ok (.iload_n 2, 1) := by decide +kernel
theorem dX11_laysSums_31 : decode cX11_laysSums 31 = .ok (.invokestatic 133, 3) := by decide +kernel
theorem dX11_laysSums_34 : decode cX11_laysSums 34 = .ok (.ifCond .eq 22, 3) := by decide +kernel
theorem dX11_laysSums_37 : decode cX11_laysSums 37 = .ok (.aload_n 0, 1) := by decide +kernel
theorem dX11_laysSums_38 : decode cX11_laysSums 38 = .ok (.getfield 86, 3) := by decide +kernel
theorem dX11_laysSums_41 : decode cX11_laysSums 41 = .ok (.iload_n 1, 1) := by decide +kernel
theorem dX11_laysSums_42 : decode cX11_laysSums 42 = .ok (.aload_n 0, 1) := by decide +kernel
theorem dX11_laysSums_43 : decode cX11_laysSums 43 = .ok (.getfield 86, 3) := by decide +kernel
theorem dX11_laysSums_46 : decode cX11_laysSums 46 = .ok (.iload_n 1, 1) := by decide +kernel
theorem dX11_laysSums_47 : decode cX11_laysSums 47 = .ok (.iaload, 1) := by decide +kernel
theorem dX11_laysSums_48 : decode cX11_laysSums 48 = .ok (.aload_n 0, 1) := by decide +kernel
theorem dX11_laysSums_49 : decode cX11_laysSums 49 = .ok (.getfield 25, 3) := by decide +kernel
theorem dX11_laysSums_52 : decode cX11_laysSums 52 = .ok (.iload_n 2, 1) := by decide +kernel
theorem dX11_laysSums_53 : decode cX11_laysSums 53 = .ok (.iaload, 1) := by decide +kernel
theorem dX11_laysSums_54 : decode cX11_laysSums 54 = .ok (.iadd, 1) := by decide +kernel
theorem dX11_laysSums_55 : decode cX11_laysSums 55 = .ok (.iastore, 1) := by decide +kernel
theorem dX11_laysSums_56 : decode cX11_laysSums 56 = .ok (.iinc 2 1, 3) := by decide +kernel
theorem dX11_laysSums_59 : decode cX11_laysSums 59 = .ok (.goto (-38), 3) := by decide +kernel
theorem dX11_laysSums_62 : decode cX11_laysSums 62 = .ok (.aload_n 0, 1) := by decide +kernel
theorem dX11_laysSums_63 : decode cX11_laysSums 63 = .ok (.getfield 89, 3) := by decide +kernel
theorem dX11_laysSums_66 : decode cX11_laysSums 66 = .ok (.iload_n 1, 1) := by decide +kernel
theorem dX11_laysSums_67 : decode cX11_laysSums 67 = .ok (.iload_n 1, 1) := by decide +kernel
theorem dX11_laysSums_68 : decode cX11_laysSums 68 = .ok (.ifCond .ne 7, 3) := by decide +kernel
theorem dX11_laysSums_71 : decode cX11_laysSums 71 = .ok (.iconst 0, 1) := by decide +kernel
theorem dX11_laysSums_72 : decode cX11_laysSums 72 = .ok (.goto 6, 3) := by decide +kernel
theorem dX11_laysSums_75 : decode cX11_laysSums 75 = .ok (.ldc_w 342, 3) := by decide +kernel
theorem dX11_laysSums_78 : decode cX11_laysSums 78 = .ok (.iastore, 1) := by decide +kernel
theorem dX11_laysSums_79 : decode cX11_laysSums 79 = .ok (.iinc 1 1, 3) := by decide +kernel
theorem dX11_laysSums_82 : decode cX11_laysSums 82 = .ok (.goto (-80), 3) := by decide +kernel
theorem dX11_laysSums_85 : decode cX11_laysSums 85 = .ok (.return_, 1) := by decide +kernel
theorem dX11_fewest_0 : decode cX11_fewest 0 = .ok (.aload_n 0, 1) := by decide +kernel
theorem dX11_fewest_1 : decode cX11_fewest 1 = .ok (.getfield 137, 3) := by decide +kernel
theorem dX11_fewest_4 : decode cX11_fewest 4 = .ok (.bipush 10, 2) := by decide +kernel
theorem dX11_fewest_6 : decode cX11_fewest 6 = .ok (.if_icmp .le 6, 3) := by decide +kernel
theorem dX11_fewest_9 : decode cX11_fewest 9 = .ok (.bipush (-4), 2) := by decide +kernel
theorem dX11_fewest_11 : decode cX11_fewest 11 = .ok (.ireturn, 1) := by decide +kernel
theorem dX11_fewest_12 : decode cX11_fewest 12 = .ok (.aload_n 0, 1) := by decide +kernel
theorem dX11_fewest_13 : decode cX11_fewest 13 = .ok (.invokevirtual 343, 3) := by decide +kernel
theorem dX11_fewest_16 : decode cX11_fewest 16 = .ok (.iconst 1, 1) := by decide +kernel
theorem dX11_fewest_17 : decode cX11_fewest 17 = .ok (.aload_n 0, 1) := by decide +kernel
theorem dX11_fewest_18 : decode cX11_fewest 18 = .ok (.getfield 137, 3) := by decide +kernel
theorem dX11_fewest_21 : decode cX11_fewest 21 = .ok (.ishl, 1) := by decide +kernel
theorem dX11_fewest_22 : decode cX11_fewest 22 = .ok (.iconst 1, 1) := by decide +kernel
theorem dX11_fewest_23 : decode cX11_fewest 23 = .ok (.isub, 1) := by decide +kernel
theorem dX11_fewest_24 : decode cX11_fewest 24 = .ok (.istore_n 1, 1) := by decide +kernel
theorem dX11_fewest_25 : decode cX11_fewest 25 = .ok (.iconst 0, 1) := by decide +kernel
theorem dX11_fewest_26 : decode cX11_fewest 26 = .ok (.istore_n 2, 1) := by decide +kernel
theorem dX11_fewest_27 : decode cX11_fewest 27 = .ok (.iload_n 2, 1) := by decide +kernel
theorem dX11_fewest_28 : decode cX11_fewest 28 = .ok (.bipush 12, 2) := by decide +kernel
theorem dX11_fewest_30 : decode cX11_fewest 30 = .ok (.if_icmp .ge 92, 3) := by decide +kernel
theorem dX11_fewest_33 : decode cX11_fewest 33 = .ok (.iload_n 1, 1) := by decide +kernel
theorem dX11_fewest_34 : decode cX11_fewest 34 = .ok (.istore_n 3, 1) := by decide +kernel
theorem dX11_fewest_35 : decode cX11_fewest 35 = .ok (.iload_n 3, 1) := by decide +kernel
theorem dX11_fewest_36 : decode cX11_fewest 36 = .ok (.ifCond .le 80, 3) := by decide +kernel
theorem dX11_fewest_39 : decode cX11_fewest 39 = .ok (.aload_n 0, 1) := by decide +kernel
theorem dX11_fewest_40 : decode cX11_fewest 40 = .ok (.iload_n 2, 1) := by decide +kernel
theorem dX11_fewest_41 : decode cX11_fewest 41 = .ok (.invokevirtual 152, 3) := by decide +kernel
theorem dX11_fewest_44 : decode cX11_fewest 44 = .ok (.ifCond .eq 72, 3) := by decide +kernel
theorem dX11_fewest_47 : decode cX11_fewest 47 = .ok (.iload_n 3, 1) := by decide +kernel
theorem dX11_fewest_48 : decode cX11_fewest 48 = .ok (.istore 4, 2) := by decide +kernel
theorem dX11_fewest_50 : decode cX11_fewest 50 = .ok (.iload 4, 2) := by decide +kernel
theorem dX11_fewest_52 : decode cX11_fewest 52 = .ok (.ifCond .le 58, 3) := by decide +kernel
theorem dX11_fewest_55 : decode cX11_fewest 55 = .ok (.aload_n 0, 1) := by decide +kernel
theorem dX11_fewest_56 : decode cX11_fewest 56 = .ok (.getfield 86, 3) := by decide +kernel
theorem dX11_fewest_59 : decode cX11_fewest 59 = .ok (.iload 4, 2) := by decide +kernel
theorem dX11_fewest_61 : decode cX11_fewest 61 = .ok (.iaload, 1) := by decide +kernel
theorem dX11_fewest_62 : decode cX11_fewest 62 = .ok (.aload_n 0, 1) := by decide +kernel
theorem dX11_fewest_63 : decode cX11_fewest 63 = .ok (.getfield 19, 3) := by decide +kernel
theorem dX11_fewest_66 : decode cX11_fewest 66 = .ok (.iload_n 2, 1) := by decide +kernel
theorem dX11_fewest_67 : decode cX11_fewest 67 = .ok (.iaload, 1) := by decide +kernel
theorem dX11_fewest_68 : decode cX11_fewest 68 = .ok (.if_icmp .gt 31, 3) := by decide +kernel
theorem dX11_fewest_71 : decode cX11_fewest 71 = .ok (.aload_n 0, 1) := by decide +kernel
theorem dX11_fewest_72 : decode cX11_fewest 72 = .ok (.getfield 89, 3) := by decide +kernel
theorem dX11_fewest_75 : decode cX11_fewest 75 = .ok (.iload_n 3, 1) := by decide +kernel
theorem dX11_fewest_76 : decode cX11_fewest 76 = .ok (.aload_n 0, 1) := by decide +kernel
theorem dX11_fewest_77 : decode cX11_fewest 77 = .ok (.getfield 89, 3) := by decide +kernel
theorem dX11_fewest_80 : decode cX11_fewest 80 = .ok (.iload_n 3, 1) := by decide +kernel
theorem dX11_fewest_81 : decode cX11_fewest 81 = .ok (.iaload, 1) := by decide +kernel
theorem dX11_fewest_82 : decode cX11_fewest 82 = .ok (.aload_n 0, 1) := by decide +kernel
theorem dX11_fewest_83 : decode cX11_fewest 83 = .ok (.getfield 89, 3) := by decide +kernel
theorem dX11_fewest_86 : decode cX11_fewest 86 = .ok (.iload_n 3, 1) := by decide +kernel
theorem dX11_fewest_87 : decode cX11_fewest 87 = .ok (.iload 4, 2) := by decide +kernel
theorem dX11_fewest_89 : decode cX11_fewest 89 = .ok (.iconst (-1), 1) := by decide +kernel
theorem dX11_fewest_90 : decode cX11_fewest 90 = .ok (.ixor, 1) := by decide +kernel
theorem dX11_fewest_91 : decode cX11_fewest 91 = .ok (.iand, 1) := by decide +kernel
theorem dX11_fewest_92 : decode cX11_fewest 92 = .ok (.iaload, 1) := by decide +kernel
theorem dX11_fewest_93 : decode cX11_fewest 93 = .ok (.iconst 1, 1) := by decide +kernel
theorem dX11_fewest_94 : decode cX11_fewest 94 = .ok (.iadd, 1) := by decide +kernel
theorem dX11_fewest_95 : decode cX11_fewest 95 = .ok (.invokestatic 314, 3) := by decide +kernel
theorem dX11_fewest_98 : decode cX11_fewest 98 = .ok (.iastore, 1) := by decide +kernel
theorem dX11_fewest_99 : decode cX11_fewest 99 = .ok (.iload 4, 2) := by decide +kernel
theorem dX11_fewest_101 : decode cX11_fewest 101 = .ok (.iconst 1, 1) := by decide +kernel
theorem dX11_fewest_102 : decode cX11_fewest 102 = .ok (.isub, 1) := by decide +kernel
theorem dX11_fewest_103 : decode cX11_fewest 103 = .ok (.iload_n 3, 1) := by decide +kernel
theorem dX11_fewest_104 : decode cX11_fewest 104 = .ok (.iand, 1) := by decide +kernel
theorem dX11_fewest_105 : decode cX11_fewest 105 = .ok (.istore 4, 2) := by decide +kernel
theorem dX11_fewest_107 : decode cX11_fewest 107 = .ok (.goto (-57), 3) := by decide +kernel
theorem dX11_fewest_110 : decode cX11_fewest 110 = .ok (.iinc 3 (-1), 3) := by decide +kernel
theorem dX11_fewest_113 : decode cX11_fewest 113 = .ok (.goto (-78), 3) := by decide +kernel
theorem dX11_fewest_116 : decode cX11_fewest 116 = .ok (.iinc 2 1, 3) := by decide +kernel
theorem dX11_fewest_119 : decode cX11_fewest 119 = .ok (.goto (-92), 3) := by decide +kernel
theorem dX11_fewest_122 : decode cX11_fewest 122 = .ok (.aload_n 0, 1) := by decide +kernel
theorem dX11_fewest_123 : decode cX11_fewest 123 = .ok (.getfield 89, 3) := by decide +kernel
theorem dX11_fewest_126 : decode cX11_fewest 126 = .ok (.iload_n 1, 1) := by decide +kernel
theorem dX11_fewest_127 : decode cX11_fewest 127 = .ok (.iaload, 1) := by decide +kernel
theorem dX11_fewest_128 : decode cX11_fewest 128 = .ok (.ldc_w 342, 3) := by decide +kernel
theorem dX11_fewest_131 : decode cX11_fewest 131 = .ok (.if_icmp .lt 8, 3) := by decide +kernel
theorem dX11_fewest_134 : decode cX11_fewest 134 = .ok (.bipush (-2), 2) := by decide +kernel
theorem dX11_fewest_136 : decode cX11_fewest 136 = .ok (.goto 9, 3) := by decide +kernel
theorem dX11_fewest_139 : decode cX11_fewest 139 = .ok (.aload_n 0, 1) := by decide +kernel
theorem dX11_fewest_140 : decode cX11_fewest 140 = .ok (.getfield 89, 3) := by decide +kernel
theorem dX11_fewest_143 : decode cX11_fewest 143 = .ok (.iload_n 1, 1) := by decide +kernel
theorem dX11_fewest_144 : decode cX11_fewest 144 = .ok (.iaload, 1) := by decide +kernel
theorem dX11_fewest_145 : decode cX11_fewest 145 = .ok (.ireturn, 1) := by decide +kernel
theorem dX11_free_0 : decode cX11_free 0 = .ok (.iload_n 1, 1) := by decide +kernel
theorem dX11_free_1 : decode cX11_free 1 = .ok (.iconst 0, 1) := by decide +kernel
theorem dX11_free_2 : decode cX11_free 2 = .ok (.iconst 1, 1) := by decide +kernel
theorem dX11_free_3 : decode cX11_free 3 = .ok (.invokestatic 125, 3) := by decide +kernel
theorem dX11_free_6 : decode cX11_free 6 = .ok (.ifCond .ne 5, 3) := by decide +kernel
theorem dX11_free_9 : decode cX11_free 9 = .ok (.iconst (-1), 1) := by decide +kernel
theorem dX11_free_10 : decode cX11_free 10 = .ok (.ireturn, 1) := by decide +kernel
theorem dX11_free_11 : decode cX11_free 11 = .ok (.bipush (-2), 2) := by decide +kernel
theorem dX11_free_13 : decode cX11_free 13 = .ok (.istore_n 2, 1) := by decide +kernel
theorem dX11_free_14 : decode cX11_free 14 = .ok (.iconst 0, 1) := by decide +kernel
theorem dX11_free_15 : decode cX11_free 15 = .ok (.istore_n 3, 1) := by decide +kernel
theorem dX11_free_16 : decode cX11_free 16 = .ok (.iload_n 3, 1) := by decide +kernel
theorem dX11_free_17 : decode cX11_free 17 = .ok (.bipush 12, 2) := by decide +kernel
theorem dX11_free_19 : decode cX11_free 19 = .ok (.if_icmp .ge 38, 3) := by decide +kernel
theorem dX11_free_22 : decode cX11_free 22 = .ok (.aload_n 0, 1) := by decide +kernel
theorem dX11_free_23 : decode cX11_free 23 = .ok (.iload_n 3, 1) := by decide +kernel
theorem dX11_free_24 : decode cX11_free 24 = .ok (.invokevirtual 152, 3) := by decide +kernel
theorem dX11_free_27 : decode cX11_free 27 = .ok (.ifCond .eq 24, 3) := by decide +kernel
theorem dX11_free_30 : decode cX11_free 30 = .ok (.iload_n 2, 1) := by decide +kernel
theorem dX11_free_31 : decode cX11_free 31 = .ok (.bipush (-2), 2) := by decide +kernel
theorem dX11_free_33 : decode cX11_free 33 = .ok (.if_icmp .eq 16, 3) := by decide +kernel
theorem dX11_free_36 : decode cX11_free 36 = .ok (.aload_n 0, 1) := by decide +kernel
theorem dX11_free_37 : decode cX11_free 37 = .ok (.iload_n 3, 1) := by decide +kernel
theorem dX11_free_38 : decode cX11_free 38 = .ok (.invokevirtual 155, 3) := by decide +kernel
theorem dX11_free_41 : decode cX11_free 41 = .ok (.aload_n 0, 1) := by decide +kernel
theorem dX11_free_42 : decode cX11_free 42 = .ok (.iload_n 2, 1) := by decide +kernel
theorem dX11_free_43 : decode cX11_free 43 = .ok (.invokevirtual 155, 3) := by decide +kernel
theorem dX11_free_46 : decode cX11_free 46 = .ok (.if_icmp .le 5, 3) := by decide +kernel
theorem dX11_free_49 : decode cX11_free 49 = .ok (.iload_n 3, 1) := by decide +kernel
theorem dX11_free_50 : decode cX11_free 50 = .ok (.istore_n 2, 1) := by decide +kernel
theorem dX11_free_51 : decode cX11_free 51 = .ok (.iinc 3 1, 3) := by decide +kernel
theorem dX11_free_54 : decode cX11_free 54 = .ok (.goto (-38), 3) := by decide +kernel
theorem dX11_free_57 : decode cX11_free 57 = .ok (.iload_n 1, 1) := by decide +kernel
theorem dX11_free_58 : decode cX11_free 58 = .ok (.iconst 1, 1) := by decide +kernel
theorem dX11_free_59 : decode cX11_free 59 = .ok (.if_icmp .eq 9, 3) := by decide +kernel
theorem dX11_free_62 : decode cX11_free 62 = .ok (.iload_n 2, 1) := by decide +kernel
theorem dX11_free_63 : decode cX11_free 63 = .ok (.bipush (-2), 2) := by decide +kernel
theorem dX11_free_65 : decode cX11_free 65 = .ok (.if_icmp .ne 7, 3) := by decide +kernel
theorem dX11_free_68 : decode cX11_free 68 = .ok (.iload_n 2, 1) := by decide +kernel
theorem dX11_free_69 : decode cX11_free 69 = .ok (.goto 8, 3) := by decide +kernel
theorem dX11_free_72 : decode cX11_free 72 = .ok (.aload_n 0, 1) := by decide +kernel
theorem dX11_free_73 : decode cX11_free 73 = .ok (.iload_n 2, 1) := by decide +kernel
theorem dX11_free_74 : decode cX11_free 74 = .ok (.invokevirtual 155, 3) := by decide +kernel
theorem dX11_free_77 : decode cX11_free 77 = .ok (.ireturn, 1) := by decide +kernel
theorem dX11_ofSubject_0 : decode cX11_ofSubject 0 = .ok (.iload_n 1, 1) := by decide +kernel
theorem dX11_ofSubject_1 : decode cX11_ofSubject 1 = .ok (.iconst 0, 1) := by decide +kernel
theorem dX11_ofSubject_2 : decode cX11_ofSubject 2 = .ok (.bipush 15, 2) := by decide +kernel
theorem dX11_ofSubject_4 : decode cX11_ofSubject 4 = .ok (.invokestatic 125, 3) := by decide +kernel
theorem dX11_ofSubject_7 : decode cX11_ofSubject 7 = .ok (.ifCond .eq 12, 3) := by decide +kernel
theorem dX11_ofSubject_10 : decode cX11_ofSubject 10 = .ok (.iload_n 2, 1) := by decide +kernel
theorem dX11_ofSubject_11 : decode cX11_ofSubject 11 = .ok (.iconst 0, 1) := by decide +kernel
theorem dX11_ofSubject_12 : decode cX11_ofSubject 12 = .ok (.iconst 1, 1) := by decide +kernel
theorem dX11_ofSubject_13 : decode cX11_ofSubject 13 = .ok (.invokestatic 125, 3) := by decide +kernel
theorem dX11_ofSubject_16 : decode cX11_ofSubject 16 = .ok (.ifCond .ne 5, 3) := by decide +kernel
theorem dX11_ofSubject_19 : decode cX11_ofSubject 19 = .ok (.iconst (-1), 1) := by decide +kernel
theorem dX11_ofSubject_20 : decode cX11_ofSubject 20 = .ok (.ireturn, 1) := by decide +kernel
theorem dX11_ofSubject_21 : decode cX11_ofSubject 21 = .ok (.iconst 0, 1) := by decide +kernel
theorem dX11_ofSubject_22 : decode cX11_ofSubject 22 = .ok (.istore_n 3, 1) := by decide +kernel
theorem dX11_ofSubject_23 : decode cX11_ofSubject 23 = .ok (.iconst 0, 1) := by decide +kernel
theorem dX11_ofSubject_24 : decode cX11_ofSubject 24 = .ok (.istore 4, 2) := by decide +kernel
theorem dX11_ofSubject_26 : decode cX11_ofSubject 26 = .ok (.iconst 0, 1) := by decide +kernel
theorem dX11_ofSubject_27 : decode cX11_ofSubject 27 = .ok (.istore 5, 2) := by decide +kernel
theorem dX11_ofSubject_29 : decode cX11_ofSubject 29 = .ok (.iload 5, 2) := by decide +kernel
theorem dX11_ofSubject_31 : decode cX11_ofSubject 31 = .ok (.aload_n 0, 1) := by decide +kernel
theorem dX11_ofSubject_32 : decode cX11_ofSubject 32 = .ok (.getfield 137, 3) := by decide +kernel
theorem dX11_ofSubject_35 : decode cX11_ofSubject 35 = .ok (.if_icmp .ge 52, 3) := by decide +kernel
theorem dX11_ofSubject_38 : decode cX11_ofSubject 38 = .ok (.aload_n 0, 1) := by decide +kernel
theorem dX11_ofSubject_39 : decode cX11_ofSubject 39 = .ok (.getfield 22, 3) := by decide +kernel
theorem dX11_ofSubject_42 : decode cX11_ofSubject 42 = .ok (.iload 5, 2) := by decide +kernel
theorem dX11_ofSubject_44 : decode cX11_ofSubject 44 = .ok (.iaload, 1) := by decide +kernel
theorem dX11_ofSubject_45 : decode cX11_ofSubject 45 = .ok (.iload_n 1, 1) := by decide +kernel
theorem dX11_ofSubject_46 : decode cX11_ofSubject 46 = .ok (.if_icmp .eq 6, 3) := by decide +kernel
theorem dX11_ofSubject_49 : decode cX11_ofSubject 49 = .ok (.goto 32, 3) := by decide +kernel
theorem dX11_ofSubject_52 : decode cX11_ofSubject 52 = .ok (.iload_n 3, 1) := by decide +kernel
theorem dX11_ofSubject_53 : decode cX11_ofSubject 53 = .ok (.iconst 1, 1) := by decide +kernel
theorem dX11_ofSubject_54 : decode cX11_ofSubject 54 = .ok (.iadd, 1) := by decide +kernel
theorem dX11_ofSubject_55 : decode cX11_ofSubject 55 = .ok (.istore_n 3, 1) := by decide +kernel
theorem dX11_ofSubject_56 : decode cX11_ofSubject 56 = .ok (.aload_n 0, 1) := by decide +kernel
theorem dX11_ofSubject_57 : decode cX11_ofSubject 57 = .ok (.getfield 7, 3) := by decide +kernel
theorem dX11_ofSubject_60 : decode cX11_ofSubject 60 = .ok (.iconst 0, 1) := by decide +kernel
theorem dX11_ofSubject_61 : decode cX11_ofSubject 61 = .ok (.iload 5, 2) := by decide +kernel
theorem dX11_ofSubject_63 : decode cX11_ofSubject 63 = .ok (.iadd, 1) := by decide +kernel
theorem dX11_ofSubject_64 : decode cX11_ofSubject 64 = .ok (.iaload, 1) := by decide +kernel
theorem dX11_ofSubject_65 : decode cX11_ofSubject 65 = .ok (.iconst (-1), 1) := by decide +kernel
theorem dX11_ofSubject_66 : decode cX11_ofSubject 66 = .ok (.if_icmp .eq 15, 3) := by decide +kernel
theorem dX11_ofSubject_69 : decode cX11_ofSubject 69 = .ok (.iload 4, 2) := by decide +kernel
theorem dX11_ofSubject_71 : decode cX11_ofSubject 71 = .ok (.aload_n 0, 1) := by decide +kernel
theorem dX11_ofSubject_72 : decode cX11_ofSubject 72 = .ok (.getfield 25, 3) := by decide +kernel
theorem dX11_ofSubject_75 : decode cX11_ofSubject 75 = .ok (.iload 5, 2) := by decide +kernel
theorem dX11_ofSubject_77 : decode cX11_ofSubject 77 = .ok (.iaload, 1) := by decide +kernel
theorem dX11_ofSubject_78 : decode cX11_ofSubject 78 = .ok (.iadd, 1) := by decide +kernel
theorem dX11_ofSubject_79 : decode cX11_ofSubject 79 = .ok (.istore 4, 2) := by decide +kernel
theorem dX11_ofSubject_81 : decode cX11_ofSubject 81 = .ok (.iinc 5 1, 3) := by decide +kernel
theorem dX11_ofSubject_84 : decode cX11_ofSubject 84 = .ok (.goto (-55), 3) := by decide +kernel
theorem dX11_ofSubject_87 : decode cX11_ofSubject 87 = .ok (.iload_n 2, 1) := by decide +kernel
theorem dX11_ofSubject_88 : decode cX11_ofSubject 88 = .ok (.ifCond .ne 7, 3) := by decide +kernel
theorem dX11_ofSubject_91 : decode cX11_ofSubject 91 = .ok (.iload_n 3, 1) := by decide +kernel
theorem dX11_ofSubject_92 : decode cX11_ofSubject 92 = .ok (.goto 5, 3) := by decide +kernel
theorem dX11_ofSubject_95 : decode cX11_ofSubject 95 = .ok (.iload 4, 2) := by decide +kernel
theorem dX11_ofSubject_97 : decode cX11_ofSubject 97 = .ok (.ireturn, 1) := by decide +kernel
theorem dX11_oldest_0 : decode cX11_oldest 0 = .ok (.bipush (-2), 2) := by decide +kernel
theorem dX11_oldest_2 : decode cX11_oldest 2 = .ok (.istore_n 1, 1) := by decide +kernel
theorem dX11_oldest_3 : decode cX11_oldest 3 = .ok (.iconst 0, 1) := by decide +kernel
theorem dX11_oldest_4 : decode cX11_oldest 4 = .ok (.istore_n 2, 1) := by decide +kernel
theorem dX11_oldest_5 : decode cX11_oldest 5 = .ok (.iload_n 2, 1) := by decide +kernel
theorem dX11_oldest_6 : decode cX11_oldest 6 = .ok (.aload_n 0, 1) := by decide +kernel
theorem dX11_oldest_7 : decode cX11_oldest 7 = .ok (.getfield 137, 3) := by decide +kernel
theorem dX11_oldest_10 : decode cX11_oldest 10 = .ok (.if_icmp .ge 50, 3) := by decide +kernel
theorem dX11_oldest_13 : decode cX11_oldest 13 = .ok (.aload_n 0, 1) := by decide +kernel
theorem dX11_oldest_14 : decode cX11_oldest 14 = .ok (.getfield 7, 3) := by decide +kernel
theorem dX11_oldest_17 : decode cX11_oldest 17 = .ok (.iconst 0, 1) := by decide +kernel
theorem dX11_oldest_18 : decode cX11_oldest 18 = .ok (.iload_n 2, 1) := by decide +kernel
theorem dX11_oldest_19 : decode cX11_oldest 19 = .ok (.iadd, 1) := by decide +kernel
theorem dX11_oldest_20 : decode cX11_oldest 20 = .ok (.iaload, 1) := by decide +kernel
theorem dX11_oldest_21 : decode cX11_oldest 21 = .ok (.iconst (-1), 1) := by decide +kernel
theorem dX11_oldest_22 : decode cX11_oldest 22 = .ok (.if_icmp .eq 32, 3) := by decide +kernel
theorem dX11_oldest_25 : decode cX11_oldest 25 = .ok (.iload_n 1, 1) := by decide +kernel
theorem dX11_oldest_26 : decode cX11_oldest 26 = .ok (.bipush (-2), 2) := by decide +kernel
theorem dX11_oldest_28 : decode cX11_oldest 28 = .ok (.if_icmp .eq 24, 3) := by decide +kernel
theorem dX11_oldest_31 : decode cX11_oldest 31 = .ok (.aload_n 0, 1) := by decide +kernel
theorem dX11_oldest_32 : decode cX11_oldest 32 = .ok (.getfield 7, 3) := by decide +kernel
theorem dX11_oldest_35 : decode cX11_oldest 35 = .ok (.bipush 48, 2) := by decide +kernel
theorem dX11_oldest_37 : decode cX11_oldest 37 = .ok (.iload_n 2, 1) := by decide +kernel
theorem dX11_oldest_38 : decode cX11_oldest 38 = .ok (.iadd, 1) := by decide +kernel
theorem dX11_oldest_39 : decode cX11_oldest 39 = .ok (.iaload, 1) := by decide +kernel
theorem dX11_oldest_40 : decode cX11_oldest 40 = .ok (.aload_n 0, 1) := by decide +kernel
theorem dX11_oldest_41 : decode cX11_oldest 41 = .ok (.getfield 7, 3) := by decide +kernel
theorem dX11_oldest_44 : decode cX11_oldest 44 = .ok (.bipush 48, 2) := by decide +kernel
theorem dX11_oldest_46 : decode cX11_oldest 46 = .ok (.iload_n 1, 1) := by decide +kernel
theorem dX11_oldest_47 : decode cX11_oldest 47 = .ok (.iadd, 1) := by decide +kernel
theorem dX11_oldest_48 : decode cX11_oldest 48 = .ok (.iaload, 1) := by decide +kernel
theorem dX11_oldest_49 : decode cX11_oldest 49 = .ok (.if_icmp .le 5, 3) := by decide +kernel
theorem dX11_oldest_52 : decode cX11_oldest 52 = .ok (.iload_n 2, 1) := by decide +kernel
theorem dX11_oldest_53 : decode cX11_oldest 53 = .ok (.istore_n 1, 1) := by decide +kernel
theorem dX11_oldest_54 : decode cX11_oldest 54 = .ok (.iinc 2 1, 3) := by decide +kernel
theorem dX11_oldest_57 : decode cX11_oldest 57 = .ok (.goto (-52), 3) := by decide +kernel
theorem dX11_oldest_60 : decode cX11_oldest 60 = .ok (.iload_n 1, 1) := by decide +kernel
theorem dX11_oldest_61 : decode cX11_oldest 61 = .ok (.ireturn, 1) := by decide +kernel
theorem dX11_readsTimes_0 : decode cX11_readsTimes 0 = .ok (.aload_n 0, 1) := by decide +kernel
theorem dX11_readsTimes_1 : decode cX11_readsTimes 1 = .ok (.aload_n 0, 1) := by decide +kernel
theorem dX11_readsTimes_2 : decode cX11_readsTimes 2 = .ok (.getfield 164, 3) := by decide +kernel
theorem dX11_readsTimes_5 : decode cX11_readsTimes 5 = .ok (.putfield 346, 3) := by decide +kernel
theorem dX11_readsTimes_8 : decode cX11_readsTimes 8 = .ok (.aload_n 0, 1) := by decide +kernel
theorem dX11_readsTimes_9 : decode cX11_readsTimes 9 = .ok (.iconst 1, 1) := by decide +kernel
theorem dX11_readsTimes_10 : decode cX11_readsTimes 10 = .ok (.putfield 349, 3) := by decide +kernel
theorem dX11_readsTimes_13 : decode cX11_readsTimes 13 = .ok (.aload_n 0, 1) := by decide +kernel
theorem dX11_readsTimes_14 : decode cX11_readsTimes 14 = .ok (.invokevirtual 170, 3) := by decide +kernel
theorem dX11_readsTimes_17 : decode cX11_readsTimes 17 = .ok (.bipush 50, 2) := by decide +kernel
theorem dX11_readsTimes_19 : decode cX11_readsTimes 19 = .ok (.bipush 57, 2) := by decide +kernel
theorem dX11_readsTimes_21 : decode cX11_readsTimes 21 = .ok (.invokestatic 125, 3) := by decide +kernel
theorem dX11_readsTimes_24 : decode cX11_readsTimes 24 = .ok (.ifCond .ne 4, 3) := by decide +kernel
theorem dX11_readsTimes_27 : decode cX11_readsTimes 27 = .ok (.return_, 1) := by decide +kernel
theorem dX11_readsTimes_28 : decode cX11_readsTimes 28 = .ok (.aload_n 0, 1) := by decide +kernel
theorem dX11_readsTimes_29 : decode cX11_readsTimes 29 = .ok (.aload_n 0, 1) := by decide +kernel
theorem dX11_readsTimes_30 : decode cX11_readsTimes 30 = .ok (.invokevirtual 170, 3) := by decide +kernel
theorem dX11_readsTimes_33 : decode cX11_readsTimes 33 = .ok (.bipush 48, 2) := by decide +kernel
theorem dX11_readsTimes_35 : decode cX11_readsTimes 35 = .ok (.isub, 1) := by decide +kernel
theorem dX11_readsTimes_36 : decode cX11_readsTimes 36 = .ok (.putfield 349, 3) := by decide +kernel
theorem dX11_readsTimes_39 : decode cX11_readsTimes 39 = .ok (.aload_n 0, 1) := by decide +kernel
theorem dX11_readsTimes_40 : decode cX11_readsTimes 40 = .ok (.aload_n 0, 1) := by decide +kernel
theorem dX11_readsTimes_41 : decode cX11_readsTimes 41 = .ok (.getfield 164, 3) := by decide +kernel
theorem dX11_readsTimes_44 : decode cX11_readsTimes 44 = .ok (.iconst 1, 1) := by decide +kernel
theorem dX11_readsTimes_45 : decode cX11_readsTimes 45 = .ok (.iadd, 1) := by decide +kernel
theorem dX11_readsTimes_46 : decode cX11_readsTimes 46 = .ok (.putfield 164, 3) := by decide +kernel
theorem dX11_readsTimes_49 : decode cX11_readsTimes 49 = .ok (.return_, 1) := by decide +kernel
theorem dX11_repeats_0 : decode cX11_repeats 0 = .ok (.aload_n 0, 1) := by decide +kernel
theorem dX11_repeats_1 : decode cX11_repeats 1 = .ok (.getfield 352, 3) := by decide +kernel
theorem dX11_repeats_4 : decode cX11_repeats 4 = .ok (.iload_n 1, 1) := by decide +kernel
theorem dX11_repeats_5 : decode cX11_repeats 5 = .ok (.isub, 1) := by decide +kernel
theorem dX11_repeats_6 : decode cX11_repeats 6 = .ok (.istore 4, 2) := by decide +kernel
theorem dX11_repeats_8 : decode cX11_repeats 8 = .ok (.iload_n 1, 1) := by decide +kernel
theorem dX11_repeats_9 : decode cX11_repeats 9 = .ok (.iload 4, 2) := by decide +kernel
theorem dX11_repeats_11 : decode cX11_repeats 11 = .ok (.iload_n 2, 1) := by decide +kernel
theorem dX11_repeats_12 : decode cX11_repeats 12 = .ok (.imul, 1) := by decide +kernel
theorem dX11_repeats_13 : decode cX11_repeats 13 = .ok (.iadd, 1) := by decide +kernel
theorem dX11_repeats_14 : decode cX11_repeats 14 = .ok (.bipush 64, 2) := by decide +kernel
theorem dX11_repeats_16 : decode cX11_repeats 16 = .ok (.if_icmp .le 11, 3) := by decide +kernel
theorem dX11_repeats_19 : decode cX11_repeats 19 = .ok (.aload_n 0, 1) := by decide +kernel
theorem dX11_repeats_20 : decode cX11_repeats 20 = .ok (.bipush 6, 2) := by decide +kernel
theorem dX11_repeats_22 : decode cX11_repeats 22 = .ok (.iload_n 3, 1) := by decide +kernel
theorem dX11_repeats_23 : decode cX11_repeats 23 = .ok (.invokevirtual 177, 3) := by decide +kernel
theorem dX11_repeats_26 : decode cX11_repeats 26 = .ok (.ireturn, 1) := by decide +kernel
theorem dX11_repeats_27 : decode cX11_repeats 27 = .ok (.iload 4, 2) := by decide +kernel
theorem dX11_repeats_29 : decode cX11_repeats 29 = .ok (.istore 5, 2) := by decide +kernel
theorem dX11_repeats_31 : decode cX11_repeats 31 = .ok (.iload 5, 2) := by decide +kernel
theorem dX11_repeats_33 : decode cX11_repeats 33 = .ok (.iload 4, 2) := by decide +kernel
theorem dX11_repeats_35 : decode cX11_repeats 35 = .ok (.iload_n 2, 1) := by decide +kernel
theorem dX11_repeats_36 : decode cX11_repeats 36 = .ok (.imul, 1) := by decide +kernel
theorem dX11_repeats_37 : decode cX11_repeats 37 = .ok (.if_icmp .ge 30, 3) := by decide +kernel
theorem dX11_repeats_40 : decode cX11_repeats 40 = .ok (.aload_n 0, 1) := by decide +kernel
theorem dX11_repeats_41 : decode cX11_repeats 41 = .ok (.getfield 92, 3) := by decide +kernel
theorem dX11_repeats_44 : decode cX11_repeats 44 = .ok (.iload_n 1, 1) := by decide +kernel
theorem dX11_repeats_45 : decode cX11_repeats 45 = .ok (.iload 5, 2) := by decide +kernel
theorem dX11_repeats_47 : decode cX11_repeats 47 = .ok (.iadd, 1) := by decide +kernel
theorem dX11_repeats_48 : decode cX11_repeats 48 = .ok (.aload_n 0, 1) := by decide +kernel
theorem dX11_repeats_49 : decode cX11_repeats 49 = .ok (.getfield 92, 3) := by decide +kernel
theorem dX11_repeats_52 : decode cX11_repeats 52 = .ok (.iload_n 1, 1) := by decide +kernel
theorem dX11_repeats_53 : decode cX11_repeats 53 = .ok (.iload 5, 2) := by decide +kernel
theorem dX11_repeats_55 : decode cX11_repeats 55 = .ok (.iadd, 1) := by decide +kernel
theorem dX11_repeats_56 : decode cX11_repeats 56 = .ok (.iload 4, 2) := by decide +kernel
theorem dX11_repeats_58 : decode cX11_repeats 58 = .ok (.isub, 1) := by decide +kernel
theorem dX11_repeats_59 : decode cX11_repeats 59 = .ok (.iaload, 1) := by decide +kernel
theorem dX11_repeats_60 : decode cX11_repeats 60 = .ok (.iastore, 1) := by decide +kernel
theorem dX11_repeats_61 : decode cX11_repeats 61 = .ok (.iinc 5 1, 3) := by decide +kernel
theorem dX11_repeats_64 : decode cX11_repeats 64 = .ok (.goto (-33), 3) := by decide +kernel
theorem dX11_repeats_67 : decode cX11_repeats 67 = .ok (.aload_n 0, 1) := by decide +kernel
theorem dX11_repeats_68 : decode cX11_repeats 68 = .ok (.iload_n 1, 1) := by decide +kernel
theorem dX11_repeats_69 : decode cX11_repeats 69 = .ok (.iload 4, 2) := by decide +kernel
theorem dX11_repeats_71 : decode cX11_repeats 71 = .ok (.iload_n 2, 1) := by decide +kernel
theorem dX11_repeats_72 : decode cX11_repeats 72 = .ok (.imul, 1) := by decide +kernel
theorem dX11_repeats_73 : decode cX11_repeats 73 = .ok (.iadd, 1) := by decide +kernel
theorem dX11_repeats_74 : decode cX11_repeats 74 = .ok (.putfield 352, 3) := by decide +kernel
theorem dX11_repeats_77 : decode cX11_repeats 77 = .ok (.iconst 1, 1) := by decide +kernel
theorem dX11_repeats_78 : decode cX11_repeats 78 = .ok (.ireturn, 1) := by decide +kernel
theorem dX11_readsLetter_0 : decode cX11_readsLetter 0 = .ok (.aload_n 0, 1) := by decide +kernel
theorem dX11_readsLetter_1 : decode cX11_readsLetter 1 = .ok (.invokevirtual 355, 3) := by decide +kernel
theorem dX11_readsLetter_4 : decode cX11_readsLetter 4 = .ok (.aload_n 0, 1) := by decide +kernel
theorem dX11_readsLetter_5 : decode cX11_readsLetter 5 = .ok (.invokevirtual 170, 3) := by decide +kernel
theorem dX11_readsLetter_8 : decode cX11_readsLetter 8 = .ok (.bipush 40, 2) := by decide +kernel
theorem dX11_readsLetter_10 : decode cX11_readsLetter 10 = .ok (.if_icmp .ne 87, 3) := by decide +kernel
theorem dX11_readsLetter_13 : decode cX11_readsLetter 13 = .ok (.aload_n 0, 1) := by decide +kernel
theorem dX11_readsLetter_14 : decode cX11_readsLetter 14 = .ok (.getfield 358, 3) := by decide +kernel
theorem dX11_readsLetter_17 : decode cX11_readsLetter 17 = .ok (.iconst 2, 1) := by decide +kernel
theorem dX11_readsLetter_18 : decode cX11_readsLetter 18 = .ok (.if_icmp .ne 13, 3) := by decide +kernel
theorem dX11_readsLetter_21 : decode cX11_readsLetter 21 = .ok (.aload_n 0, 1) := by decide +kernel
theorem dX11_readsLetter_22 : decode cX11_readsLetter 22 = .ok (.iconst 5, 1) := by decide +kernel
theorem dX11_readsLetter_23 : decode cX11_readsLetter 23 = .ok (.aload_n 0, 1) := by decide +kernel
theorem dX11_readsLetter_24 : decode cX11_readsLetter 24 = .ok (.getfield 164, 3) := by decide +kernel
theorem dX11_readsLetter_27 : decode cX11_readsLetter 27 = .ok (.invokevirtual 177, 3) := by decide +kernel
theorem dX11_readsLetter_30 : decode cX11_readsLetter 30 = .ok (.ireturn, 1) := by decide +kernel
theorem dX11_readsLetter_31 : decode cX11_readsLetter 31 = .ok (.aload_n 0, 1) := by decide +kernel
theorem dX11_readsLetter_32 : decode cX11_readsLetter 32 = .ok (.getfield 95, 3) := by decide +kernel
theorem dX11_readsLetter_35 : decode cX11_readsLetter 35 = .ok (.aload_n 0, 1) := by decide +kernel
theorem dX11_readsLetter_36 : decode cX11_readsLetter 36 = .ok (.getfield 358, 3) := by decide +kernel
theorem dX11_readsLetter_39 : decode cX11_readsLetter 39 = .ok (.aload_n 0, 1) := by decide +kernel
theorem dX11_readsLetter_40 : decode cX11_readsLetter 40 = .ok (.getfield 346, 3) := by decide +kernel
theorem dX11_readsLetter_43 : decode cX11_readsLetter 43 = .ok (.iastore, 1) := by decide +kernel
theorem dX11_readsLetter_44 : decode cX11_readsLetter 44 = .ok (.aload_n 0, 1) := by decide +kernel
theorem dX11_readsLetter_45 : decode cX11_readsLetter 45 = .ok (.getfield 98, 3) := by decide +kernel
theorem dX11_readsLetter_48 : decode cX11_readsLetter 48 = .ok (.aload_n 0, 1) := by decide +kernel
theorem dX11_readsLetter_49 : decode cX11_readsLetter 49 = .ok (.getfield 358, 3) := by decide +kernel
theorem dX11_readsLetter_52 : decode cX11_readsLetter 52 = .ok (.aload_n 0, 1) := by decide +kernel
theorem dX11_readsLetter_53 : decode cX11_readsLetter 53 = .ok (.getfield 352, 3) := by decide +kernel
theorem dX11_readsLetter_56 : decode cX11_readsLetter 56 = .ok (.iastore, 1) := by decide +kernel
theorem dX11_readsLetter_57 : decode cX11_readsLetter 57 = .ok (.aload_n 0, 1) := by decide +kernel
theorem dX11_readsLetter_58 : decode cX11_readsLetter 58 = .ok (.getfield 101, 3) := by decide +kernel
theorem dX11_readsLetter_61 : decode cX11_readsLetter 61 = .ok (.aload_n 0, 1) := by decide +kernel
theorem dX11_readsLetter_62 : decode cX11_readsLetter 62 = .ok (.getfield 358, 3) := by decide +kernel
theorem dX11_readsLetter_65 : decode cX11_readsLetter 65 = .ok (.aload_n 0, 1) := by decide +kernel
theorem dX11_readsLetter_66 : decode cX11_readsLetter 66 = .ok (.getfield 349, 3) := by decide +kernel
theorem dX11_readsLetter_69 : decode cX11_readsLetter 69 = .ok (.iastore, 1) := by decide +kernel
theorem dX11_readsLetter_70 : decode cX11_readsLetter 70 = .ok (.aload_n 0, 1) := by decide +kernel
theorem dX11_readsLetter_71 : decode cX11_readsLetter 71 = .ok (.aload_n 0, 1) := by decide +kernel
theorem dX11_readsLetter_72 : decode cX11_readsLetter 72 = .ok (.getfield 358, 3) := by decide +kernel
theorem dX11_readsLetter_75 : decode cX11_readsLetter 75 = .ok (.iconst 1, 1) := by decide +kernel
theorem dX11_readsLetter_76 : decode cX11_readsLetter 76 = .ok (.iadd, 1) := by decide +kernel
theorem dX11_readsLetter_77 : decode cX11_readsLetter 77 = .ok (.putfield 358, 3) := by decide +kernel
theorem dX11_readsLetter_80 : decode cX11_readsLetter 80 = .ok (.aload_n 0, 1) := by decide +kernel
theorem dX11_readsLetter_81 : decode cX11_readsLetter 81 = .ok (.aload_n 0, 1) := by decide +kernel
theorem dX11_readsLetter_82 : decode cX11_readsLetter 82 = .ok (.getfield 164, 3) := by decide +kernel
theorem dX11_readsLetter_85 : decode cX11_readsLetter 85 = .ok (.iconst 1, 1) := by decide +kernel
theorem dX11_readsLetter_86 : decode cX11_readsLetter 86 = .ok (.iadd, 1) := by decide +kernel
theorem dX11_readsLetter_87 : decode cX11_readsLetter 87 = .ok (.putfield 164, 3) := by decide +kernel
theorem dX11_readsLetter_90 : decode cX11_readsLetter 90 = .ok (.aload_n 0, 1) := by decide +kernel
theorem dX11_readsLetter_91 : decode cX11_readsLetter 91 = .ok (.invokevirtual 355, 3) := by decide +kernel
theorem dX11_readsLetter_94 : decode cX11_readsLetter 94 = .ok (.goto (-90), 3) := by decide +kernel
theorem dX11_readsLetter_97 : decode cX11_readsLetter 97 = .ok (.aload_n 0, 1) := by decide +kernel
theorem dX11_readsLetter_98 : decode cX11_readsLetter 98 = .ok (.getfield 346, 3) := by decide +kernel
theorem dX11_readsLetter_101 : decode cX11_readsLetter 101 = .ok (.istore_n 1, 1) := by decide +kernel
theorem dX11_readsLetter_102 : decode cX11_readsLetter 102 = .ok (.aload_n 0, 1) := by decide +kernel
theorem dX11_readsLetter_103 : decode cX11_readsLetter 103 = .ok (.getfield 349, 3) := by decide +kernel
theorem dX11_readsLetter_106 : decode cX11_readsLetter 106 = .ok (.istore_n 2, 1) := by decide +kernel
theorem dX11_readsLetter_107 : decode cX11_readsLetter 107 = .ok (.aload_n 0, 1) := by decide +kernel
theorem dX11_readsLetter_108 : decode cX11_readsLetter 108 = .ok (.invokevirtual 170, 3) := by decide +kernel
theorem dX11_readsLetter_111 : decode cX11_readsLetter 111 = .ok (.bipush 97, 2) := by decide +kernel
theorem dX11_readsLetter_113 : decode cX11_readsLetter 113 = .ok (.bipush 122, 2) := by decide +kernel
theorem dX11_readsLetter_115 : decode cX11_readsLetter 115 = .ok (.invokestatic 125, 3) := by decide +kernel
theorem dX11_readsLetter_118 : decode cX11_readsLetter 118 = .ok (.ifCond .ne 13, 3) := by decide +kernel
theorem dX11_readsLetter_121 : decode cX11_readsLetter 121 = .ok (.aload_n 0, 1) := by decide +kernel
theorem dX11_readsLetter_122 : decode cX11_readsLetter 122 = .ok (.iconst 1, 1) := by decide +kernel
theorem dX11_readsLetter_123 : decode cX11_readsLetter 123 = .ok (.aload_n 0, 1) := by decide +kernel
theorem dX11_readsLetter_124 : decode cX11_readsLetter 124 = .ok (.getfield 164, 3) := by decide +kernel
theorem dX11_readsLetter_127 : decode cX11_readsLetter 127 = .ok (.invokevirtual 177, 3) := by decide +kernel
theorem dX11_readsLetter_130 : decode cX11_readsLetter 130 = .ok (.ireturn, 1) := by decide +kernel
theorem dX11_readsLetter_131 : decode cX11_readsLetter 131 = .ok (.aload_n 0, 1) := by decide +kernel
theorem dX11_readsLetter_132 : decode cX11_readsLetter 132 = .ok (.getfield 352, 3) := by decide +kernel
theorem dX11_readsLetter_135 : decode cX11_readsLetter 135 = .ok (.iload_n 2, 1) := by decide +kernel
theorem dX11_readsLetter_136 : decode cX11_readsLetter 136 = .ok (.iadd, 1) := by decide +kernel
theorem dX11_readsLetter_137 : decode cX11_readsLetter 137 = .ok (.bipush 64, 2) := by decide +kernel
theorem dX11_readsLetter_139 : decode cX11_readsLetter 139 = .ok (.if_icmp .le 11, 3) := by decide +kernel
theorem dX11_readsLetter_142 : decode cX11_readsLetter 142 = .ok (.aload_n 0, 1) := by decide +kernel
theorem dX11_readsLetter_143 : decode cX11_readsLetter 143 = .ok (.bipush 6, 2) := by decide +kernel
theorem dX11_readsLetter_145 : decode cX11_readsLetter 145 = .ok (.iload_n 1, 1) := by decide +kernel
theorem dX11_readsLetter_146 : decode cX11_readsLetter 146 = .ok (.invokevirtual 177, 3) := by decide +kernel
theorem dX11_readsLetter_149 : decode cX11_readsLetter 149 = .ok (.ireturn, 1) := by decide +kernel
theorem dX11_readsLetter_150 : decode cX11_readsLetter 150 = .ok (.aload_n 0, 1) := by decide +kernel
theorem dX11_readsLetter_151 : decode cX11_readsLetter 151 = .ok (.getfield 92, 3) := by decide +kernel
theorem dX11_readsLetter_154 : decode cX11_readsLetter 154 = .ok (.aload_n 0, 1) := by decide +kernel
theorem dX11_readsLetter_155 : decode cX11_readsLetter 155 = .ok (.getfield 352, 3) := by decide +kernel
theorem dX11_readsLetter_158 : decode cX11_readsLetter 158 = .ok (.aload_n 0, 1) := by decide +kernel
theorem dX11_readsLetter_159 : decode cX11_readsLetter 159 = .ok (.invokevirtual 170, 3) := by decide +kernel
theorem dX11_readsLetter_162 : decode cX11_readsLetter 162 = .ok (.bipush 97, 2) := by decide +kernel
theorem dX11_readsLetter_164 : decode cX11_readsLetter 164 = .ok (.isub, 1) := by decide +kernel
theorem dX11_readsLetter_165 : decode cX11_readsLetter 165 = .ok (.iastore, 1) := by decide +kernel
theorem dX11_readsLetter_166 : decode cX11_readsLetter 166 = .ok (.aload_n 0, 1) := by decide +kernel
theorem dX11_readsLetter_167 : decode cX11_readsLetter 167 = .ok (.aload_n 0, 1) := by decide +kernel
theorem dX11_readsLetter_168 : decode cX11_readsLetter 168 = .ok (.getfield 164, 3) := by decide +kernel
theorem dX11_readsLetter_171 : decode cX11_readsLetter 171 = .ok (.iconst 1, 1) := by decide +kernel
theorem dX11_readsLetter_172 : decode cX11_readsLetter 172 = .ok (.iadd, 1) := by decide +kernel
theorem dX11_readsLetter_173 : decode cX11_readsLetter 173 = .ok (.putfield 164, 3) := by decide +kernel
theorem dX11_readsLetter_176 : decode cX11_readsLetter 176 = .ok (.aload_n 0, 1) := by decide +kernel
theorem dX11_readsLetter_177 : decode cX11_readsLetter 177 = .ok (.aload_n 0, 1) := by decide +kernel
theorem dX11_readsLetter_178 : decode cX11_readsLetter 178 = .ok (.getfield 352, 3) := by decide +kernel
theorem dX11_readsLetter_181 : decode cX11_readsLetter 181 = .ok (.iconst 1, 1) := by decide +kernel
theorem dX11_readsLetter_182 : decode cX11_readsLetter 182 = .ok (.iadd, 1) := by decide +kernel
theorem dX11_readsLetter_183 : decode cX11_readsLetter 183 = .ok (.putfield 352, 3) := by decide +kernel
theorem dX11_readsLetter_186 : decode cX11_readsLetter 186 = .ok (.aload_n 0, 1) := by decide +kernel
theorem dX11_readsLetter_187 : decode cX11_readsLetter 187 = .ok (.aload_n 0, 1) := by decide +kernel
theorem dX11_readsLetter_188 : decode cX11_readsLetter 188 = .ok (.getfield 352, 3) := by decide +kernel
theorem dX11_readsLetter_191 : decode cX11_readsLetter 191 = .ok (.iconst 1, 1) := by decide +kernel
theorem dX11_readsLetter_192 : decode cX11_readsLetter 192 = .ok (.isub, 1) := by decide +kernel
theorem dX11_readsLetter_193 : decode cX11_readsLetter 193 = .ok (.iload_n 2, 1) := by decide +kernel
theorem dX11_readsLetter_194 : decode cX11_readsLetter 194 = .ok (.iload_n 1, 1) := by decide +kernel
theorem dX11_readsLetter_195 : decode cX11_readsLetter 195 = .ok (.invokevirtual 361, 3) := by decide +kernel
theorem dX11_readsLetter_198 : decode cX11_readsLetter 198 = .ok (.ifCond .ne 5, 3) := by decide +kernel
theorem dX11_readsLetter_201 : decode cX11_readsLetter 201 = .ok (.iconst 0, 1) := by decide +kernel
theorem dX11_readsLetter_202 : decode cX11_readsLetter 202 = .ok (.ireturn, 1) := by decide +kernel
theorem dX11_readsLetter_203 : decode cX11_readsLetter 203 = .ok (.aload_n 0, 1) := by decide +kernel
theorem dX11_readsLetter_204 : decode cX11_readsLetter 204 = .ok (.invokevirtual 170, 3) := by decide +kernel
theorem dX11_readsLetter_207 : decode cX11_readsLetter 207 = .ok (.bipush 41, 2) := by decide +kernel
theorem dX11_readsLetter_209 : decode cX11_readsLetter 209 = .ok (.if_icmp .ne 66, 3) := by decide +kernel
theorem dX11_readsLetter_212 : decode cX11_readsLetter 212 = .ok (.aload_n 0, 1) := by decide +kernel
theorem dX11_readsLetter_213 : decode cX11_readsLetter 213 = .ok (.getfield 358, 3) := by decide +kernel
theorem dX11_readsLetter_216 : decode cX11_readsLetter 216 = .ok (.ifCond .le 59, 3) := by decide +kernel
theorem dX11_readsLetter_219 : decode cX11_readsLetter 219 = .ok (.aload_n 0, 1) := by decide +kernel
theorem dX11_readsLetter_220 : decode cX11_readsLetter 220 = .ok (.aload_n 0, 1) := by decide +kernel
theorem dX11_readsLetter_221 : decode cX11_readsLetter 221 = .ok (.getfield 164, 3) := by decide +kernel
theorem dX11_readsLetter_224 : decode cX11_readsLetter 224 = .ok (.iconst 1, 1) := by decide +kernel
theorem dX11_readsLetter_225 : decode cX11_readsLetter 225 = .ok (.iadd, 1) := by decide +kernel
theorem dX11_readsLetter_226 : decode cX11_readsLetter 226 = .ok (.putfield 164, 3) := by decide +kernel
theorem dX11_readsLetter_229 : decode cX11_readsLetter 229 = .ok (.aload_n 0, 1) := by decide +kernel
theorem dX11_readsLetter_230 : decode cX11_readsLetter 230 = .ok (.aload_n 0, 1) := by decide +kernel
theorem dX11_readsLetter_231 : decode cX11_readsLetter 231 = .ok (.getfield 358, 3) := by decide +kernel
theorem dX11_readsLetter_234 : decode cX11_readsLetter 234 = .ok (.iconst 1, 1) := by decide +kernel
theorem dX11_readsLetter_235 : decode cX11_readsLetter 235 = .ok (.isub, 1) := by decide +kernel
theorem dX11_readsLetter_236 : decode cX11_readsLetter 236 = .ok (.putfield 358, 3) := by decide +kernel
theorem dX11_readsLetter_239 : decode cX11_readsLetter 239 = .ok (.aload_n 0, 1) := by decide +kernel
theorem dX11_readsLetter_240 : decode cX11_readsLetter 240 = .ok (.aload_n 0, 1) := by decide +kernel
theorem dX11_readsLetter_241 : decode cX11_readsLetter 241 = .ok (.getfield 98, 3) := by decide +kernel
theorem dX11_readsLetter_244 : decode cX11_readsLetter 244 = .ok (.aload_n 0, 1) := by decide +kernel
theorem dX11_readsLetter_245 : decode cX11_readsLetter 245 = .ok (.getfield 358, 3) := by decide +kernel
theorem dX11_readsLetter_248 : decode cX11_readsLetter 248 = .ok (.iaload, 1) := by decide +kernel
theorem dX11_readsLetter_249 : decode cX11_readsLetter 249 = .ok (.aload_n 0, 1) := by decide +kernel
theorem dX11_readsLetter_250 : decode cX11_readsLetter 250 = .ok (.getfield 101, 3) := by decide +kernel
theorem dX11_readsLetter_253 : decode cX11_readsLetter 253 = .ok (.aload_n 0, 1) := by decide +kernel
theorem dX11_readsLetter_254 : decode cX11_readsLetter 254 = .ok (.getfield 358, 3) := by decide +kernel
theorem dX11_readsLetter_257 : decode cX11_readsLetter 257 = .ok (.iaload, 1) := by decide +kernel
theorem dX11_readsLetter_258 : decode cX11_readsLetter 258 = .ok (.aload_n 0, 1) := by decide +kernel
theorem dX11_readsLetter_259 : decode cX11_readsLetter 259 = .ok (.getfield 95, 3) := by decide +kernel
theorem dX11_readsLetter_262 : decode cX11_readsLetter 262 = .ok (.aload_n 0, 1) := by decide +kernel
theorem dX11_readsLetter_263 : decode cX11_readsLetter 263 = .ok (.getfield 358, 3) := by decide +kernel
theorem dX11_readsLetter_266 : decode cX11_readsLetter 266 = .ok (.iaload, 1) := by decide +kernel
theorem dX11_readsLetter_267 : decode cX11_readsLetter 267 = .ok (.invokevirtual 361, 3) := by decide +kernel
theorem dX11_readsLetter_270 : decode cX11_readsLetter 270 = .ok (.ifCond .ne (-67), 3) := by decide +kernel
theorem dX11_readsLetter_273 : decode cX11_readsLetter 273 = .ok (.iconst 0, 1) := by decide +kernel
theorem dX11_readsLetter_274 : decode cX11_readsLetter 274 = .ok (.ireturn, 1) := by decide +kernel
theorem dX11_readsLetter_275 : decode cX11_readsLetter 275 = .ok (.iconst 1, 1) := by decide +kernel
theorem dX11_readsLetter_276 : decode cX11_readsLetter 276 = .ok (.ireturn, 1) := by decide +kernel
theorem dX11_oftenOf_0 : decode cX11_oftenOf 0 = .ok (.iconst 0, 1) := by decide +kernel
theorem dX11_oftenOf_1 : decode cX11_oftenOf 1 = .ok (.istore_n 2, 1) := by decide +kernel
theorem dX11_oftenOf_2 : decode cX11_oftenOf 2 = .ok (.iconst 0, 1) := by decide +kernel
theorem dX11_oftenOf_3 : decode cX11_oftenOf 3 = .ok (.istore_n 3, 1) := by decide +kernel
theorem dX11_oftenOf_4 : decode cX11_oftenOf 4 = .ok (.iload_n 3, 1) := by decide +kernel
theorem dX11_oftenOf_5 : decode cX11_oftenOf 5 = .ok (.aload_n 0, 1) := by decide +kernel
theorem dX11_oftenOf_6 : decode cX11_oftenOf 6 = .ok (.getfield 352, 3) := by decide +kernel
theorem dX11_oftenOf_9 : decode cX11_oftenOf 9 = .ok (.if_icmp .ge 23, 3) := by decide +kernel
theorem dX11_oftenOf_12 : decode cX11_oftenOf 12 = .ok (.aload_n 0, 1) := by decide +kernel
theorem dX11_oftenOf_13 : decode cX11_oftenOf 13 = .ok (.getfield 92, 3) := by decide +kernel
theorem dX11_oftenOf_16 : decode cX11_oftenOf 16 = .ok (.iload_n 3, 1) := by decide +kernel
theorem dX11_oftenOf_17 : decode cX11_oftenOf 17 = .ok (.iaload, 1) := by decide +kernel
theorem dX11_oftenOf_18 : decode cX11_oftenOf 18 = .ok (.iload_n 1, 1) := by decide +kernel
theorem dX11_oftenOf_19 : decode cX11_oftenOf 19 = .ok (.if_icmp .ne 7, 3) := by decide +kernel
theorem dX11_oftenOf_22 : decode cX11_oftenOf 22 = .ok (.iload_n 2, 1) := by decide +kernel
theorem dX11_oftenOf_23 : decode cX11_oftenOf 23 = .ok (.iconst 1, 1) := by decide +kernel
theorem dX11_oftenOf_24 : decode cX11_oftenOf 24 = .ok (.iadd, 1) := by decide +kernel
theorem dX11_oftenOf_25 : decode cX11_oftenOf 25 = .ok (.istore_n 2, 1) := by decide +kernel
theorem dX11_oftenOf_26 : decode cX11_oftenOf 26 = .ok (.iinc 3 1, 3) := by decide +kernel
theorem dX11_oftenOf_29 : decode cX11_oftenOf 29 = .ok (.goto (-25), 3) := by decide +kernel
theorem dX11_oftenOf_32 : decode cX11_oftenOf 32 = .ok (.iload_n 2, 1) := by decide +kernel
theorem dX11_oftenOf_33 : decode cX11_oftenOf 33 = .ok (.ireturn, 1) := by decide +kernel
theorem dX11_mostOften_0 : decode cX11_mostOften 0 = .ok (.iconst 0, 1) := by decide +kernel
theorem dX11_mostOften_1 : decode cX11_mostOften 1 = .ok (.istore_n 1, 1) := by decide +kernel
theorem dX11_mostOften_2 : decode cX11_mostOften 2 = .ok (.iconst 1, 1) := by decide +kernel
theorem dX11_mostOften_3 : decode cX11_mostOften 3 = .ok (.istore_n 2, 1) := by decide +kernel
theorem dX11_mostOften_4 : decode cX11_mostOften 4 = .ok (.iload_n 2, 1) := by decide +kernel
theorem dX11_mostOften_5 : decode cX11_mostOften 5 = .ok (.bipush 26, 2) := by decide +kernel
theorem dX11_mostOften_7 : decode cX11_mostOften 7 = .ok (.if_icmp .ge 24, 3) := by decide +kernel
theorem dX11_mostOften_10 : decode cX11_mostOften 10 = .ok (.aload_n 0, 1) := by decide +kernel
theorem dX11_mostOften_11 : decode cX11_mostOften 11 = .ok (.iload_n 2, 1) := by decide +kernel
theorem dX11_mostOften_12 : decode cX11_mostOften 12 = .ok (.invokevirtual 364, 3) := by decide +kernel
theorem dX11_mostOften_15 : decode cX11_mostOften 15 = .ok (.aload_n 0, 1) := by decide +kernel
theorem dX11_mostOften_16 : decode cX11_mostOften 16 = .ok (.iload_n 1, 1) := by decide +kernel
theorem dX11_mostOften_17 : decode cX11_mostOften 17 = .ok (.invokevirtual 364, 3) := by decide +kernel
theorem dX11_mostOften_20 : decode cX11_mostOften 20 = .ok (.if_icmp .le 5, 3) := by decide +kernel
theorem dX11_mostOften_23 : decode cX11_mostOften 23 = .ok (.iload_n 2, 1) := by decide +kernel
theorem dX11_mostOften_24 : decode cX11_mostOften 24 = .ok (.istore_n 1, 1) := by decide +kernel
theorem dX11_mostOften_25 : decode cX11_mostOften 25 = .ok (.iinc 2 1, 3) := by decide +kernel
theorem dX11_mostOften_28 : decode cX11_mostOften 28 = .ok (.goto (-24), 3) := by decide +kernel
theorem dX11_mostOften_31 : decode cX11_mostOften 31 = .ok (.iload_n 1, 1) := by decide +kernel
theorem dX11_mostOften_32 : decode cX11_mostOften 32 = .ok (.ireturn, 1) := by decide +kernel
theorem dX11_vowelsBy_0 : decode cX11_vowelsBy 0 = .ok (.iconst 0, 1) := by decide +kernel
theorem dX11_vowelsBy_1 : decode cX11_vowelsBy 1 = .ok (.istore_n 2, 1) := by decide +kernel
theorem dX11_vowelsBy_2 : decode cX11_vowelsBy 2 = .ok (.iconst 0, 1) := by decide +kernel
theorem dX11_vowelsBy_3 : decode cX11_vowelsBy 3 = .ok (.istore_n 3, 1) := by decide +kernel
theorem dX11_vowelsBy_4 : decode cX11_vowelsBy 4 = .ok (.iload_n 3, 1) := by decide +kernel
theorem dX11_vowelsBy_5 : decode cX11_vowelsBy 5 = .ok (.aload_n 0, 1) := by decide +kernel
theorem dX11_vowelsBy_6 : decode cX11_vowelsBy 6 = .ok (.getfield 352, 3) := by decide +kernel
theorem dX11_vowelsBy_9 : decode cX11_vowelsBy 9 = .ok (.if_icmp .ge 58, 3) := by decide +kernel
theorem dX11_vowelsBy_12 : decode cX11_vowelsBy 12 = .ok (.aload_n 0, 1) := by decide +kernel
theorem dX11_vowelsBy_13 : decode cX11_vowelsBy 13 = .ok (.getfield 92, 3) := by decide +kernel
theorem dX11_vowelsBy_16 : decode cX11_vowelsBy 16 = .ok (.iload_n 3, 1) := by decide +kernel
theorem dX11_vowelsBy_17 : decode cX11_vowelsBy 17 = .ok (.iaload, 1) := by decide +kernel
theorem dX11_vowelsBy_18 : decode cX11_vowelsBy 18 = .ok (.iload_n 1, 1) := by decide +kernel
theorem dX11_vowelsBy_19 : decode cX11_vowelsBy 19 = .ok (.iadd, 1) := by decide +kernel
theorem dX11_vowelsBy_20 : decode cX11_vowelsBy 20 = .ok (.bipush 26, 2) := by decide +kernel
theorem dX11_vowelsBy_22 : decode cX11_vowelsBy 22 = .ok (.irem, 1) := by decide +kernel
theorem dX11_vowelsBy_23 : decode cX11_vowelsBy 23 = .ok (.istore 4, 2) := by decide +kernel
theorem dX11_vowelsBy_25 : decode cX11_vowelsBy 25 = .ok (.iload 4, 2) := by decide +kernel
theorem dX11_vowelsBy_27 : decode cX11_vowelsBy 27 = .ok (.ifCond .eq 30, 3) := by decide +kernel
theorem dX11_vowelsBy_30 : decode cX11_vowelsBy 30 = .ok (.iload 4, 2) := by decide +kernel
theorem dX11_vowelsBy_32 : decode cX11_vowelsBy 32 = .ok (.iconst 4, 1) := by decide +kernel
theorem dX11_vowelsBy_33 : decode cX11_vowelsBy 33 = .ok (.if_icmp .eq 24, 3) := by decide +kernel
theorem dX11_vowelsBy_36 : decode cX11_vowelsBy 36 = .ok (.iload 4, 2) := by decide +kernel
theorem dX11_vowelsBy_38 : decode cX11_vowelsBy 38 = .ok (.bipush 8, 2) := by decide +kernel
theorem dX11_vowelsBy_40 : decode cX11_vowelsBy 40 = .ok (.if_icmp .eq 17, 3) := by decide +kernel
theorem dX11_vowelsBy_43 : decode cX11_vowelsBy 43 = .ok (.iload 4, 2) := by decide +kernel
theorem dX11_vowelsBy_45 : decode cX11_vowelsBy 45 = .ok (.bipush 14, 2) := by decide +kernel
theorem dX11_vowelsBy_47 : decode cX11_vowelsBy 47 = .ok (.if_icmp .eq 10, 3) := by decide +kernel
theorem dX11_vowelsBy_50 : decode cX11_vowelsBy 50 = .ok (.iload 4, 2) := by decide +kernel
theorem dX11_vowelsBy_52 : decode cX11_vowelsBy 52 = .ok (.bipush 20, 2) := by decide +kernel
theorem dX11_vowelsBy_54 : decode cX11_vowelsBy 54 = .ok (.if_icmp .ne 7, 3) := by decide +kernel
theorem dX11_vowelsBy_57 : decode cX11_vowelsBy 57 = .ok (.iload_n 2, 1) := by decide +kernel
theorem dX11_vowelsBy_58 : decode cX11_vowelsBy 58 = .ok (.iconst 1, 1) := by decide +kernel
theorem dX11_vowelsBy_59 : decode cX11_vowelsBy 59 = .ok (.iadd, 1) := by decide +kernel
theorem dX11_vowelsBy_60 : decode cX11_vowelsBy 60 = .ok (.istore_n 2, 1) := by decide +kernel
theorem dX11_vowelsBy_61 : decode cX11_vowelsBy 61 = .ok (.iinc 3 1, 3) := by decide +kernel
theorem dX11_vowelsBy_64 : decode cX11_vowelsBy 64 = .ok (.goto (-60), 3) := by decide +kernel
theorem dX11_vowelsBy_67 : decode cX11_vowelsBy 67 = .ok (.iload_n 2, 1) := by decide +kernel
theorem dX11_vowelsBy_68 : decode cX11_vowelsBy 68 = .ok (.ireturn, 1) := by decide +kernel
theorem dX11_bestShift_0 : decode cX11_bestShift 0 = .ok (.iconst 0, 1) := by decide +kernel
theorem dX11_bestShift_1 : decode cX11_bestShift 1 = .ok (.istore_n 1, 1) := by decide +kernel
theorem dX11_bestShift_2 : decode cX11_bestShift 2 = .ok (.iconst 1, 1) := by decide +kernel
theorem dX11_bestShift_3 : decode cX11_bestShift 3 = .ok (.istore_n 2, 1) := by decide +kernel
theorem dX11_bestShift_4 : decode cX11_bestShift 4 = .ok (.iload_n 2, 1) := by decide +kernel
theorem dX11_bestShift_5 : decode cX11_bestShift 5 = .ok (.bipush 26, 2) := by decide +kernel
theorem dX11_bestShift_7 : decode cX11_bestShift 7 = .ok (.if_icmp .ge 24, 3) := by decide +kernel
theorem dX11_bestShift_10 : decode cX11_bestShift 10 = .ok (.aload_n 0, 1) := by decide +kernel
theorem dX11_bestShift_11 : decode cX11_bestShift 11 = .ok (.iload_n 2, 1) := by decide +kernel
theorem dX11_bestShift_12 : decode cX11_bestShift 12 = .ok (.invokevirtual 367, 3) := by decide +kernel
theorem dX11_bestShift_15 : decode cX11_bestShift 15 = .ok (.aload_n 0, 1) := by decide +kernel
theorem dX11_bestShift_16 : decode cX11_bestShift 16 = .ok (.iload_n 1, 1) := by decide +kernel
theorem dX11_bestShift_17 : decode cX11_bestShift 17 = .ok (.invokevirtual 367, 3) := by decide +kernel
theorem dX11_bestShift_20 : decode cX11_bestShift 20 = .ok (.if_icmp .le 5, 3) := by decide +kernel
theorem dX11_bestShift_23 : decode cX11_bestShift 23 = .ok (.iload_n 2, 1) := by decide +kernel
theorem dX11_bestShift_24 : decode cX11_bestShift 24 = .ok (.istore_n 1, 1) := by decide +kernel
theorem dX11_bestShift_25 : decode cX11_bestShift 25 = .ok (.iinc 2 1, 3) := by decide +kernel
theorem dX11_bestShift_28 : decode cX11_bestShift 28 = .ok (.goto (-24), 3) := by decide +kernel
theorem dX11_bestShift_31 : decode cX11_bestShift 31 = .ok (.iload_n 1, 1) := by decide +kernel
theorem dX11_bestShift_32 : decode cX11_bestShift 32 = .ok (.ireturn, 1) := by decide +kernel
theorem dX11_isLike_0 : decode cX11_isLike 0 = .ok (.iload_n 1, 1) := by decide +kernel
theorem dX11_isLike_1 : decode cX11_isLike 1 = .ok (.istore_n 3, 1) := by decide +kernel
theorem dX11_isLike_2 : decode cX11_isLike 2 = .ok (.iload_n 2, 1) := by decide +kernel
theorem dX11_isLike_3 : decode cX11_isLike 3 = .ok (.istore 4, 2) := by decide +kernel
theorem dX11_isLike_5 : decode cX11_isLike 5 = .ok (.iload_n 3, 1) := by decide +kernel
theorem dX11_isLike_6 : decode cX11_isLike 6 = .ok (.iload 4, 2) := by decide +kernel
theorem dX11_isLike_8 : decode cX11_isLike 8 = .ok (.if_icmp .ge 32, 3) := by decide +kernel
theorem dX11_isLike_11 : decode cX11_isLike 11 = .ok (.aload_n 0, 1) := by decide +kernel
theorem dX11_isLike_12 : decode cX11_isLike 12 = .ok (.getfield 92, 3) := by decide +kernel
theorem dX11_isLike_15 : decode cX11_isLike 15 = .ok (.iload_n 3, 1) := by decide +kernel
theorem dX11_isLike_16 : decode cX11_isLike 16 = .ok (.iaload, 1) := by decide +kernel
theorem dX11_isLike_17 : decode cX11_isLike 17 = .ok (.aload_n 0, 1) := by decide +kernel
theorem dX11_isLike_18 : decode cX11_isLike 18 = .ok (.getfield 92, 3) := by decide +kernel
theorem dX11_isLike_21 : decode cX11_isLike 21 = .ok (.iload 4, 2) := by decide +kernel
theorem dX11_isLike_23 : decode cX11_isLike 23 = .ok (.iaload, 1) := by decide +kernel
theorem dX11_isLike_24 : decode cX11_isLike 24 = .ok (.if_icmp .ne 16, 3) := by decide +kernel
theorem dX11_isLike_27 : decode cX11_isLike 27 = .ok (.iload_n 3, 1) := by decide +kernel
theorem dX11_isLike_28 : decode cX11_isLike 28 = .ok (.iconst 1, 1) := by decide +kernel
theorem dX11_isLike_29 : decode cX11_isLike 29 = .ok (.iadd, 1) := by decide +kernel
theorem dX11_isLike_30 : decode cX11_isLike 30 = .ok (.istore_n 3, 1) := by decide +kernel
theorem dX11_isLike_31 : decode cX11_isLike 31 = .ok (.iload 4, 2) := by decide +kernel
theorem dX11_isLike_33 : decode cX11_isLike 33 = .ok (.iconst 1, 1) := by decide +kernel
theorem dX11_isLike_34 : decode cX11_isLike 34 = .ok (.isub, 1) := by decide +kernel
theorem dX11_isLike_35 : decode cX11_isLike 35 = .ok (.istore 4, 2) := by decide +kernel
theorem dX11_isLike_37 : decode cX11_isLike 37 = .ok (.goto (-32), 3) := by decide +kernel
theorem dX11_isLike_40 : decode cX11_isLike 40 = .ok (.iload_n 3, 1) := by decide +kernel
theorem dX11_isLike_41 : decode cX11_isLike 41 = .ok (.iload 4, 2) := by decide +kernel
theorem dX11_isLike_43 : decode cX11_isLike 43 = .ok (.if_icmp .lt 7, 3) := by decide +kernel
theorem dX11_isLike_46 : decode cX11_isLike 46 = .ok (.iconst 1, 1) := by decide +kernel
theorem dX11_isLike_47 : decode cX11_isLike 47 = .ok (.goto 4, 3) := by decide +kernel
theorem dX11_isLike_50 : decode cX11_isLike 50 = .ok (.iconst 0, 1) := by decide +kernel
theorem dX11_isLike_51 : decode cX11_isLike 51 = .ok (.ireturn, 1) := by decide +kernel
theorem dX11_longestLike_0 : decode cX11_longestLike 0 = .ok (.iconst 0, 1) := by decide +kernel
theorem dX11_longestLike_1 : decode cX11_longestLike 1 = .ok (.istore_n 1, 1) := by decide +kernel
theorem dX11_longestLike_2 : decode cX11_longestLike 2 = .ok (.iconst 0, 1) := by decide +kernel
theorem dX11_longestLike_3 : decode cX11_longestLike 3 = .ok (.istore_n 2, 1) := by decide +kernel
theorem dX11_longestLike_4 : decode cX11_longestLike 4 = .ok (.iload_n 2, 1) := by decide +kernel
theorem dX11_longestLike_5 : decode cX11_longestLike 5 = .ok (.aload_n 0, 1) := by decide +kernel
theorem dX11_longestLike_6 : decode cX11_longestLike 6 = .ok (.getfield 352, 3) := by decide +kernel
theorem dX11_longestLike_9 : decode cX11_longestLike 9 = .ok (.if_icmp .ge 44, 3) := by decide +kernel
theorem dX11_longestLike_12 : decode cX11_longestLike 12 = .ok (.iload_n 2, 1) := by decide +kernel
theorem dX11_longestLike_13 : decode cX11_longestLike 13 = .ok (.istore_n 3, 1) := by decide +kernel
theorem dX11_longestLike_14 : decode cX11_longestLike 14 = .ok (.iload_n 3, 1) := by decide +kernel
theorem dX11_longestLike_15 : decode cX11_longestLike 15 = .ok (.aload_n 0, 1) := by decide +kernel
theorem dX11_longestLike_16 : decode cX11_longestLike 16 = .ok (.getfield 352, 3) := by decide +kernel
theorem dX11_longestLike_19 : decode cX11_longestLike 19 = .ok (.if_icmp .ge 28, 3) := by decide +kernel
theorem dX11_longestLike_22 : decode cX11_longestLike 22 = .ok (.aload_n 0, 1) := by decide +kernel
theorem dX11_longestLike_23 : decode cX11_longestLike 23 = .ok (.iload_n 2, 1) := by decide +kernel
theorem dX11_longestLike_24 : decode cX11_longestLike 24 = .ok (.iload_n 3, 1) := by decide +kernel
theorem dX11_longestLike_25 : decode cX11_longestLike 25 = .ok (.invokevirtual 370, 3) := by decide +kernel
theorem dX11_longestLike_28 : decode cX11_longestLike 28 = .ok (.ifCond .eq 13, 3) := by decide +kernel
theorem dX11_longestLike_31 : decode cX11_longestLike 31 = .ok (.iload_n 1, 1) := by decide +kernel
theorem dX11_longestLike_32 : decode cX11_longestLike 32 = .ok (.iload_n 3, 1) := by decide +kernel
theorem dX11_longestLike_33 : decode cX11_longestLike 33 = .ok (.iload_n 2, 1) := by decide +kernel
theorem dX11_longestLike_34 : decode cX11_longestLike 34 = .ok (.isub, 1) := by decide +kernel
theorem dX11_longestLike_35 : decode cX11_longestLike 35 = .ok (.iconst 1, 1) := by decide +kernel
theorem dX11_longestLike_36 : decode cX11_longestLike 36 = .ok (.iadd, 1) := by decide +kernel
theorem dX11_longestLike_37 : decode cX11_longestLike 37 = .ok (.invokestatic 373, 3) := by decide +kernel
theorem dX11_longestLike_40 : decode cX11_longestLike 40 = .ok (.istore_n 1, 1) := by decide +kernel
theorem dX11_longestLike_41 : decode cX11_longestLike 41 = .ok (.iinc 3 1, 3) := by decide +kernel
theorem dX11_longestLike_44 : decode cX11_longestLike 44 = .ok (.goto (-30), 3) := by decide +kernel
theorem dX11_longestLike_47 : decode cX11_longestLike 47 = .ok (.iinc 2 1, 3) := by decide +kernel
theorem dX11_longestLike_50 : decode cX11_longestLike 50 = .ok (.goto (-46), 3) := by decide +kernel
theorem dX11_longestLike_53 : decode cX11_longestLike 53 = .ok (.iload_n 1, 1) := by decide +kernel
theorem dX11_longestLike_54 : decode cX11_longestLike 54 = .ok (.ireturn, 1) := by decide +kernel
theorem dX11_slip_0 : decode cX11_slip 0 = .ok (.iload_n 1, 1) := by decide +kernel
theorem dX11_slip_1 : decode cX11_slip 1 = .ok (.iconst 1, 1) := by decide +kernel
theorem dX11_slip_2 : decode cX11_slip 2 = .ok (.bipush 80, 2) := by decide +kernel
theorem dX11_slip_4 : decode cX11_slip 4 = .ok (.invokestatic 125, 3) := by decide +kernel
theorem dX11_slip_7 : decode cX11_slip 7 = .ok (.ifCond .eq 32, 3) := by decide +kernel
theorem dX11_slip_10 : decode cX11_slip 10 = .ok (.iload_n 2, 1) := by decide +kernel
theorem dX11_slip_11 : decode cX11_slip 11 = .ok (.iconst 0, 1) := by decide +kernel
theorem dX11_slip_12 : decode cX11_slip 12 = .ok (.bipush 25, 2) := by decide +kernel
theorem dX11_slip_14 : decode cX11_slip 14 = .ok (.invokestatic 125, 3) := by decide +kernel
theorem dX11_slip_17 : decode cX11_slip 17 = .ok (.ifCond .ne 14, 3) := by decide +kernel
theorem dX11_slip_20 : decode cX11_slip 20 = .ok (.iload_n 2, 1) := by decide +kernel
theorem dX11_slip_21 : decode cX11_slip 21 = .ok (.bipush 100, 2) := by decide +kernel
theorem dX11_slip_23 : decode cX11_slip 23 = .ok (.bipush 105, 2) := by decide +kernel
theorem dX11_slip_25 : decode cX11_slip 25 = .ok (.invokestatic 125, 3) := by decide +kernel
theorem dX11_slip_28 : decode cX11_slip 28 = .ok (.ifCond .eq 11, 3) := by decide +kernel
theorem dX11_slip_31 : decode cX11_slip 31 = .ok (.iload_n 1, 1) := by decide +kernel
theorem dX11_slip_32 : decode cX11_slip 32 = .ok (.aload_n 0, 1) := by decide +kernel
theorem dX11_slip_33 : decode cX11_slip 33 = .ok (.getfield 158, 3) := by decide +kernel
theorem dX11_slip_36 : decode cX11_slip 36 = .ok (.if_icmp .le 5, 3) := by decide +kernel
theorem dX11_slip_39 : decode cX11_slip 39 = .ok (.iconst (-1), 1) := by decide +kernel
theorem dX11_slip_40 : decode cX11_slip 40 = .ok (.ireturn, 1) := by decide +kernel
theorem dX11_slip_41 : decode cX11_slip 41 = .ok (.aload_n 0, 1) := by decide +kernel
theorem dX11_slip_42 : decode cX11_slip 42 = .ok (.iload_n 1, 1) := by decide +kernel
theorem dX11_slip_43 : decode cX11_slip 43 = .ok (.invokevirtual 247, 3) := by decide +kernel
theorem dX11_slip_46 : decode cX11_slip 46 = .ok (.aload_n 0, 1) := by decide +kernel
theorem dX11_slip_47 : decode cX11_slip 47 = .ok (.iconst 0, 1) := by decide +kernel
theorem dX11_slip_48 : decode cX11_slip 48 = .ok (.putfield 352, 3) := by decide +kernel
theorem dX11_slip_51 : decode cX11_slip 51 = .ok (.aload_n 0, 1) := by decide +kernel
theorem dX11_slip_52 : decode cX11_slip 52 = .ok (.iconst 0, 1) := by decide +kernel
theorem dX11_slip_53 : decode cX11_slip 53 = .ok (.putfield 358, 3) := by decide +kernel
theorem dX11_slip_56 : decode cX11_slip 56 = .ok (.aload_n 0, 1) := by decide +kernel
theorem dX11_slip_57 : decode cX11_slip 57 = .ok (.invokevirtual 376, 3) := by decide +kernel
theorem dX11_slip_60 : decode cX11_slip 60 = .ok (.istore_n 3, 1) := by decide +kernel
theorem dX11_slip_61 : decode cX11_slip 61 = .ok (.iload_n 3, 1) := by decide +kernel
theorem dX11_slip_62 : decode cX11_slip 62 = .ok (.ifCond .eq 29, 3) := by decide +kernel
theorem dX11_slip_65 : decode cX11_slip 65 = .ok (.aload_n 0, 1) := by decide +kernel
theorem dX11_slip_66 : decode cX11_slip 66 = .ok (.getfield 164, 3) := by decide +kernel
theorem dX11_slip_69 : decode cX11_slip 69 = .ok (.aload_n 0, 1) := by decide +kernel
theorem dX11_slip_70 : decode cX11_slip 70 = .ok (.getfield 167, 3) := by decide +kernel
theorem dX11_slip_73 : decode cX11_slip 73 = .ok (.if_icmp .lt 10, 3) := by decide +kernel
theorem dX11_slip_76 : decode cX11_slip 76 = .ok (.aload_n 0, 1) := by decide +kernel
theorem dX11_slip_77 : decode cX11_slip 77 = .ok (.getfield 358, 3) := by decide +kernel
theorem dX11_slip_80 : decode cX11_slip 80 = .ok (.ifCond .le 11, 3) := by decide +kernel
theorem dX11_slip_83 : decode cX11_slip 83 = .ok (.aload_n 0, 1) := by decide +kernel
theorem dX11_slip_84 : decode cX11_slip 84 = .ok (.invokevirtual 376, 3) := by decide +kernel
theorem dX11_slip_87 : decode cX11_slip 87 = .ok (.istore_n 3, 1) := by decide +kernel
theorem dX11_slip_88 : decode cX11_slip 88 = .ok (.goto (-27), 3) := by decide +kernel
theorem dX11_slip_91 : decode cX11_slip 91 = .ok (.aload_n 0, 1) := by decide +kernel
theorem dX11_slip_92 : decode cX11_slip 92 = .ok (.iconst 0, 1) := by decide +kernel
theorem dX11_slip_93 : decode cX11_slip 93 = .ok (.putfield 158, 3) := by decide +kernel
theorem dX11_slip_96 : decode cX11_slip 96 = .ok (.iload_n 3, 1) := by decide +kernel
theorem dX11_slip_97 : decode cX11_slip 97 = .ok (.ifCond .ne 8, 3) := by decide +kernel
theorem dX11_slip_100 : decode cX11_slip 100 = .ok (.aload_n 0, 1) := by decide +kernel
theorem dX11_slip_101 : decode cX11_slip 101 = .ok (.getfield 174, 3) := by decide +kernel
theorem dX11_slip_104 : decode cX11_slip 104 = .ok (.ireturn, 1) := by decide +kernel
theorem dX11_slip_105 : decode cX11_slip 105 = .ok (.iload_n 2, 1) := by decide +kernel
theorem dX11_slip_106 : decode cX11_slip 106 = .ok (.tableswitch 87 100 105 #[38, 43, 48, 57, 62, 82], 38) := by decide +kernel
theorem dX11_slip_144 : decode cX11_slip 144 = .ok (.aload_n 0, 1) := by decide +kernel
theorem dX11_slip_145 : decode cX11_slip 145 = .ok (.getfield 352, 3) := by decide +kernel
theorem dX11_slip_148 : decode cX11_slip 148 = .ok (.ireturn, 1) := by decide +kernel
theorem dX11_slip_149 : decode cX11_slip 149 = .ok (.aload_n 0, 1) := by decide +kernel
theorem dX11_slip_150 : decode cX11_slip 150 = .ok (.invokevirtual 379, 3) := by decide +kernel
theorem dX11_slip_153 : decode cX11_slip 153 = .ok (.ireturn, 1) := by decide +kernel
theorem dX11_slip_154 : decode cX11_slip 154 = .ok (.aload_n 0, 1) := by decide +kernel
theorem dX11_slip_155 : decode cX11_slip 155 = .ok (.aload_n 0, 1) := by decide +kernel
theorem dX11_slip_156 : decode cX11_slip 156 = .ok (.invokevirtual 379, 3) := by decide +kernel
theorem dX11_slip_159 : decode cX11_slip 159 = .ok (.invokevirtual 364, 3) := by decide +kernel
theorem dX11_slip_162 : decode cX11_slip 162 = .ok (.ireturn, 1) := by decide +kernel
theorem dX11_slip_163 : decode cX11_slip 163 = .ok (.aload_n 0, 1) := by decide +kernel
theorem dX11_slip_164 : decode cX11_slip 164 = .ok (.invokevirtual 382, 3) := by decide +kernel
theorem dX11_slip_167 : decode cX11_slip 167 = .ok (.ireturn, 1) := by decide +kernel
theorem dX11_slip_168 : decode cX11_slip 168 = .ok (.aload_n 0, 1) := by decide +kernel
theorem dX11_slip_169 : decode cX11_slip 169 = .ok (.iconst 0, 1) := by decide +kernel
theorem dX11_slip_170 : decode cX11_slip 170 = .ok (.aload_n 0, 1) := by decide +kernel
theorem dX11_slip_171 : decode cX11_slip 171 = .ok (.getfield 352, 3) := by decide +kernel
theorem dX11_slip_174 : decode cX11_slip 174 = .ok (.iconst 1, 1) := by decide +kernel
theorem dX11_slip_175 : decode cX11_slip 175 = .ok (.isub, 1) := by decide +kernel
theorem dX11_slip_176 : decode cX11_slip 176 = .ok (.invokevirtual 370, 3) := by decide +kernel
theorem dX11_slip_179 : decode cX11_slip 179 = .ok (.ifCond .eq 7, 3) := by decide +kernel
theorem dX11_slip_182 : decode cX11_slip 182 = .ok (.iconst 1, 1) := by decide +kernel
theorem dX11_slip_183 : decode cX11_slip 183 = .ok (.goto 4, 3) := by decide +kernel
theorem dX11_slip_186 : decode cX11_slip 186 = .ok (.iconst 0, 1) := by decide +kernel
theorem dX11_slip_187 : decode cX11_slip 187 = .ok (.ireturn, 1) := by decide +kernel
theorem dX11_slip_188 : decode cX11_slip 188 = .ok (.aload_n 0, 1) := by decide +kernel
theorem dX11_slip_189 : decode cX11_slip 189 = .ok (.invokevirtual 385, 3) := by decide +kernel
theorem dX11_slip_192 : decode cX11_slip 192 = .ok (.ireturn, 1) := by decide +kernel
theorem dX11_slip_193 : decode cX11_slip 193 = .ok (.aload_n 0, 1) := by decide +kernel
theorem dX11_slip_194 : decode cX11_slip 194 = .ok (.iload_n 2, 1) := by decide +kernel
theorem dX11_slip_195 : decode cX11_slip 195 = .ok (.invokevirtual 367, 3) := by decide +kernel
theorem dX11_slip_198 : decode cX11_slip 198 = .ok (.ireturn, 1) := by decide +kernel
theorem dX11_canMove_0 : decode cX11_canMove 0 = .ok (.aload_n 0, 1) := by decide +kernel
theorem dX11_canMove_1 : decode cX11_canMove 1 = .ok (.iconst 2, 1) := by decide +kernel
theorem dX11_canMove_2 : decode cX11_canMove 2 = .ok (.iload_n 2, 1) := by decide +kernel
theorem dX11_canMove_3 : decode cX11_canMove 3 = .ok (.imul, 1) := by decide +kernel
theorem dX11_canMove_4 : decode cX11_canMove 4 = .ok (.invokevirtual 388, 3) := by decide +kernel
theorem dX11_canMove_7 : decode cX11_canMove 7 = .ok (.istore_n 3, 1) := by decide +kernel
theorem dX11_canMove_8 : decode cX11_canMove 8 = .ok (.iload_n 3, 1) := by decide +kernel
theorem dX11_canMove_9 : decode cX11_canMove 9 = .ok (.iload_n 1, 1) := by decide +kernel
theorem dX11_canMove_10 : decode cX11_canMove 10 = .ok (.iconst (-1), 1) := by decide +kernel
theorem dX11_canMove_11 : decode cX11_canMove 11 = .ok (.ixor, 1) := by decide +kernel
theorem dX11_canMove_12 : decode cX11_canMove 12 = .ok (.iand, 1) := by decide +kernel
theorem dX11_canMove_13 : decode cX11_canMove 13 = .ok (.ifCond .ne 21, 3) := by decide +kernel
theorem dX11_canMove_16 : decode cX11_canMove 16 = .ok (.aload_n 0, 1) := by decide +kernel
theorem dX11_canMove_17 : decode cX11_canMove 17 = .ok (.iconst 2, 1) := by decide +kernel
theorem dX11_canMove_18 : decode cX11_canMove 18 = .ok (.iload_n 2, 1) := by decide +kernel
theorem dX11_canMove_19 : decode cX11_canMove 19 = .ok (.imul, 1) := by decide +kernel
theorem dX11_canMove_20 : decode cX11_canMove 20 = .ok (.iconst 1, 1) := by decide +kernel
theorem dX11_canMove_21 : decode cX11_canMove 21 = .ok (.iadd, 1) := by decide +kernel
theorem dX11_canMove_22 : decode cX11_canMove 22 = .ok (.invokevirtual 388, 3) := by decide +kernel
theorem dX11_canMove_25 : decode cX11_canMove 25 = .ok (.iload_n 1, 1) := by decide +kernel
theorem dX11_canMove_26 : decode cX11_canMove 26 = .ok (.iand, 1) := by decide +kernel
theorem dX11_canMove_27 : decode cX11_canMove 27 = .ok (.ifCond .ne 7, 3) := by decide +kernel
theorem dX11_canMove_30 : decode cX11_canMove 30 = .ok (.iconst 1, 1) := by decide +kernel
theorem dX11_canMove_31 : decode cX11_canMove 31 = .ok (.goto 4, 3) := by decide +kernel
theorem dX11_canMove_34 : decode cX11_canMove 34 = .ok (.iconst 0, 1) := by decide +kernel
theorem dX11_canMove_35 : decode cX11_canMove 35 = .ok (.ireturn, 1) := by decide +kernel
theorem dX11_laysMoves_0 : decode cX11_laysMoves 0 = .ok (.iconst 0, 1) := by decide +kernel
theorem dX11_laysMoves_1 : decode cX11_laysMoves 1 = .ok (.istore_n 3, 1) := by decide +kernel
theorem dX11_laysMoves_2 : decode cX11_laysMoves 2 = .ok (.iconst 0, 1) := by decide +kernel
theorem dX11_laysMoves_3 : decode cX11_laysMoves 3 = .ok (.istore 4, 2) := by decide +kernel
theorem dX11_laysMoves_5 : decode cX11_laysMoves 5 = .ok (.iload 4, 2) := by decide +kernel
theorem dX11_laysMoves_7 : decode cX11_laysMoves 7 = .ok (.iconst 1, 1) := by decide +kernel
theorem dX11_laysMoves_8 : decode cX11_laysMoves 8 = .ok (.iload_n 1, 1) := by decide +kernel
theorem dX11_laysMoves_9 : decode cX11_laysMoves 9 = .ok (.ishl, 1) := by decide +kernel
theorem dX11_laysMoves_10 : decode cX11_laysMoves 10 = .ok (.if_icmp .ge 54, 3) := by decide +kernel
theorem dX11_laysMoves_13 : decode cX11_laysMoves 13 = .ok (.aload_n 0, 1) := by decide +kernel
theorem dX11_laysMoves_14 : decode cX11_laysMoves 14 = .ok (.getfield 104, 3) := by decide +kernel
theorem dX11_laysMoves_17 : decode cX11_laysMoves 17 = .ok (.iload 4, 2) := by decide +kernel
theorem dX11_laysMoves_19 : decode cX11_laysMoves 19 = .ok (.iload 4, 2) := by decide +kernel
theorem dX11_laysMoves_21 : decode cX11_laysMoves 21 = .ok (.iload_n 2, 1) := by decide +kernel
theorem dX11_laysMoves_22 : decode cX11_laysMoves 22 = .ok (.invokestatic 133, 3) := by decide +kernel
theorem dX11_laysMoves_25 : decode cX11_laysMoves 25 = .ok (.ifCond .eq 7, 3) := by decide +kernel
theorem dX11_laysMoves_28 : decode cX11_laysMoves 28 = .ok (.iconst 0, 1) := by decide +kernel
theorem dX11_laysMoves_29 : decode cX11_laysMoves 29 = .ok (.goto 4, 3) := by decide +kernel
theorem dX11_laysMoves_32 : decode cX11_laysMoves 32 = .ok (.iconst (-1), 1) := by decide +kernel
theorem dX11_laysMoves_33 : decode cX11_laysMoves 33 = .ok (.iastore, 1) := by decide +kernel
theorem dX11_laysMoves_34 : decode cX11_laysMoves 34 = .ok (.iload 4, 2) := by decide +kernel
theorem dX11_laysMoves_36 : decode cX11_laysMoves 36 = .ok (.iload_n 2, 1) := by decide +kernel
theorem dX11_laysMoves_37 : decode cX11_laysMoves 37 = .ok (.invokestatic 133, 3) := by decide +kernel
theorem dX11_laysMoves_40 : decode cX11_laysMoves 40 = .ok (.ifCond .ne 6, 3) := by decide +kernel
theorem dX11_laysMoves_43 : decode cX11_laysMoves 43 = .ok (.goto 15, 3) := by decide +kernel
theorem dX11_laysMoves_46 : decode cX11_laysMoves 46 = .ok (.aload_n 0, 1) := by decide +kernel
theorem dX11_laysMoves_47 : decode cX11_laysMoves 47 = .ok (.getfield 107, 3) := by decide +kernel
theorem dX11_laysMoves_50 : decode cX11_laysMoves 50 = .ok (.iload_n 3, 1) := by decide +kernel
theorem dX11_laysMoves_51 : decode cX11_laysMoves 51 = .ok (.iload 4, 2) := by decide +kernel
theorem dX11_laysMoves_53 : decode cX11_laysMoves 53 = .ok (.iastore, 1) := by decide +kernel
theorem dX11_laysMoves_54 : decode cX11_laysMoves 54 = .ok (.iload_n 3, 1) := by decide +kernel
theorem dX11_laysMoves_55 : decode cX11_laysMoves 55 = .ok (.iconst 1, 1) := by decide +kernel
theorem dX11_laysMoves_56 : decode cX11_laysMoves 56 = .ok (.iadd, 1) := by decide +kernel
theorem dX11_laysMoves_57 : decode cX11_laysMoves 57 = .ok (.istore_n 3, 1) := by decide +kernel
theorem dX11_laysMoves_58 : decode cX11_laysMoves 58 = .ok (.iinc 4 1, 3) := by decide +kernel
theorem dX11_laysMoves_61 : decode cX11_laysMoves 61 = .ok (.goto (-56), 3) := by decide +kernel
theorem dX11_laysMoves_64 : decode cX11_laysMoves 64 = .ok (.iconst 0, 1) := by decide +kernel
theorem dX11_laysMoves_65 : decode cX11_laysMoves 65 = .ok (.istore 4, 2) := by decide +kernel
theorem dX11_laysMoves_67 : decode cX11_laysMoves 67 = .ok (.iload 4, 2) := by decide +kernel
theorem dX11_laysMoves_69 : decode cX11_laysMoves 69 = .ok (.iload_n 3, 1) := by decide +kernel
theorem dX11_laysMoves_70 : decode cX11_laysMoves 70 = .ok (.if_icmp .ge 101, 3) := by decide +kernel
theorem dX11_laysMoves_73 : decode cX11_laysMoves 73 = .ok (.iconst 0, 1) := by decide +kernel
theorem dX11_laysMoves_74 : decode cX11_laysMoves 74 = .ok (.istore 5, 2) := by decide +kernel
theorem dX11_laysMoves_76 : decode cX11_laysMoves 76 = .ok (.iload 5, 2) := by decide +kernel
theorem dX11_laysMoves_78 : decode cX11_laysMoves 78 = .ok (.iload_n 1, 1) := by decide +kernel
theorem dX11_laysMoves_79 : decode cX11_laysMoves 79 = .ok (.if_icmp .ge 86, 3) := by decide +kernel
theorem dX11_laysMoves_82 : decode cX11_laysMoves 82 = .ok (.aload_n 0, 1) := by decide +kernel
theorem dX11_laysMoves_83 : decode cX11_laysMoves 83 = .ok (.getfield 107, 3) := by decide +kernel
theorem dX11_laysMoves_86 : decode cX11_laysMoves 86 = .ok (.iload 4, 2) := by decide +kernel
theorem dX11_laysMoves_88 : decode cX11_laysMoves 88 = .ok (.iaload, 1) := by decide +kernel
theorem dX11_laysMoves_89 : decode cX11_laysMoves 89 = .ok (.iconst 1, 1) := by decide +kernel
theorem dX11_laysMoves_90 : decode cX11_laysMoves 90 = .ok (.iload 5, 2) := by decide +kernel
theorem dX11_laysMoves_92 : decode cX11_laysMoves 92 = .ok (.ishl, 1) := by decide +kernel
theorem dX11_laysMoves_93 : decode cX11_laysMoves 93 = .ok (.ixor, 1) := by decide +kernel
theorem dX11_laysMoves_94 : decode cX11_laysMoves 94 = .ok (.istore 6, 2) := by decide +kernel
theorem dX11_laysMoves_96 : decode cX11_laysMoves 96 = .ok (.aload_n 0, 1) := by decide +kernel
theorem dX11_laysMoves_97 : decode cX11_laysMoves 97 = .ok (.aload_n 0, 1) := by decide +kernel
theorem dX11_laysMoves_98 : decode cX11_laysMoves 98 = .ok (.getfield 107, 3) := by decide +kernel
theorem dX11_laysMoves_101 : decode cX11_laysMoves 101 = .ok (.iload 4, 2) := by decide +kernel
theorem dX11_laysMoves_103 : decode cX11_laysMoves 103 = .ok (.iaload, 1) := by decide +kernel
theorem dX11_laysMoves_104 : decode cX11_laysMoves 104 = .ok (.iload 5, 2) := by decide +kernel
theorem dX11_laysMoves_106 : decode cX11_laysMoves 106 = .ok (.invokevirtual 391, 3) := by decide +kernel
theorem dX11_laysMoves_109 : decode cX11_laysMoves 109 = .ok (.ifCond .eq 50, 3) := by decide +kernel
theorem dX11_laysMoves_112 : decode cX11_laysMoves 112 = .ok (.aload_n 0, 1) := by decide +kernel
theorem dX11_laysMoves_113 : decode cX11_laysMoves 113 = .ok (.getfield 104, 3) := by decide +kernel
theorem dX11_laysMoves_116 : decode cX11_laysMoves 116 = .ok (.iload 6, 2) := by decide +kernel
theorem dX11_laysMoves_118 : decode cX11_laysMoves 118 = .ok (.iaload, 1) := by decide +kernel
theorem dX11_laysMoves_119 : decode cX11_laysMoves 119 = .ok (.iconst (-1), 1) := by decide +kernel
theorem dX11_laysMoves_120 : decode cX11_laysMoves 120 = .ok (.if_icmp .eq 6, 3) := by decide +kernel
theorem dX11_laysMoves_123 : decode cX11_laysMoves 123 = .ok (.goto 36, 3) := by decide +kernel
theorem dX11_laysMoves_126 : decode cX11_laysMoves 126 = .ok (.aload_n 0, 1) := by decide +kernel
theorem dX11_laysMoves_127 : decode cX11_laysMoves 127 = .ok (.getfield 104, 3) := by decide +kernel
theorem dX11_laysMoves_130 : decode cX11_laysMoves 130 = .ok (.iload 6, 2) := by decide +kernel
theorem dX11_laysMoves_132 : decode cX11_laysMoves 132 = .ok (.aload_n 0, 1) := by decide +kernel
theorem dX11_laysMoves_133 : decode cX11_laysMoves 133 = .ok (.getfield 104, 3) := by decide +kernel
theorem dX11_laysMoves_136 : decode cX11_laysMoves 136 = .ok (.aload_n 0, 1) := by decide +kernel
theorem dX11_laysMoves_137 : decode cX11_laysMoves 137 = .ok (.getfield 107, 3) := by decide +kernel
theorem dX11_laysMoves_140 : decode cX11_laysMoves 140 = .ok (.iload 4, 2) := by decide +kernel
theorem dX11_laysMoves_142 : decode cX11_laysMoves 142 = .ok (.iaload, 1) := by decide +kernel
theorem dX11_laysMoves_143 : decode cX11_laysMoves 143 = .ok (.iaload, 1) := by decide +kernel
theorem dX11_laysMoves_144 : decode cX11_laysMoves 144 = .ok (.iconst 1, 1) := by decide +kernel
theorem dX11_laysMoves_145 : decode cX11_laysMoves 145 = .ok (.iadd, 1) := by decide +kernel
theorem dX11_laysMoves_146 : decode cX11_laysMoves 146 = .ok (.iastore, 1) := by decide +kernel
theorem dX11_laysMoves_147 : decode cX11_laysMoves 147 = .ok (.aload_n 0, 1) := by decide +kernel
theorem dX11_laysMoves_148 : decode cX11_laysMoves 148 = .ok (.getfield 107, 3) := by decide +kernel
theorem dX11_laysMoves_151 : decode cX11_laysMoves 151 = .ok (.iload_n 3, 1) := by decide +kernel
theorem dX11_laysMoves_152 : decode cX11_laysMoves 152 = .ok (.iload 6, 2) := by decide +kernel
theorem dX11_laysMoves_154 : decode cX11_laysMoves 154 = .ok (.iastore, 1) := by decide +kernel
theorem dX11_laysMoves_155 : decode cX11_laysMoves 155 = .ok (.iload_n 3, 1) := by decide +kernel
theorem dX11_laysMoves_156 : decode cX11_laysMoves 156 = .ok (.iconst 1, 1) := by decide +kernel
theorem dX11_laysMoves_157 : decode cX11_laysMoves 157 = .ok (.iadd, 1) := by decide +kernel
theorem dX11_laysMoves_158 : decode cX11_laysMoves 158 = .ok (.istore_n 3, 1) := by decide +kernel
theorem dX11_laysMoves_159 : decode cX11_laysMoves 159 = .ok (.iinc 5 1, 3) := by decide +kernel
theorem dX11_laysMoves_162 : decode cX11_laysMoves 162 = .ok (.goto (-86), 3) := by decide +kernel
theorem dX11_laysMoves_165 : decode cX11_laysMoves 165 = .ok (.iinc 4 1, 3) := by decide +kernel
theorem dX11_laysMoves_168 : decode cX11_laysMoves 168 = .ok (.goto (-101), 3) := by decide +kernel
theorem dX11_laysMoves_171 : decode cX11_laysMoves 171 = .ok (.return_, 1) := by decide +kernel
theorem dX11_secret_0 : decode cX11_secret 0 = .ok (.iload_n 1, 1) := by decide +kernel
theorem dX11_secret_1 : decode cX11_secret 1 = .ok (.iconst 2, 1) := by decide +kernel
theorem dX11_secret_2 : decode cX11_secret 2 = .ok (.bipush 8, 2) := by decide +kernel
theorem dX11_secret_4 : decode cX11_secret 4 = .ok (.invokestatic 125, 3) := by decide +kernel
theorem dX11_secret_7 : decode cX11_secret 7 = .ok (.ifCond .eq 33, 3) := by decide +kernel
theorem dX11_secret_10 : decode cX11_secret 10 = .ok (.iload_n 2, 1) := by decide +kernel
theorem dX11_secret_11 : decode cX11_secret 11 = .ok (.iconst 0, 1) := by decide +kernel
theorem dX11_secret_12 : decode cX11_secret 12 = .ok (.iload_n 1, 1) := by decide +kernel
theorem dX11_secret_13 : decode cX11_secret 13 = .ok (.iconst 1, 1) := by decide +kernel
theorem dX11_secret_14 : decode cX11_secret 14 = .ok (.isub, 1) := by decide +kernel
theorem dX11_secret_15 : decode cX11_secret 15 = .ok (.invokestatic 125, 3) := by decide +kernel
theorem dX11_secret_18 : decode cX11_secret 18 = .ok (.ifCond .eq 22, 3) := by decide +kernel
theorem dX11_secret_21 : decode cX11_secret 21 = .ok (.iload_n 3, 1) := by decide +kernel
theorem dX11_secret_22 : decode cX11_secret 22 = .ok (.iconst 0, 1) := by decide +kernel
theorem dX11_secret_23 : decode cX11_secret 23 = .ok (.iconst 1, 1) := by decide +kernel
theorem dX11_secret_24 : decode cX11_secret 24 = .ok (.invokestatic 125, 3) := by decide +kernel
theorem dX11_secret_27 : decode cX11_secret 27 = .ok (.ifCond .eq 13, 3) := by decide +kernel
theorem dX11_secret_30 : decode cX11_secret 30 = .ok (.iconst 2, 1) := by decide +kernel
theorem dX11_secret_31 : decode cX11_secret 31 = .ok (.iload_n 1, 1) := by decide +kernel
theorem dX11_secret_32 : decode cX11_secret 32 = .ok (.imul, 1) := by decide +kernel
theorem dX11_secret_33 : decode cX11_secret 33 = .ok (.aload_n 0, 1) := by decide +kernel
theorem dX11_secret_34 : decode cX11_secret 34 = .ok (.getfield 158, 3) := by decide +kernel
theorem dX11_secret_37 : decode cX11_secret 37 = .ok (.if_icmp .le 5, 3) := by decide +kernel
theorem dX11_secret_40 : decode cX11_secret 40 = .ok (.iconst (-1), 1) := by decide +kernel
theorem dX11_secret_41 : decode cX11_secret 41 = .ok (.ireturn, 1) := by decide +kernel
theorem dX11_secret_42 : decode cX11_secret 42 = .ok (.aload_n 0, 1) := by decide +kernel
theorem dX11_secret_43 : decode cX11_secret 43 = .ok (.iconst 0, 1) := by decide +kernel
theorem dX11_secret_44 : decode cX11_secret 44 = .ok (.putfield 158, 3) := by decide +kernel
theorem dX11_secret_47 : decode cX11_secret 47 = .ok (.iconst 0, 1) := by decide +kernel
theorem dX11_secret_48 : decode cX11_secret 48 = .ok (.istore 4, 2) := by decide +kernel
theorem dX11_secret_50 : decode cX11_secret 50 = .ok (.iload 4, 2) := by decide +kernel
theorem dX11_secret_52 : decode cX11_secret 52 = .ok (.iload_n 1, 1) := by decide +kernel
theorem dX11_secret_53 : decode cX11_secret 53 = .ok (.if_icmp .ge 50, 3) := by decide +kernel
theorem dX11_secret_56 : decode cX11_secret 56 = .ok (.aload_n 0, 1) := by decide +kernel
theorem dX11_secret_57 : decode cX11_secret 57 = .ok (.iconst 2, 1) := by decide +kernel
theorem dX11_secret_58 : decode cX11_secret 58 = .ok (.iload 4, 2) := by decide +kernel
theorem dX11_secret_60 : decode cX11_secret 60 = .ok (.imul, 1) := by decide +kernel
theorem dX11_secret_61 : decode cX11_secret 61 = .ok (.invokevirtual 388, 3) := by decide +kernel
theorem dX11_secret_64 : decode cX11_secret 64 = .ok (.aload_n 0, 1) := by decide +kernel
theorem dX11_secret_65 : decode cX11_secret 65 = .ok (.iconst 2, 1) := by decide +kernel
theorem dX11_secret_66 : decode cX11_secret 66 = .ok (.iload 4, 2) := by decide +kernel
theorem dX11_secret_68 : decode cX11_secret 68 = .ok (.imul, 1) := by decide +kernel
theorem dX11_secret_69 : decode cX11_secret 69 = .ok (.iconst 1, 1) := by decide +kernel
theorem dX11_secret_70 : decode cX11_secret 70 = .ok (.iadd, 1) := by decide +kernel
theorem dX11_secret_71 : decode cX11_secret 71 = .ok (.invokevirtual 388, 3) := by decide +kernel
theorem dX11_secret_74 : decode cX11_secret 74 = .ok (.ior, 1) := by decide +kernel
theorem dX11_secret_75 : decode cX11_secret 75 = .ok (.istore 5, 2) := by decide +kernel
theorem dX11_secret_77 : decode cX11_secret 77 = .ok (.iload 5, 2) := by decide +kernel
theorem dX11_secret_79 : decode cX11_secret 79 = .ok (.iload_n 1, 1) := by decide +kernel
theorem dX11_secret_80 : decode cX11_secret 80 = .ok (.ishr, 1) := by decide +kernel
theorem dX11_secret_81 : decode cX11_secret 81 = .ok (.ifCond .ne 13, 3) := by decide +kernel
theorem dX11_secret_84 : decode cX11_secret 84 = .ok (.iload 5, 2) := by decide +kernel
theorem dX11_secret_86 : decode cX11_secret 86 = .ok (.iload 4, 2) := by decide +kernel
theorem dX11_secret_88 : decode cX11_secret 88 = .ok (.invokestatic 133, 3) := by decide +kernel
theorem dX11_secret_91 : decode cX11_secret 91 = .ok (.ifCond .eq 6, 3) := by decide +kernel
theorem dX11_secret_94 : decode cX11_secret 94 = .ok (.bipush (-3), 2) := by decide +kernel
theorem dX11_secret_96 : decode cX11_secret 96 = .ok (.ireturn, 1) := by decide +kernel
theorem dX11_secret_97 : decode cX11_secret 97 = .ok (.iinc 4 1, 3) := by decide +kernel
theorem dX11_secret_100 : decode cX11_secret 100 = .ok (.goto (-50), 3) := by decide +kernel
theorem dX11_secret_103 : decode cX11_secret 103 = .ok (.aload_n 0, 1) := by decide +kernel
theorem dX11_secret_104 : decode cX11_secret 104 = .ok (.iload_n 1, 1) := by decide +kernel
theorem dX11_secret_105 : decode cX11_secret 105 = .ok (.iload_n 2, 1) := by decide +kernel
theorem dX11_secret_106 : decode cX11_secret 106 = .ok (.invokevirtual 394, 3) := by decide +kernel
theorem dX11_secret_109 : decode cX11_secret 109 = .ok (.aload_n 0, 1) := by decide +kernel
theorem dX11_secret_110 : decode cX11_secret 110 = .ok (.getfield 104, 3) := by decide +kernel
theorem dX11_secret_113 : decode cX11_secret 113 = .ok (.iconst 0, 1) := by decide +kernel
theorem dX11_secret_114 : decode cX11_secret 114 = .ok (.iaload, 1) := by decide +kernel
theorem dX11_secret_115 : decode cX11_secret 115 = .ok (.iconst (-1), 1) := by decide +kernel
theorem dX11_secret_116 : decode cX11_secret 116 = .ok (.if_icmp .ne 6, 3) := by decide +kernel
theorem dX11_secret_119 : decode cX11_secret 119 = .ok (.bipush (-2), 2) := by decide +kernel
theorem dX11_secret_121 : decode cX11_secret 121 = .ok (.ireturn, 1) := by decide +kernel
theorem dX11_secret_122 : decode cX11_secret 122 = .ok (.iload_n 3, 1) := by decide +kernel
theorem dX11_secret_123 : decode cX11_secret 123 = .ok (.ifCond .ne 10, 3) := by decide +kernel
theorem dX11_secret_126 : decode cX11_secret 126 = .ok (.aload_n 0, 1) := by decide +kernel
theorem dX11_secret_127 : decode cX11_secret 127 = .ok (.getfield 104, 3) := by decide +kernel
theorem dX11_secret_130 : decode cX11_secret 130 = .ok (.iconst 0, 1) := by decide +kernel
theorem dX11_secret_131 : decode cX11_secret 131 = .ok (.iaload, 1) := by decide +kernel
theorem dX11_secret_132 : decode cX11_secret 132 = .ok (.ireturn, 1) := by decide +kernel
theorem dX11_secret_133 : decode cX11_secret 133 = .ok (.iconst 0, 1) := by decide +kernel
theorem dX11_secret_134 : decode cX11_secret 134 = .ok (.istore 4, 2) := by decide +kernel
theorem dX11_secret_136 : decode cX11_secret 136 = .ok (.aload_n 0, 1) := by decide +kernel
theorem dX11_secret_137 : decode cX11_secret 137 = .ok (.iconst 0, 1) := by decide +kernel
theorem dX11_secret_138 : decode cX11_secret 138 = .ok (.iload 4, 2) := by decide +kernel
theorem dX11_secret_140 : decode cX11_secret 140 = .ok (.invokevirtual 391, 3) := by decide +kernel
theorem dX11_secret_143 : decode cX11_secret 143 = .ok (.ifCond .eq 23, 3) := by decide +kernel
theorem dX11_secret_146 : decode cX11_secret 146 = .ok (.aload_n 0, 1) := by decide +kernel
theorem dX11_secret_147 : decode cX11_secret 147 = .ok (.getfield 104, 3) := by decide +kernel
theorem dX11_secret_150 : decode cX11_secret 150 = .ok (.iconst 1, 1) := by decide +kernel
theorem dX11_secret_151 : decode cX11_secret 151 = .ok (.iload 4, 2) := by decide +kernel
theorem dX11_secret_153 : decode cX11_secret 153 = .ok (.ishl, 1) := by decide +kernel
theorem dX11_secret_154 : decode cX11_secret 154 = .ok (.iaload, 1) := by decide +kernel
theorem dX11_secret_155 : decode cX11_secret 155 = .ok (.aload_n 0, 1) := by decide +kernel
theorem dX11_secret_156 : decode cX11_secret 156 = .ok (.getfield 104, 3) := by decide +kernel
theorem dX11_secret_159 : decode cX11_secret 159 = .ok (.iconst 0, 1) := by decide +kernel
theorem dX11_secret_160 : decode cX11_secret 160 = .ok (.iaload, 1) := by decide +kernel
theorem dX11_secret_161 : decode cX11_secret 161 = .ok (.iconst 1, 1) := by decide +kernel
theorem dX11_secret_162 : decode cX11_secret 162 = .ok (.isub, 1) := by decide +kernel
theorem dX11_secret_163 : decode cX11_secret 163 = .ok (.if_icmp .eq 12, 3) := by decide +kernel
theorem dX11_secret_166 : decode cX11_secret 166 = .ok (.iload 4, 2) := by decide +kernel
theorem dX11_secret_168 : decode cX11_secret 168 = .ok (.iconst 1, 1) := by decide +kernel
theorem dX11_secret_169 : decode cX11_secret 169 = .ok (.iadd, 1) := by decide +kernel
theorem dX11_secret_170 : decode cX11_secret 170 = .ok (.istore 4, 2) := by decide +kernel
theorem dX11_secret_172 : decode cX11_secret 172 = .ok (.goto (-36), 3) := by decide +kernel
theorem dX11_secret_175 : decode cX11_secret 175 = .ok (.iload 4, 2) := by decide +kernel
theorem dX11_secret_177 : decode cX11_secret 177 = .ok (.ireturn, 1) := by decide +kernel
theorem dX11_isLess_0 : decode cX11_isLess 0 = .ok (.aload_n 0, 1) := by decide +kernel
theorem dX11_isLess_1 : decode cX11_isLess 1 = .ok (.iconst 2, 1) := by decide +kernel
theorem dX11_isLess_2 : decode cX11_isLess 2 = .ok (.iload_n 1, 1) := by decide +kernel
theorem dX11_isLess_3 : decode cX11_isLess 3 = .ok (.imul, 1) := by decide +kernel
theorem dX11_isLess_4 : decode cX11_isLess 4 = .ok (.invokevirtual 388, 3) := by decide +kernel
theorem dX11_isLess_7 : decode cX11_isLess 7 = .ok (.aload_n 0, 1) := by decide +kernel
theorem dX11_isLess_8 : decode cX11_isLess 8 = .ok (.iconst 2, 1) := by decide +kernel
theorem dX11_isLess_9 : decode cX11_isLess 9 = .ok (.iload_n 2, 1) := by decide +kernel
theorem dX11_isLess_10 : decode cX11_isLess 10 = .ok (.imul, 1) := by decide +kernel
theorem dX11_isLess_11 : decode cX11_isLess 11 = .ok (.invokevirtual 388, 3) := by decide +kernel
theorem dX11_isLess_14 : decode cX11_isLess 14 = .ok (.if_icmp .ge 28, 3) := by decide +kernel
theorem dX11_isLess_17 : decode cX11_isLess 17 = .ok (.aload_n 0, 1) := by decide +kernel
theorem dX11_isLess_18 : decode cX11_isLess 18 = .ok (.iconst 2, 1) := by decide +kernel
theorem dX11_isLess_19 : decode cX11_isLess 19 = .ok (.iload_n 1, 1) := by decide +kernel
theorem dX11_isLess_20 : decode cX11_isLess 20 = .ok (.imul, 1) := by decide +kernel
theorem dX11_isLess_21 : decode cX11_isLess 21 = .ok (.iconst 1, 1) := by decide +kernel
theorem dX11_isLess_22 : decode cX11_isLess 22 = .ok (.iadd, 1) := by decide +kernel
theorem dX11_isLess_23 : decode cX11_isLess 23 = .ok (.invokevirtual 388, 3) := by decide +kernel
theorem dX11_isLess_26 : decode cX11_isLess 26 = .ok (.aload_n 0, 1) := by decide +kernel
theorem dX11_isLess_27 : decode cX11_isLess 27 = .ok (.iconst 2, 1) := by decide +kernel
theorem dX11_isLess_28 : decode cX11_isLess 28 = .ok (.iload_n 2, 1) := by decide +kernel
theorem dX11_isLess_29 : decode cX11_isLess 29 = .ok (.imul, 1) := by decide +kernel
theorem dX11_isLess_30 : decode cX11_isLess 30 = .ok (.iconst 1, 1) := by decide +kernel
theorem dX11_isLess_31 : decode cX11_isLess 31 = .ok (.iadd, 1) := by decide +kernel
theorem dX11_isLess_32 : decode cX11_isLess 32 = .ok (.invokevirtual 388, 3) := by decide +kernel
theorem dX11_isLess_35 : decode cX11_isLess 35 = .ok (.if_icmp .ge 7, 3) := by decide +kernel
theorem dX11_isLess_38 : decode cX11_isLess 38 = .ok (.iconst 1, 1) := by decide +kernel
theorem dX11_isLess_39 : decode cX11_isLess 39 = .ok (.goto 4, 3) := by decide +kernel
theorem dX11_isLess_42 : decode cX11_isLess 42 = .ok (.iconst 0, 1) := by decide +kernel
theorem dX11_isLess_43 : decode cX11_isLess 43 = .ok (.ireturn, 1) := by decide +kernel
theorem dX11_nest_0 : decode cX11_nest 0 = .ok (.iload_n 1, 1) := by decide +kernel
theorem dX11_nest_1 : decode cX11_nest 1 = .ok (.iconst 1, 1) := by decide +kernel
theorem dX11_nest_2 : decode cX11_nest 2 = .ok (.bipush 12, 2) := by decide +kernel
theorem dX11_nest_4 : decode cX11_nest 4 = .ok (.invokestatic 125, 3) := by decide +kernel
theorem dX11_nest_7 : decode cX11_nest 7 = .ok (.ifCond .eq 13, 3) := by decide +kernel
theorem dX11_nest_10 : decode cX11_nest 10 = .ok (.iconst 2, 1) := by decide +kernel
theorem dX11_nest_11 : decode cX11_nest 11 = .ok (.iload_n 1, 1) := by decide +kernel
theorem dX11_nest_12 : decode cX11_nest 12 = .ok (.imul, 1) := by decide +kernel
theorem dX11_nest_13 : decode cX11_nest 13 = .ok (.aload_n 0, 1) := by decide +kernel
theorem dX11_nest_14 : decode cX11_nest 14 = .ok (.getfield 158, 3) := by decide +kernel
theorem dX11_nest_17 : decode cX11_nest 17 = .ok (.if_icmp .le 5, 3) := by decide +kernel
theorem dX11_nest_20 : decode cX11_nest 20 = .ok (.iconst (-1), 1) := by decide +kernel
theorem dX11_nest_21 : decode cX11_nest 21 = .ok (.ireturn, 1) := by decide +kernel
theorem dX11_nest_22 : decode cX11_nest 22 = .ok (.aload_n 0, 1) := by decide +kernel
theorem dX11_nest_23 : decode cX11_nest 23 = .ok (.iconst 0, 1) := by decide +kernel
theorem dX11_nest_24 : decode cX11_nest 24 = .ok (.putfield 158, 3) := by decide +kernel
theorem dX11_nest_27 : decode cX11_nest 27 = .ok (.iconst 1, 1) := by decide +kernel
theorem dX11_nest_28 : decode cX11_nest 28 = .ok (.istore_n 2, 1) := by decide +kernel
theorem dX11_nest_29 : decode cX11_nest 29 = .ok (.iconst 0, 1) := by decide +kernel
theorem dX11_nest_30 : decode cX11_nest 30 = .ok (.istore_n 3, 1) := by decide +kernel
theorem dX11_nest_31 : decode cX11_nest 31 = .ok (.iload_n 3, 1) := by decide +kernel
theorem dX11_nest_32 : decode cX11_nest 32 = .ok (.iload_n 1, 1) := by decide +kernel
theorem dX11_nest_33 : decode cX11_nest 33 = .ok (.if_icmp .ge 16, 3) := by decide +kernel
theorem dX11_nest_36 : decode cX11_nest 36 = .ok (.aload_n 0, 1) := by decide +kernel
theorem dX11_nest_37 : decode cX11_nest 37 = .ok (.getfield 110, 3) := by decide +kernel
theorem dX11_nest_40 : decode cX11_nest 40 = .ok (.iload_n 3, 1) := by decide +kernel
theorem dX11_nest_41 : decode cX11_nest 41 = .ok (.iconst 1, 1) := by decide +kernel
theorem dX11_nest_42 : decode cX11_nest 42 = .ok (.iastore, 1) := by decide +kernel
theorem dX11_nest_43 : decode cX11_nest 43 = .ok (.iinc 3 1, 3) := by decide +kernel
theorem dX11_nest_46 : decode cX11_nest 46 = .ok (.goto (-15), 3) := by decide +kernel
theorem dX11_nest_49 : decode cX11_nest 49 = .ok (.iconst 0, 1) := by decide +kernel
theorem dX11_nest_50 : decode cX11_nest 50 = .ok (.istore_n 3, 1) := by decide +kernel
theorem dX11_nest_51 : decode cX11_nest 51 = .ok (.iload_n 3, 1) := by decide +kernel
theorem dX11_nest_52 : decode cX11_nest 52 = .ok (.iload_n 1, 1) := by decide +kernel
theorem dX11_nest_53 : decode cX11_nest 53 = .ok (.if_icmp .ge 87, 3) := by decide +kernel
theorem dX11_nest_56 : decode cX11_nest 56 = .ok (.iconst 0, 1) := by decide +kernel
theorem dX11_nest_57 : decode cX11_nest 57 = .ok (.istore 4, 2) := by decide +kernel
theorem dX11_nest_59 : decode cX11_nest 59 = .ok (.iload 4, 2) := by decide +kernel
theorem dX11_nest_61 : decode cX11_nest 61 = .ok (.iload_n 1, 1) := by decide +kernel
theorem dX11_nest_62 : decode cX11_nest 62 = .ok (.iload_n 1, 1) := by decide +kernel
theorem dX11_nest_63 : decode cX11_nest 63 = .ok (.imul, 1) := by decide +kernel
theorem dX11_nest_64 : decode cX11_nest 64 = .ok (.if_icmp .ge 70, 3) := by decide +kernel
theorem dX11_nest_67 : decode cX11_nest 67 = .ok (.iload 4, 2) := by decide +kernel
theorem dX11_nest_69 : decode cX11_nest 69 = .ok (.iload_n 1, 1) := by decide +kernel
theorem dX11_nest_70 : decode cX11_nest 70 = .ok (.idiv, 1) := by decide +kernel
theorem dX11_nest_71 : decode cX11_nest 71 = .ok (.istore 5, 2) := by decide +kernel
theorem dX11_nest_73 : decode cX11_nest 73 = .ok (.iload 4, 2) := by decide +kernel
theorem dX11_nest_75 : decode cX11_nest 75 = .ok (.iload_n 1, 1) := by decide +kernel
theorem dX11_nest_76 : decode cX11_nest 76 = .ok (.irem, 1) := by decide +kernel
theorem dX11_nest_77 : decode cX11_nest 77 = .ok (.istore 6, 2) := by decide +kernel
theorem dX11_nest_79 : decode cX11_nest 79 = .ok (.aload_n 0, 1) := by decide +kernel
theorem dX11_nest_80 : decode cX11_nest 80 = .ok (.iload 6, 2) := by decide +kernel
theorem dX11_nest_82 : decode cX11_nest 82 = .ok (.iload 5, 2) := by decide +kernel
theorem dX11_nest_84 : decode cX11_nest 84 = .ok (.invokevirtual 397, 3) := by decide +kernel
theorem dX11_nest_87 : decode cX11_nest 87 = .ok (.ifCond .eq 29, 3) := by decide +kernel
theorem dX11_nest_90 : decode cX11_nest 90 = .ok (.aload_n 0, 1) := by decide +kernel
theorem dX11_nest_91 : decode cX11_nest 91 = .ok (.getfield 110, 3) := by decide +kernel
theorem dX11_nest_94 : decode cX11_nest 94 = .ok (.iload 5, 2) := by decide +kernel
theorem dX11_nest_96 : decode cX11_nest 96 = .ok (.aload_n 0, 1) := by decide +kernel
theorem dX11_nest_97 : decode cX11_nest 97 = .ok (.getfield 110, 3) := by decide +kernel
theorem dX11_nest_100 : decode cX11_nest 100 = .ok (.iload 5, 2) := by decide +kernel
theorem dX11_nest_102 : decode cX11_nest 102 = .ok (.iaload, 1) := by decide +kernel
theorem dX11_nest_103 : decode cX11_nest 103 = .ok (.aload_n 0, 1) := by decide +kernel
theorem dX11_nest_104 : decode cX11_nest 104 = .ok (.getfield 110, 3) := by decide +kernel
theorem dX11_nest_107 : decode cX11_nest 107 = .ok (.iload 6, 2) := by decide +kernel
theorem dX11_nest_109 : decode cX11_nest 109 = .ok (.iaload, 1) := by decide +kernel
theorem dX11_nest_110 : decode cX11_nest 110 = .ok (.iconst 1, 1) := by decide +kernel
theorem dX11_nest_111 : decode cX11_nest 111 = .ok (.iadd, 1) := by decide +kernel
theorem dX11_nest_112 : decode cX11_nest 112 = .ok (.invokestatic 373, 3) := by decide +kernel
theorem dX11_nest_115 : decode cX11_nest 115 = .ok (.iastore, 1) := by decide +kernel
theorem dX11_nest_116 : decode cX11_nest 116 = .ok (.iload_n 2, 1) := by decide +kernel
theorem dX11_nest_117 : decode cX11_nest 117 = .ok (.aload_n 0, 1) := by decide +kernel
theorem dX11_nest_118 : decode cX11_nest 118 = .ok (.getfield 110, 3) := by decide +kernel
theorem dX11_nest_121 : decode cX11_nest 121 = .ok (.iload 5, 2) := by decide +kernel
theorem dX11_nest_123 : decode cX11_nest 123 = .ok (.iaload, 1) := by decide +kernel
theorem dX11_nest_124 : decode cX11_nest 124 = .ok (.invokestatic 373, 3) := by decide +kernel
theorem dX11_nest_127 : decode cX11_nest 127 = .ok (.istore_n 2, 1) := by decide +kernel
theorem dX11_nest_128 : decode cX11_nest 128 = .ok (.iinc 4 1, 3) := by decide +kernel
theorem dX11_nest_131 : decode cX11_nest 131 = .ok (.goto (-72), 3) := by decide +kernel
theorem dX11_nest_134 : decode cX11_nest 134 = .ok (.iinc 3 1, 3) := by decide +kernel
theorem dX11_nest_137 : decode cX11_nest 137 = .ok (.goto (-86), 3) := by decide +kernel
theorem dX11_nest_140 : decode cX11_nest 140 = .ok (.iload_n 2, 1) := by decide +kernel
theorem dX11_nest_141 : decode cX11_nest 141 = .ok (.ireturn, 1) := by decide +kernel
theorem dX11_dusted_0 : decode cX11_dusted 0 = .ok (.iload_n 1, 1) := by decide +kernel
theorem dX11_dusted_1 : decode cX11_dusted 1 = .ok (.iconst 1, 1) := by decide +kernel
theorem dX11_dusted_2 : decode cX11_dusted 2 = .ok (.bipush 20, 2) := by decide +kernel
theorem dX11_dusted_4 : decode cX11_dusted 4 = .ok (.invokestatic 125, 3) := by decide +kernel
theorem dX11_dusted_7 : decode cX11_dusted 7 = .ok (.ifCond .eq 11, 3) := by decide +kernel
theorem dX11_dusted_10 : decode cX11_dusted 10 = .ok (.iload_n 1, 1) := by decide +kernel
theorem dX11_dusted_11 : decode cX11_dusted 11 = .ok (.aload_n 0, 1) := by decide +kernel
theorem dX11_dusted_12 : decode cX11_dusted 12 = .ok (.getfield 158, 3) := by decide +kernel
theorem dX11_dusted_15 : decode cX11_dusted 15 = .ok (.if_icmp .le 5, 3) := by decide +kernel
theorem dX11_dusted_18 : decode cX11_dusted 18 = .ok (.iconst (-1), 1) := by decide +kernel
theorem dX11_dusted_19 : decode cX11_dusted 19 = .ok (.ireturn, 1) := by decide +kernel
theorem dX11_dusted_20 : decode cX11_dusted 20 = .ok (.aload_n 0, 1) := by decide +kernel
theorem dX11_dusted_21 : decode cX11_dusted 21 = .ok (.iconst 0, 1) := by decide +kernel
theorem dX11_dusted_22 : decode cX11_dusted 22 = .ok (.putfield 158, 3) := by decide +kernel
theorem dX11_dusted_25 : decode cX11_dusted 25 = .ok (.iconst 0, 1) := by decide +kernel
theorem dX11_dusted_26 : decode cX11_dusted 26 = .ok (.istore_n 2, 1) := by decide +kernel
theorem dX11_dusted_27 : decode cX11_dusted 27 = .ok (.iconst 0, 1) := by decide +kernel
theorem dX11_dusted_28 : decode cX11_dusted 28 = .ok (.istore_n 3, 1) := by decide +kernel
theorem dX11_dusted_29 : decode cX11_dusted 29 = .ok (.iload_n 3, 1) := by decide +kernel
theorem dX11_dusted_30 : decode cX11_dusted 30 = .ok (.iload_n 1, 1) := by decide +kernel
theorem dX11_dusted_31 : decode cX11_dusted 31 = .ok (.if_icmp .ge 80, 3) := by decide +kernel
theorem dX11_dusted_34 : decode cX11_dusted 34 = .ok (.aload_n 0, 1) := by decide +kernel
theorem dX11_dusted_35 : decode cX11_dusted 35 = .ok (.getfield 110, 3) := by decide +kernel
theorem dX11_dusted_38 : decode cX11_dusted 38 = .ok (.iload_n 3, 1) := by decide +kernel
theorem dX11_dusted_39 : decode cX11_dusted 39 = .ok (.iconst 1, 1) := by decide +kernel
theorem dX11_dusted_40 : decode cX11_dusted 40 = .ok (.iastore, 1) := by decide +kernel
theorem dX11_dusted_41 : decode cX11_dusted 41 = .ok (.iconst 0, 1) := by decide +kernel
theorem dX11_dusted_42 : decode cX11_dusted 42 = .ok (.istore 4, 2) := by decide +kernel
theorem dX11_dusted_44 : decode cX11_dusted 44 = .ok (.iload 4, 2) := by decide +kernel
theorem dX11_dusted_46 : decode cX11_dusted 46 = .ok (.iload_n 3, 1) := by decide +kernel
theorem dX11_dusted_47 : decode cX11_dusted 47 = .ok (.if_icmp .ge 47, 3) := by decide +kernel
theorem dX11_dusted_50 : decode cX11_dusted 50 = .ok (.aload_n 0, 1) := by decide +kernel
theorem dX11_dusted_51 : decode cX11_dusted 51 = .ok (.iload 4, 2) := by decide +kernel
theorem dX11_dusted_53 : decode cX11_dusted 53 = .ok (.invokevirtual 388, 3) := by decide +kernel
theorem dX11_dusted_56 : decode cX11_dusted 56 = .ok (.aload_n 0, 1) := by decide +kernel
theorem dX11_dusted_57 : decode cX11_dusted 57 = .ok (.iload_n 3, 1) := by decide +kernel
theorem dX11_dusted_58 : decode cX11_dusted 58 = .ok (.invokevirtual 388, 3) := by decide +kernel
theorem dX11_dusted_61 : decode cX11_dusted 61 = .ok (.if_icmp .gt 27, 3) := by decide +kernel
theorem dX11_dusted_64 : decode cX11_dusted 64 = .ok (.aload_n 0, 1) := by decide +kernel
theorem dX11_dusted_65 : decode cX11_dusted 65 = .ok (.getfield 110, 3) := by decide +kernel
theorem dX11_dusted_68 : decode cX11_dusted 68 = .ok (.iload_n 3, 1) := by decide +kernel
theorem dX11_dusted_69 : decode cX11_dusted 69 = .ok (.aload_n 0, 1) := by decide +kernel
theorem dX11_dusted_70 : decode cX11_dusted 70 = .ok (.getfield 110, 3) := by decide +kernel
theorem dX11_dusted_73 : decode cX11_dusted 73 = .ok (.iload_n 3, 1) := by decide +kernel
theorem dX11_dusted_74 : decode cX11_dusted 74 = .ok (.iaload, 1) := by decide +kernel
theorem dX11_dusted_75 : decode cX11_dusted 75 = .ok (.aload_n 0, 1) := by decide +kernel
theorem dX11_dusted_76 : decode cX11_dusted 76 = .ok (.getfield 110, 3) := by decide +kernel
theorem dX11_dusted_79 : decode cX11_dusted 79 = .ok (.iload 4, 2) := by decide +kernel
theorem dX11_dusted_81 : decode cX11_dusted 81 = .ok (.iaload, 1) := by decide +kernel
theorem dX11_dusted_82 : decode cX11_dusted 82 = .ok (.iconst 1, 1) := by decide +kernel
theorem dX11_dusted_83 : decode cX11_dusted 83 = .ok (.iadd, 1) := by decide +kernel
theorem dX11_dusted_84 : decode cX11_dusted 84 = .ok (.invokestatic 373, 3) := by decide +kernel
theorem dX11_dusted_87 : decode cX11_dusted 87 = .ok (.iastore, 1) := by decide +kernel
theorem dX11_dusted_88 : decode cX11_dusted 88 = .ok (.iinc 4 1, 3) := by decide +kernel
theorem dX11_dusted_91 : decode cX11_dusted 91 = .ok (.goto (-47), 3) := by decide +kernel
theorem dX11_dusted_94 : decode cX11_dusted 94 = .ok (.iload_n 2, 1) := by decide +kernel
theorem dX11_dusted_95 : decode cX11_dusted 95 = .ok (.aload_n 0, 1) := by decide +kernel
theorem dX11_dusted_96 : decode cX11_dusted 96 = .ok (.getfield 110, 3) := by decide +kernel
theorem dX11_dusted_99 : decode cX11_dusted 99 = .ok (.iload_n 3, 1) := by decide +kernel
theorem dX11_dusted_100 : decode cX11_dusted 100 = .ok (.iaload, 1) := by decide +kernel
theorem dX11_dusted_101 : decode cX11_dusted 101 = .ok (.invokestatic 373, 3) := by decide +kernel
theorem dX11_dusted_104 : decode cX11_dusted 104 = .ok (.istore_n 2, 1) := by decide +kernel
theorem dX11_dusted_105 : decode cX11_dusted 105 = .ok (.iinc 3 1, 3) := by decide +kernel
theorem dX11_dusted_108 : decode cX11_dusted 108 = .ok (.goto (-79), 3) := by decide +kernel
theorem dX11_dusted_111 : decode cX11_dusted 111 = .ok (.iload_n 1, 1) := by decide +kernel
theorem dX11_dusted_112 : decode cX11_dusted 112 = .ok (.iload_n 2, 1) := by decide +kernel
theorem dX11_dusted_113 : decode cX11_dusted 113 = .ok (.isub, 1) := by decide +kernel
theorem dX11_dusted_114 : decode cX11_dusted 114 = .ok (.ireturn, 1) := by decide +kernel
theorem dX11_balanced_0 : decode cX11_balanced 0 = .ok (.iload_n 1, 1) := by decide +kernel
theorem dX11_balanced_1 : decode cX11_balanced 1 = .ok (.iconst 1, 1) := by decide +kernel
theorem dX11_balanced_2 : decode cX11_balanced 2 = .ok (.bipush 12, 2) := by decide +kernel
theorem dX11_balanced_4 : decode cX11_balanced 4 = .ok (.invokestatic 125, 3) := by decide +kernel
theorem dX11_balanced_7 : decode cX11_balanced 7 = .ok (.ifCond .eq 13, 3) := by decide +kernel
theorem dX11_balanced_10 : decode cX11_balanced 10 = .ok (.iconst 2, 1) := by decide +kernel
theorem dX11_balanced_11 : decode cX11_balanced 11 = .ok (.iload_n 1, 1) := by decide +kernel
theorem dX11_balanced_12 : decode cX11_balanced 12 = .ok (.imul, 1) := by decide +kernel
theorem dX11_balanced_13 : decode cX11_balanced 13 = .ok (.aload_n 0, 1) := by decide +kernel
theorem dX11_balanced_14 : decode cX11_balanced 14 = .ok (.getfield 158, 3) := by decide +kernel
theorem dX11_balanced_17 : decode cX11_balanced 17 = .ok (.if_icmp .le 5, 3) := by decide +kernel
theorem dX11_balanced_20 : decode cX11_balanced 20 = .ok (.iconst (-1), 1) := by decide +kernel
theorem dX11_balanced_21 : decode cX11_balanced 21 = .ok (.ireturn, 1) := by decide +kernel
theorem dX11_balanced_22 : decode cX11_balanced 22 = .ok (.aload_n 0, 1) := by decide +kernel
theorem dX11_balanced_23 : decode cX11_balanced 23 = .ok (.iconst 0, 1) := by decide +kernel
theorem dX11_balanced_24 : decode cX11_balanced 24 = .ok (.putfield 158, 3) := by decide +kernel
theorem dX11_balanced_27 : decode cX11_balanced 27 = .ok (.iconst 0, 1) := by decide +kernel
theorem dX11_balanced_28 : decode cX11_balanced 28 = .ok (.istore_n 2, 1) := by decide +kernel
theorem dX11_balanced_29 : decode cX11_balanced 29 = .ok (.iload_n 2, 1) := by decide +kernel
theorem dX11_balanced_30 : decode cX11_balanced 30 = .ok (.sipush 256, 3) := by decide +kernel
theorem dX11_balanced_33 : decode cX11_balanced 33 = .ok (.if_icmp .ge 56, 3) := by decide +kernel
theorem dX11_balanced_36 : decode cX11_balanced 36 = .ok (.iconst 0, 1) := by decide +kernel
theorem dX11_balanced_37 : decode cX11_balanced 37 = .ok (.istore_n 3, 1) := by decide +kernel
theorem dX11_balanced_38 : decode cX11_balanced 38 = .ok (.iconst 0, 1) := by decide +kernel
theorem dX11_balanced_39 : decode cX11_balanced 39 = .ok (.istore 4, 2) := by decide +kernel
theorem dX11_balanced_41 : decode cX11_balanced 41 = .ok (.iload 4, 2) := by decide +kernel
theorem dX11_balanced_43 : decode cX11_balanced 43 = .ok (.iload_n 1, 1) := by decide +kernel
theorem dX11_balanced_44 : decode cX11_balanced 44 = .ok (.if_icmp .ge 33, 3) := by decide +kernel
theorem dX11_balanced_47 : decode cX11_balanced 47 = .ok (.iload_n 3, 1) := by decide +kernel
theorem dX11_balanced_48 : decode cX11_balanced 48 = .ok (.aload_n 0, 1) := by decide +kernel
theorem dX11_balanced_49 : decode cX11_balanced 49 = .ok (.iconst 2, 1) := by decide +kernel
theorem dX11_balanced_50 : decode cX11_balanced 50 = .ok (.iload 4, 2) := by decide +kernel
theorem dX11_balanced_52 : decode cX11_balanced 52 = .ok (.imul, 1) := by decide +kernel
theorem dX11_balanced_53 : decode cX11_balanced 53 = .ok (.invokevirtual 388, 3) := by decide +kernel
theorem dX11_balanced_56 : decode cX11_balanced 56 = .ok (.iload_n 2, 1) := by decide +kernel
theorem dX11_balanced_57 : decode cX11_balanced 57 = .ok (.isub, 1) := by decide +kernel
theorem dX11_balanced_58 : decode cX11_balanced 58 = .ok (.aload_n 0, 1) := by decide +kernel
theorem dX11_balanced_59 : decode cX11_balanced 59 = .ok (.iconst 2, 1) := by decide +kernel
theorem dX11_balanced_60 : decode cX11_balanced 60 = .ok (.iload 4, 2) := by decide +kernel
theorem dX11_balanced_62 : decode cX11_balanced 62 = .ok (.imul, 1) := by decide +kernel
theorem dX11_balanced_63 : decode cX11_balanced 63 = .ok (.iconst 1, 1) := by decide +kernel
theorem dX11_balanced_64 : decode cX11_balanced 64 = .ok (.iadd, 1) := by decide +kernel
theorem dX11_balanced_65 : decode cX11_balanced 65 = .ok (.invokevirtual 388, 3) := by decide +kernel
theorem dX11_balanced_68 : decode cX11_balanced 68 = .ok (.imul, 1) := by decide +kernel
theorem dX11_balanced_69 : decode cX11_balanced 69 = .ok (.iadd, 1) := by decide +kernel
theorem dX11_balanced_70 : decode cX11_balanced 70 = .ok (.istore_n 3, 1) := by decide +kernel
theorem dX11_balanced_71 : decode cX11_balanced 71 = .ok (.iinc 4 1, 3) := by decide +kernel
theorem dX11_balanced_74 : decode cX11_balanced 74 = .ok (.goto (-33), 3) := by decide +kernel
theorem dX11_balanced_77 : decode cX11_balanced 77 = .ok (.iload_n 3, 1) := by decide +kernel
theorem dX11_balanced_78 : decode cX11_balanced 78 = .ok (.ifCond .ne 5, 3) := by decide +kernel
theorem dX11_balanced_81 : decode cX11_balanced 81 = .ok (.iload_n 2, 1) := by decide +kernel
theorem dX11_balanced_82 : decode cX11_balanced 82 = .ok (.ireturn, 1) := by decide +kernel
theorem dX11_balanced_83 : decode cX11_balanced 83 = .ok (.iinc 2 1, 3) := by decide +kernel
theorem dX11_balanced_86 : decode cX11_balanced 86 = .ok (.goto (-57), 3) := by decide +kernel
theorem dX11_balanced_89 : decode cX11_balanced 89 = .ok (.bipush (-2), 2) := by decide +kernel
theorem dX11_balanced_91 : decode cX11_balanced 91 = .ok (.ireturn, 1) := by decide +kernel
theorem dX11_pigeonholes_0 : decode cX11_pigeonholes 0 = .ok (.iload_n 1, 1) := by decide +kernel
theorem dX11_pigeonholes_1 : decode cX11_pigeonholes 1 = .ok (.iconst 2, 1) := by decide +kernel
theorem dX11_pigeonholes_2 : decode cX11_pigeonholes 2 = .ok (.bipush 16, 2) := by decide +kernel
theorem dX11_pigeonholes_4 : decode cX11_pigeonholes 4 = .ok (.invokestatic 125, 3) := by decide +kernel
theorem dX11_pigeonholes_7 : decode cX11_pigeonholes 7 = .ok (.ifCond .eq 29, 3) := by decide +kernel
theorem dX11_pigeonholes_10 : decode cX11_pigeonholes 10 = .ok (.iload_n 2, 1) := by decide +kernel
theorem dX11_pigeonholes_11 : decode cX11_pigeonholes 11 = .ok (.iconst 1, 1) := by decide +kernel
theorem dX11_pigeonholes_12 : decode cX11_pigeonholes 12 = .ok (.iload_n 1, 1) := by decide +kernel
theorem dX11_pigeonholes_13 : decode cX11_pigeonholes 13 = .ok (.invokestatic 125, 3) := by decide +kernel
theorem dX11_pigeonholes_16 : decode cX11_pigeonholes 16 = .ok (.ifCond .eq 20, 3) := by decide +kernel
theorem dX11_pigeonholes_19 : decode cX11_pigeonholes 19 = .ok (.iload_n 3, 1) := by decide +kernel
theorem dX11_pigeonholes_20 : decode cX11_pigeonholes 20 = .ok (.iconst 0, 1) := by decide +kernel
theorem dX11_pigeonholes_21 : decode cX11_pigeonholes 21 = .ok (.iconst 2, 1) := by decide +kernel
theorem dX11_pigeonholes_22 : decode cX11_pigeonholes 22 = .ok (.invokestatic 125, 3) := by decide +kernel
theorem dX11_pigeonholes_25 : decode cX11_pigeonholes 25 = .ok (.ifCond .eq 11, 3) := by decide +kernel
theorem dX11_pigeonholes_28 : decode cX11_pigeonholes 28 = .ok (.iload_n 2, 1) := by decide +kernel
theorem dX11_pigeonholes_29 : decode cX11_pigeonholes 29 = .ok (.aload_n 0, 1) := by decide +kernel
theorem dX11_pigeonholes_30 : decode cX11_pigeonholes 30 = .ok (.getfield 158, 3) := by decide +kernel
theorem dX11_pigeonholes_33 : decode cX11_pigeonholes 33 = .ok (.if_icmp .le 5, 3) := by decide +kernel
theorem dX11_pigeonholes_36 : decode cX11_pigeonholes 36 = .ok (.iconst (-1), 1) := by decide +kernel
theorem dX11_pigeonholes_37 : decode cX11_pigeonholes 37 = .ok (.ireturn, 1) := by decide +kernel
theorem dX11_pigeonholes_38 : decode cX11_pigeonholes 38 = .ok (.aload_n 0, 1) := by decide +kernel
theorem dX11_pigeonholes_39 : decode cX11_pigeonholes 39 = .ok (.iconst 0, 1) := by decide +kernel
theorem dX11_pigeonholes_40 : decode cX11_pigeonholes 40 = .ok (.putfield 158, 3) := by decide +kernel
theorem dX11_pigeonholes_43 : decode cX11_pigeonholes 43 = .ok (.iconst 0, 1) := by decide +kernel
theorem dX11_pigeonholes_44 : decode cX11_pigeonholes 44 = .ok (.istore 4, 2) := by decide +kernel
theorem dX11_pigeonholes_46 : decode cX11_pigeonholes 46 = .ok (.iconst 0, 1) := by decide +kernel
theorem dX11_pigeonholes_47 : decode cX11_pigeonholes 47 = .ok (.istore 5, 2) := by decide +kernel
theorem dX11_pigeonholes_49 : decode cX11_pigeonholes 49 = .ok (.iconst 0, 1) := by decide +kernel
theorem dX11_pigeonholes_50 : decode cX11_pigeonholes 50 = .ok (.istore 6, 2) := by decide +kernel
theorem dX11_pigeonholes_52 : decode cX11_pigeonholes 52 = .ok (.iconst 0, 1) := by decide +kernel
theorem dX11_pigeonholes_53 : decode cX11_pigeonholes 53 = .ok (.istore 7, 2) := by decide +kernel
theorem dX11_pigeonholes_55 : decode cX11_pigeonholes 55 = .ok (.iload 7, 2) := by decide +kernel
theorem dX11_pigeonholes_57 : decode cX11_pigeonholes 57 = .ok (.iload_n 2, 1) := by decide +kernel
theorem dX11_pigeonholes_58 : decode cX11_pigeonholes 58 = .ok (.if_icmp .ge 61, 3) := by decide +kernel
theorem dX11_pigeonholes_61 : decode cX11_pigeonholes 61 = .ok (.aload_n 0, 1) := by decide +kernel
theorem dX11_pigeonholes_62 : decode cX11_pigeonholes 62 = .ok (.iload 7, 2) := by decide +kernel
theorem dX11_pigeonholes_64 : decode cX11_pigeonholes 64 = .ok (.invokevirtual 388, 3) := by decide +kernel
theorem dX11_pigeonholes_67 : decode cX11_pigeonholes 67 = .ok (.iload_n 1, 1) := by decide +kernel
theorem dX11_pigeonholes_68 : decode cX11_pigeonholes 68 = .ok (.irem, 1) := by decide +kernel
theorem dX11_pigeonholes_69 : decode cX11_pigeonholes 69 = .ok (.istore 6, 2) := by decide +kernel
theorem dX11_pigeonholes_71 : decode cX11_pigeonholes 71 = .ok (.iload 5, 2) := by decide +kernel
theorem dX11_pigeonholes_73 : decode cX11_pigeonholes 73 = .ok (.iconst 1, 1) := by decide +kernel
theorem dX11_pigeonholes_74 : decode cX11_pigeonholes 74 = .ok (.iadd, 1) := by decide +kernel
theorem dX11_pigeonholes_75 : decode cX11_pigeonholes 75 = .ok (.istore 5, 2) := by decide +kernel
theorem dX11_pigeonholes_77 : decode cX11_pigeonholes 77 = .ok (.iload 4, 2) := by decide +kernel
theorem dX11_pigeonholes_79 : decode cX11_pigeonholes 79 = .ok (.iload 6, 2) := by decide +kernel
theorem dX11_pigeonholes_81 : decode cX11_pigeonholes 81 = .ok (.invokestatic 133, 3) := by decide +kernel
theorem dX11_pigeonholes_84 : decode cX11_pigeonholes 84 = .ok (.ifCond .eq 20, 3) := by decide +kernel
theorem dX11_pigeonholes_87 : decode cX11_pigeonholes 87 = .ok (.iload 6, 2) := by decide +kernel
theorem dX11_pigeonholes_89 : decode cX11_pigeonholes 89 = .ok (.iconst 1, 1) := by decide +kernel
theorem dX11_pigeonholes_90 : decode cX11_pigeonholes 90 = .ok (.iadd, 1) := by decide +kernel
theorem dX11_pigeonholes_91 : decode cX11_pigeonholes 91 = .ok (.iload_n 1, 1) := by decide +kernel
theorem dX11_pigeonholes_92 : decode cX11_pigeonholes 92 = .ok (.irem, 1) := by decide +kernel
theorem dX11_pigeonholes_93 : decode cX11_pigeonholes 93 = .ok (.istore 6, 2) := by decide +kernel
theorem dX11_pigeonholes_95 : decode cX11_pigeonholes 95 = .ok (.iload 5, 2) := by decide +kernel
theorem dX11_pigeonholes_97 : decode cX11_pigeonholes 97 = .ok (.iconst 1, 1) := by decide +kernel
theorem dX11_pigeonholes_98 : decode cX11_pigeonholes 98 = .ok (.iadd, 1) := by decide +kernel
theorem dX11_pigeonholes_99 : decode cX11_pigeonholes 99 = .ok (.istore 5, 2) := by decide +kernel
theorem dX11_pigeonholes_101 : decode cX11_pigeonholes 101 = .ok (.goto (-24), 3) := by decide +kernel
theorem dX11_pigeonholes_104 : decode cX11_pigeonholes 104 = .ok (.iload 4, 2) := by decide +kernel
theorem dX11_pigeonholes_106 : decode cX11_pigeonholes 106 = .ok (.iconst 1, 1) := by decide +kernel
theorem dX11_pigeonholes_107 : decode cX11_pigeonholes 107 = .ok (.iload 6, 2) := by decide +kernel
theorem dX11_pigeonholes_109 : decode cX11_pigeonholes 109 = .ok (.ishl, 1) := by decide +kernel
theorem dX11_pigeonholes_110 : decode cX11_pigeonholes 110 = .ok (.ior, 1) := by decide +kernel
theorem dX11_pigeonholes_111 : decode cX11_pigeonholes 111 = .ok (.istore 4, 2) := by decide +kernel
theorem dX11_pigeonholes_113 : decode cX11_pigeonholes 113 = .ok (.iinc 7 1, 3) := by decide +kernel
theorem dX11_pigeonholes_116 : decode cX11_pigeonholes 116 = .ok (.goto (-61), 3) := by decide +kernel
theorem dX11_pigeonholes_119 : decode cX11_pigeonholes 119 = .ok (.iload_n 3, 1) := by decide +kernel
theorem dX11_pigeonholes_120 : decode cX11_pigeonholes 120 = .ok (.ifCond .ne 8, 3) := by decide +kernel
theorem dX11_pigeonholes_123 : decode cX11_pigeonholes 123 = .ok (.iload 5, 2) := by decide +kernel
theorem dX11_pigeonholes_125 : decode cX11_pigeonholes 125 = .ok (.goto 19, 3) := by decide +kernel
theorem dX11_pigeonholes_128 : decode cX11_pigeonholes 128 = .ok (.iload_n 3, 1) := by decide +kernel
theorem dX11_pigeonholes_129 : decode cX11_pigeonholes 129 = .ok (.iconst 1, 1) := by decide +kernel
theorem dX11_pigeonholes_130 : decode cX11_pigeonholes 130 = .ok (.if_icmp .ne 8, 3) := by decide +kernel
theorem dX11_pigeonholes_133 : decode cX11_pigeonholes 133 = .ok (.iload 6, 2) := by decide +kernel
theorem dX11_pigeonholes_135 : decode cX11_pigeonholes 135 = .ok (.goto 9, 3) := by decide +kernel
theorem dX11_pigeonholes_138 : decode cX11_pigeonholes 138 = .ok (.iload_n 1, 1) := by decide +kernel
theorem dX11_pigeonholes_139 : decode cX11_pigeonholes 139 = .ok (.iload 4, 2) := by decide +kernel
theorem dX11_pigeonholes_141 : decode cX11_pigeonholes 141 = .ok (.invokestatic 400, 3) := by decide +kernel
theorem dX11_pigeonholes_144 : decode cX11_pigeonholes 144 = .ok (.ireturn, 1) := by decide +kernel
theorem dX11_longestRow_0 : decode cX11_longestRow 0 = .ok (.iconst 0, 1) := by decide +kernel
theorem dX11_longestRow_1 : decode cX11_longestRow 1 = .ok (.istore_n 2, 1) := by decide +kernel
theorem dX11_longestRow_2 : decode cX11_longestRow 2 = .ok (.iconst 0, 1) := by decide +kernel
theorem dX11_longestRow_3 : decode cX11_longestRow 3 = .ok (.istore_n 3, 1) := by decide +kernel
theorem dX11_longestRow_4 : decode cX11_longestRow 4 = .ok (.iconst 0, 1) := by decide +kernel
theorem dX11_longestRow_5 : decode cX11_longestRow 5 = .ok (.istore 4, 2) := by decide +kernel
theorem dX11_longestRow_7 : decode cX11_longestRow 7 = .ok (.iload 4, 2) := by decide +kernel
theorem dX11_longestRow_9 : decode cX11_longestRow 9 = .ok (.iconst 2, 1) := by decide +kernel
theorem dX11_longestRow_10 : decode cX11_longestRow 10 = .ok (.iload_n 0, 1) := by decide +kernel
theorem dX11_longestRow_11 : decode cX11_longestRow 11 = .ok (.imul, 1) := by decide +kernel
theorem dX11_longestRow_12 : decode cX11_longestRow 12 = .ok (.if_icmp .ge 38, 3) := by decide +kernel
theorem dX11_longestRow_15 : decode cX11_longestRow 15 = .ok (.iload_n 1, 1) := by decide +kernel
theorem dX11_longestRow_16 : decode cX11_longestRow 16 = .ok (.iload 4, 2) := by decide +kernel
theorem dX11_longestRow_18 : decode cX11_longestRow 18 = .ok (.iload_n 0, 1) := by decide +kernel
theorem dX11_longestRow_19 : decode cX11_longestRow 19 = .ok (.irem, 1) := by decide +kernel
theorem dX11_longestRow_20 : decode cX11_longestRow 20 = .ok (.invokestatic 133, 3) := by decide +kernel
theorem dX11_longestRow_23 : decode cX11_longestRow 23 = .ok (.ifCond .eq 13, 3) := by decide +kernel
theorem dX11_longestRow_26 : decode cX11_longestRow 26 = .ok (.iload_n 0, 1) := by decide +kernel
theorem dX11_longestRow_27 : decode cX11_longestRow 27 = .ok (.iload_n 3, 1) := by decide +kernel
theorem dX11_longestRow_28 : decode cX11_longestRow 28 = .ok (.iconst 1, 1) := by decide +kernel
theorem dX11_longestRow_29 : decode cX11_longestRow 29 = .ok (.iadd, 1) := by decide +kernel
theorem dX11_longestRow_30 : decode cX11_longestRow 30 = .ok (.invokestatic 314, 3) := by decide +kernel
theorem dX11_longestRow_33 : decode cX11_longestRow 33 = .ok (.goto 4, 3) := by decide +kernel
theorem dX11_longestRow_36 : decode cX11_longestRow 36 = .ok (.iconst 0, 1) := by decide +kernel
theorem dX11_longestRow_37 : decode cX11_longestRow 37 = .ok (.istore_n 3, 1) := by decide +kernel
theorem dX11_longestRow_38 : decode cX11_longestRow 38 = .ok (.iload_n 2, 1) := by decide +kernel
theorem dX11_longestRow_39 : decode cX11_longestRow 39 = .ok (.iload_n 3, 1) := by decide +kernel
theorem dX11_longestRow_40 : decode cX11_longestRow 40 = .ok (.invokestatic 373, 3) := by decide +kernel
theorem dX11_longestRow_43 : decode cX11_longestRow 43 = .ok (.istore_n 2, 1) := by decide +kernel
theorem dX11_longestRow_44 : decode cX11_longestRow 44 = .ok (.iinc 4 1, 3) := by decide +kernel
theorem dX11_longestRow_47 : decode cX11_longestRow 47 = .ok (.goto (-40), 3) := by decide +kernel
theorem dX11_longestRow_50 : decode cX11_longestRow 50 = .ok (.iload_n 2, 1) := by decide +kernel
theorem dX11_longestRow_51 : decode cX11_longestRow 51 = .ok (.ireturn, 1) := by decide +kernel
theorem dX11_planked_0 : decode cX11_planked 0 = .ok (.iload_n 1, 1) := by decide +kernel
theorem dX11_planked_1 : decode cX11_planked 1 = .ok (.iconst 1, 1) := by decide +kernel
theorem dX11_planked_2 : decode cX11_planked 2 = .ok (.bipush 8, 2) := by decide +kernel
theorem dX11_planked_4 : decode cX11_planked 4 = .ok (.invokestatic 125, 3) := by decide +kernel
theorem dX11_planked_7 : decode cX11_planked 7 = .ok (.ifCond .eq 13, 3) := by decide +kernel
theorem dX11_planked_10 : decode cX11_planked 10 = .ok (.iload_n 2, 1) := by decide +kernel
theorem dX11_planked_11 : decode cX11_planked 11 = .ok (.iconst 1, 1) := by decide +kernel
theorem dX11_planked_12 : decode cX11_planked 12 = .ok (.bipush 8, 2) := by decide +kernel
theorem dX11_planked_14 : decode cX11_planked 14 = .ok (.invokestatic 125, 3) := by decide +kernel
theorem dX11_planked_17 : decode cX11_planked 17 = .ok (.ifCond .ne 5, 3) := by decide +kernel
theorem dX11_planked_20 : decode cX11_planked 20 = .ok (.iconst (-1), 1) := by decide +kernel
theorem dX11_planked_21 : decode cX11_planked 21 = .ok (.ireturn, 1) := by decide +kernel
theorem dX11_planked_22 : decode cX11_planked 22 = .ok (.iconst 1, 1) := by decide +kernel
theorem dX11_planked_23 : decode cX11_planked 23 = .ok (.iload_n 1, 1) := by decide +kernel
theorem dX11_planked_24 : decode cX11_planked 24 = .ok (.ishl, 1) := by decide +kernel
theorem dX11_planked_25 : decode cX11_planked 25 = .ok (.istore_n 3, 1) := by decide +kernel
theorem dX11_planked_26 : decode cX11_planked 26 = .ok (.iconst 0, 1) := by decide +kernel
theorem dX11_planked_27 : decode cX11_planked 27 = .ok (.istore 4, 2) := by decide +kernel
theorem dX11_planked_29 : decode cX11_planked 29 = .ok (.iload 4, 2) := by decide +kernel
theorem dX11_planked_31 : decode cX11_planked 31 = .ok (.iload_n 3, 1) := by decide +kernel
theorem dX11_planked_32 : decode cX11_planked 32 = .ok (.if_icmp .ge 26, 3) := by decide +kernel
theorem dX11_planked_35 : decode cX11_planked 35 = .ok (.aload_n 0, 1) := by decide +kernel
theorem dX11_planked_36 : decode cX11_planked 36 = .ok (.getfield 113, 3) := by decide +kernel
theorem dX11_planked_39 : decode cX11_planked 39 = .ok (.iload 4, 2) := by decide +kernel
theorem dX11_planked_41 : decode cX11_planked 41 = .ok (.iload 4, 2) := by decide +kernel
theorem dX11_planked_43 : decode cX11_planked 43 = .ok (.ifCond .ne 7, 3) := by decide +kernel
theorem dX11_planked_46 : decode cX11_planked 46 = .ok (.iconst 1, 1) := by decide +kernel
theorem dX11_planked_47 : decode cX11_planked 47 = .ok (.goto 4, 3) := by decide +kernel
theorem dX11_planked_50 : decode cX11_planked 50 = .ok (.iconst 0, 1) := by decide +kernel
theorem dX11_planked_51 : decode cX11_planked 51 = .ok (.iastore, 1) := by decide +kernel
theorem dX11_planked_52 : decode cX11_planked 52 = .ok (.iinc 4 1, 3) := by decide +kernel
theorem dX11_planked_55 : decode cX11_planked 55 = .ok (.goto (-26), 3) := by decide +kernel
theorem dX11_planked_58 : decode cX11_planked 58 = .ok (.iconst 0, 1) := by decide +kernel
theorem dX11_planked_59 : decode cX11_planked 59 = .ok (.istore 4, 2) := by decide +kernel
theorem dX11_planked_61 : decode cX11_planked 61 = .ok (.iload 4, 2) := by decide +kernel
theorem dX11_planked_63 : decode cX11_planked 63 = .ok (.iload_n 1, 1) := by decide +kernel
theorem dX11_planked_64 : decode cX11_planked 64 = .ok (.iload_n 2, 1) := by decide +kernel
theorem dX11_planked_65 : decode cX11_planked 65 = .ok (.imul, 1) := by decide +kernel
theorem dX11_planked_66 : decode cX11_planked 66 = .ok (.if_icmp .ge 47, 3) := by decide +kernel
theorem dX11_planked_69 : decode cX11_planked 69 = .ok (.aload_n 0, 1) := by decide +kernel
theorem dX11_planked_70 : decode cX11_planked 70 = .ok (.iload 4, 2) := by decide +kernel
theorem dX11_planked_72 : decode cX11_planked 72 = .ok (.iload_n 1, 1) := by decide +kernel
theorem dX11_planked_73 : decode cX11_planked 73 = .ok (.irem, 1) := by decide +kernel
theorem dX11_planked_74 : decode cX11_planked 74 = .ok (.iload_n 1, 1) := by decide +kernel
theorem dX11_planked_75 : decode cX11_planked 75 = .ok (.invokevirtual 403, 3) := by decide +kernel
theorem dX11_planked_78 : decode cX11_planked 78 = .ok (.iconst 0, 1) := by decide +kernel
theorem dX11_planked_79 : decode cX11_planked 79 = .ok (.istore 5, 2) := by decide +kernel
theorem dX11_planked_81 : decode cX11_planked 81 = .ok (.iload 5, 2) := by decide +kernel
theorem dX11_planked_83 : decode cX11_planked 83 = .ok (.iload_n 3, 1) := by decide +kernel
theorem dX11_planked_84 : decode cX11_planked 84 = .ok (.if_icmp .ge 23, 3) := by decide +kernel
theorem dX11_planked_87 : decode cX11_planked 87 = .ok (.aload_n 0, 1) := by decide +kernel
theorem dX11_planked_88 : decode cX11_planked 88 = .ok (.getfield 113, 3) := by decide +kernel
theorem dX11_planked_91 : decode cX11_planked 91 = .ok (.iload 5, 2) := by decide +kernel
theorem dX11_planked_93 : decode cX11_planked 93 = .ok (.aload_n 0, 1) := by decide +kernel
theorem dX11_planked_94 : decode cX11_planked 94 = .ok (.getfield 116, 3) := by decide +kernel
theorem dX11_planked_97 : decode cX11_planked 97 = .ok (.iload 5, 2) := by decide +kernel
theorem dX11_planked_99 : decode cX11_planked 99 = .ok (.iaload, 1) := by decide +kernel
theorem dX11_planked_100 : decode cX11_planked 100 = .ok (.iastore, 1) := by decide +kernel
theorem dX11_planked_101 : decode cX11_planked 101 = .ok (.iinc 5 1, 3) := by decide +kernel
theorem dX11_planked_104 : decode cX11_planked 104 = .ok (.goto (-23), 3) := by decide +kernel
theorem dX11_planked_107 : decode cX11_planked 107 = .ok (.iinc 4 1, 3) := by decide +kernel
theorem dX11_planked_110 : decode cX11_planked 110 = .ok (.goto (-49), 3) := by decide +kernel
theorem dX11_planked_113 : decode cX11_planked 113 = .ok (.aload_n 0, 1) := by decide +kernel
theorem dX11_planked_114 : decode cX11_planked 114 = .ok (.getfield 113, 3) := by decide +kernel
theorem dX11_planked_117 : decode cX11_planked 117 = .ok (.iconst 0, 1) := by decide +kernel
theorem dX11_planked_118 : decode cX11_planked 118 = .ok (.iaload, 1) := by decide +kernel
theorem dX11_planked_119 : decode cX11_planked 119 = .ok (.ireturn, 1) := by decide +kernel
theorem dX11_laysSquare_0 : decode cX11_laysSquare 0 = .ok (.iconst 1, 1) := by decide +kernel
theorem dX11_laysSquare_1 : decode cX11_laysSquare 1 = .ok (.iload_n 2, 1) := by decide +kernel
theorem dX11_laysSquare_2 : decode cX11_laysSquare 2 = .ok (.ishl, 1) := by decide +kernel
theorem dX11_laysSquare_3 : decode cX11_laysSquare 3 = .ok (.istore_n 3, 1) := by decide +kernel
theorem dX11_laysSquare_4 : decode cX11_laysSquare 4 = .ok (.iconst 0, 1) := by decide +kernel
theorem dX11_laysSquare_5 : decode cX11_laysSquare 5 = .ok (.istore 4, 2) := by decide +kernel
theorem dX11_laysSquare_7 : decode cX11_laysSquare 7 = .ok (.iload 4, 2) := by decide +kernel
theorem dX11_laysSquare_9 : decode cX11_laysSquare 9 = .ok (.iload_n 3, 1) := by decide +kernel
theorem dX11_laysSquare_10 : decode cX11_laysSquare 10 = .ok (.if_icmp .ge 17, 3) := by decide +kernel
theorem dX11_laysSquare_13 : decode cX11_laysSquare 13 = .ok (.aload_n 0, 1) := by decide +kernel
theorem dX11_laysSquare_14 : decode cX11_laysSquare 14 = .ok (.getfield 116, 3) := by decide +kernel
theorem dX11_laysSquare_17 : decode cX11_laysSquare 17 = .ok (.iload 4, 2) := by decide +kernel
theorem dX11_laysSquare_19 : decode cX11_laysSquare 19 = .ok (.iconst 0, 1) := by decide +kernel
theorem dX11_laysSquare_20 : decode cX11_laysSquare 20 = .ok (.iastore, 1) := by decide +kernel
theorem dX11_laysSquare_21 : decode cX11_laysSquare 21 = .ok (.iinc 4 1, 3) := by decide +kernel
theorem dX11_laysSquare_24 : decode cX11_laysSquare 24 = .ok (.goto (-17), 3) := by decide +kernel
theorem dX11_laysSquare_27 : decode cX11_laysSquare 27 = .ok (.iconst 0, 1) := by decide +kernel
theorem dX11_laysSquare_28 : decode cX11_laysSquare 28 = .ok (.istore 4, 2) := by decide +kernel
theorem dX11_laysSquare_30 : decode cX11_laysSquare 30 = .ok (.iload 4, 2) := by decide +kernel
theorem dX11_laysSquare_32 : decode cX11_laysSquare 32 = .ok (.iload_n 3, 1) := by decide +kernel
theorem dX11_laysSquare_33 : decode cX11_laysSquare 33 = .ok (.if_icmp .ge 129, 3) := by decide +kernel
theorem dX11_laysSquare_36 : decode cX11_laysSquare 36 = .ok (.aload_n 0, 1) := by decide +kernel
theorem dX11_laysSquare_37 : decode cX11_laysSquare 37 = .ok (.getfield 113, 3) := by decide +kernel
theorem dX11_laysSquare_40 : decode cX11_laysSquare 40 = .ok (.iload 4, 2) := by decide +kernel
theorem dX11_laysSquare_42 : decode cX11_laysSquare 42 = .ok (.iaload, 1) := by decide +kernel
theorem dX11_laysSquare_43 : decode cX11_laysSquare 43 = .ok (.istore 5, 2) := by decide +kernel
theorem dX11_laysSquare_45 : decode cX11_laysSquare 45 = .ok (.iload 4, 2) := by decide +kernel
theorem dX11_laysSquare_47 : decode cX11_laysSquare 47 = .ok (.iconst 1, 1) := by decide +kernel
theorem dX11_laysSquare_48 : decode cX11_laysSquare 48 = .ok (.iload_n 1, 1) := by decide +kernel
theorem dX11_laysSquare_49 : decode cX11_laysSquare 49 = .ok (.ishl, 1) := by decide +kernel
theorem dX11_laysSquare_50 : decode cX11_laysSquare 50 = .ok (.ior, 1) := by decide +kernel
theorem dX11_laysSquare_51 : decode cX11_laysSquare 51 = .ok (.istore 6, 2) := by decide +kernel
theorem dX11_laysSquare_53 : decode cX11_laysSquare 53 = .ok (.iload 4, 2) := by decide +kernel
theorem dX11_laysSquare_55 : decode cX11_laysSquare 55 = .ok (.iconst 1, 1) := by decide +kernel
theorem dX11_laysSquare_56 : decode cX11_laysSquare 56 = .ok (.iload_n 1, 1) := by decide +kernel
theorem dX11_laysSquare_57 : decode cX11_laysSquare 57 = .ok (.ishl, 1) := by decide +kernel
theorem dX11_laysSquare_58 : decode cX11_laysSquare 58 = .ok (.iconst (-1), 1) := by decide +kernel
theorem dX11_laysSquare_59 : decode cX11_laysSquare 59 = .ok (.ixor, 1) := by decide +kernel
theorem dX11_laysSquare_60 : decode cX11_laysSquare 60 = .ok (.iand, 1) := by decide +kernel
theorem dX11_laysSquare_61 : decode cX11_laysSquare 61 = .ok (.istore 7, 2) := by decide +kernel
theorem dX11_laysSquare_63 : decode cX11_laysSquare 63 = .ok (.iload 4, 2) := by decide +kernel
theorem dX11_laysSquare_65 : decode cX11_laysSquare 65 = .ok (.iload_n 1, 1) := by decide +kernel
theorem dX11_laysSquare_66 : decode cX11_laysSquare 66 = .ok (.invokestatic 133, 3) := by decide +kernel
theorem dX11_laysSquare_69 : decode cX11_laysSquare 69 = .ok (.ifCond .eq 23, 3) := by decide +kernel
theorem dX11_laysSquare_72 : decode cX11_laysSquare 72 = .ok (.aload_n 0, 1) := by decide +kernel
theorem dX11_laysSquare_73 : decode cX11_laysSquare 73 = .ok (.getfield 116, 3) := by decide +kernel
theorem dX11_laysSquare_76 : decode cX11_laysSquare 76 = .ok (.iload 7, 2) := by decide +kernel
theorem dX11_laysSquare_78 : decode cX11_laysSquare 78 = .ok (.aload_n 0, 1) := by decide +kernel
theorem dX11_laysSquare_79 : decode cX11_laysSquare 79 = .ok (.getfield 116, 3) := by decide +kernel
theorem dX11_laysSquare_82 : decode cX11_laysSquare 82 = .ok (.iload 7, 2) := by decide +kernel
theorem dX11_laysSquare_84 : decode cX11_laysSquare 84 = .ok (.iaload, 1) := by decide +kernel
theorem dX11_laysSquare_85 : decode cX11_laysSquare 85 = .ok (.iload 5, 2) := by decide +kernel
theorem dX11_laysSquare_87 : decode cX11_laysSquare 87 = .ok (.iadd, 1) := by decide +kernel
theorem dX11_laysSquare_88 : decode cX11_laysSquare 88 = .ok (.iastore, 1) := by decide +kernel
theorem dX11_laysSquare_89 : decode cX11_laysSquare 89 = .ok (.goto 67, 3) := by decide +kernel
theorem dX11_laysSquare_92 : decode cX11_laysSquare 92 = .ok (.aload_n 0, 1) := by decide +kernel
theorem dX11_laysSquare_93 : decode cX11_laysSquare 93 = .ok (.getfield 116, 3) := by decide +kernel
theorem dX11_laysSquare_96 : decode cX11_laysSquare 96 = .ok (.iload 6, 2) := by decide +kernel
theorem dX11_laysSquare_98 : decode cX11_laysSquare 98 = .ok (.aload_n 0, 1) := by decide +kernel
theorem dX11_laysSquare_99 : decode cX11_laysSquare 99 = .ok (.getfield 116, 3) := by decide +kernel
theorem dX11_laysSquare_102 : decode cX11_laysSquare 102 = .ok (.iload 6, 2) := by decide +kernel
theorem dX11_laysSquare_104 : decode cX11_laysSquare 104 = .ok (.iaload, 1) := by decide +kernel
theorem dX11_laysSquare_105 : decode cX11_laysSquare 105 = .ok (.iload 5, 2) := by decide +kernel
theorem dX11_laysSquare_107 : decode cX11_laysSquare 107 = .ok (.iadd, 1) := by decide +kernel
theorem dX11_laysSquare_108 : decode cX11_laysSquare 108 = .ok (.iastore, 1) := by decide +kernel
theorem dX11_laysSquare_109 : decode cX11_laysSquare 109 = .ok (.iload_n 1, 1) := by decide +kernel
theorem dX11_laysSquare_110 : decode cX11_laysSquare 110 = .ok (.iconst 1, 1) := by decide +kernel
theorem dX11_laysSquare_111 : decode cX11_laysSquare 111 = .ok (.iadd, 1) := by decide +kernel
theorem dX11_laysSquare_112 : decode cX11_laysSquare 112 = .ok (.iload_n 2, 1) := by decide +kernel
theorem dX11_laysSquare_113 : decode cX11_laysSquare 113 = .ok (.if_icmp .ge 43, 3) := by decide +kernel
theorem dX11_laysSquare_116 : decode cX11_laysSquare 116 = .ok (.iload 4, 2) := by decide +kernel
theorem dX11_laysSquare_118 : decode cX11_laysSquare 118 = .ok (.iload_n 1, 1) := by decide +kernel
theorem dX11_laysSquare_119 : decode cX11_laysSquare 119 = .ok (.iconst 1, 1) := by decide +kernel
theorem dX11_laysSquare_120 : decode cX11_laysSquare 120 = .ok (.iadd, 1) := by decide +kernel
theorem dX11_laysSquare_121 : decode cX11_laysSquare 121 = .ok (.invokestatic 133, 3) := by decide +kernel
theorem dX11_laysSquare_124 : decode cX11_laysSquare 124 = .ok (.ifCond .ne 32, 3) := by decide +kernel
theorem dX11_laysSquare_127 : decode cX11_laysSquare 127 = .ok (.aload_n 0, 1) := by decide +kernel
theorem dX11_laysSquare_128 : decode cX11_laysSquare 128 = .ok (.getfield 116, 3) := by decide +kernel
theorem dX11_laysSquare_131 : decode cX11_laysSquare 131 = .ok (.iload 4, 2) := by decide +kernel
theorem dX11_laysSquare_133 : decode cX11_laysSquare 133 = .ok (.iconst 1, 1) := by decide +kernel
theorem dX11_laysSquare_134 : decode cX11_laysSquare 134 = .ok (.iload_n 1, 1) := by decide +kernel
theorem dX11_laysSquare_135 : decode cX11_laysSquare 135 = .ok (.iconst 1, 1) := by decide +kernel
theorem dX11_laysSquare_136 : decode cX11_laysSquare 136 = .ok (.iadd, 1) := by decide +kernel
theorem dX11_laysSquare_137 : decode cX11_laysSquare 137 = .ok (.ishl, 1) := by decide +kernel
theorem dX11_laysSquare_138 : decode cX11_laysSquare 138 = .ok (.ior, 1) := by decide +kernel
theorem dX11_laysSquare_139 : decode cX11_laysSquare 139 = .ok (.aload_n 0, 1) := by decide +kernel
theorem dX11_laysSquare_140 : decode cX11_laysSquare 140 = .ok (.getfield 116, 3) := by decide +kernel
theorem dX11_laysSquare_143 : decode cX11_laysSquare 143 = .ok (.iload 4, 2) := by decide +kernel
theorem dX11_laysSquare_145 : decode cX11_laysSquare 145 = .ok (.iconst 1, 1) := by decide +kernel
theorem dX11_laysSquare_146 : decode cX11_laysSquare 146 = .ok (.iload_n 1, 1) := by decide +kernel
theorem dX11_laysSquare_147 : decode cX11_laysSquare 147 = .ok (.iconst 1, 1) := by decide +kernel
theorem dX11_laysSquare_148 : decode cX11_laysSquare 148 = .ok (.iadd, 1) := by decide +kernel
theorem dX11_laysSquare_149 : decode cX11_laysSquare 149 = .ok (.ishl, 1) := by decide +kernel
theorem dX11_laysSquare_150 : decode cX11_laysSquare 150 = .ok (.ior, 1) := by decide +kernel
theorem dX11_laysSquare_151 : decode cX11_laysSquare 151 = .ok (.iaload, 1) := by decide +kernel
theorem dX11_laysSquare_152 : decode cX11_laysSquare 152 = .ok (.iload 5, 2) := by decide +kernel
theorem dX11_laysSquare_154 : decode cX11_laysSquare 154 = .ok (.iadd, 1) := by decide +kernel
theorem dX11_laysSquare_155 : decode cX11_laysSquare 155 = .ok (.iastore, 1) := by decide +kernel
theorem dX11_laysSquare_156 : decode cX11_laysSquare 156 = .ok (.iinc 4 1, 3) := by decide +kernel
theorem dX11_laysSquare_159 : decode cX11_laysSquare 159 = .ok (.goto (-129), 3) := by decide +kernel
theorem dX11_laysSquare_162 : decode cX11_laysSquare 162 = .ok (.return_, 1) := by decide +kernel
theorem dX11_piecesOf_0 : decode cX11_piecesOf 0 = .ok (.iconst 0, 1) := by decide +kernel
theorem dX11_piecesOf_1 : decode cX11_piecesOf 1 = .ok (.istore_n 3, 1) := by decide +kernel
theorem dX11_piecesOf_2 : decode cX11_piecesOf 2 = .ok (.iconst 0, 1) := by decide +kernel
theorem dX11_piecesOf_3 : decode cX11_piecesOf 3 = .ok (.istore 4, 2) := by decide +kernel
theorem dX11_piecesOf_5 : decode cX11_piecesOf 5 = .ok (.iload 4, 2) := by decide +kernel
theorem dX11_piecesOf_7 : decode cX11_piecesOf 7 = .ok (.iload_n 2, 1) := by decide +kernel
theorem dX11_piecesOf_8 : decode cX11_piecesOf 8 = .ok (.if_icmp .ge 24, 3) := by decide +kernel
theorem dX11_piecesOf_11 : decode cX11_piecesOf 11 = .ok (.aload_n 0, 1) := by decide +kernel
theorem dX11_piecesOf_12 : decode cX11_piecesOf 12 = .ok (.getfield 119, 3) := by decide +kernel
theorem dX11_piecesOf_15 : decode cX11_piecesOf 15 = .ok (.iload 4, 2) := by decide +kernel
theorem dX11_piecesOf_17 : decode cX11_piecesOf 17 = .ok (.iaload, 1) := by decide +kernel
theorem dX11_piecesOf_18 : decode cX11_piecesOf 18 = .ok (.iload_n 1, 1) := by decide +kernel
theorem dX11_piecesOf_19 : decode cX11_piecesOf 19 = .ok (.if_icmp .ne 7, 3) := by decide +kernel
theorem dX11_piecesOf_22 : decode cX11_piecesOf 22 = .ok (.iload_n 3, 1) := by decide +kernel
theorem dX11_piecesOf_23 : decode cX11_piecesOf 23 = .ok (.iconst 1, 1) := by decide +kernel
theorem dX11_piecesOf_24 : decode cX11_piecesOf 24 = .ok (.iadd, 1) := by decide +kernel
theorem dX11_piecesOf_25 : decode cX11_piecesOf 25 = .ok (.istore_n 3, 1) := by decide +kernel
theorem dX11_piecesOf_26 : decode cX11_piecesOf 26 = .ok (.iinc 4 1, 3) := by decide +kernel
theorem dX11_piecesOf_29 : decode cX11_piecesOf 29 = .ok (.goto (-24), 3) := by decide +kernel
theorem dX11_piecesOf_32 : decode cX11_piecesOf 32 = .ok (.iload_n 3, 1) := by decide +kernel
theorem dX11_piecesOf_33 : decode cX11_piecesOf 33 = .ok (.ireturn, 1) := by decide +kernel
theorem dX11_unions_0 : decode cX11_unions 0 = .ok (.iload_n 1, 1) := by decide +kernel
theorem dX11_unions_1 : decode cX11_unions 1 = .ok (.iconst 2, 1) := by decide +kernel
theorem dX11_unions_2 : decode cX11_unions 2 = .ok (.bipush 16, 2) := by decide +kernel
theorem dX11_unions_4 : decode cX11_unions 4 = .ok (.invokestatic 125, 3) := by decide +kernel
theorem dX11_unions_7 : decode cX11_unions 7 = .ok (.ifCond .eq 32, 3) := by decide +kernel
theorem dX11_unions_10 : decode cX11_unions 10 = .ok (.iload_n 2, 1) := by decide +kernel
theorem dX11_unions_11 : decode cX11_unions 11 = .ok (.iconst 1, 1) := by decide +kernel
theorem dX11_unions_12 : decode cX11_unions 12 = .ok (.bipush 20, 2) := by decide +kernel
theorem dX11_unions_14 : decode cX11_unions 14 = .ok (.invokestatic 125, 3) := by decide +kernel
theorem dX11_unions_17 : decode cX11_unions 17 = .ok (.ifCond .eq 22, 3) := by decide +kernel
theorem dX11_unions_20 : decode cX11_unions 20 = .ok (.iload_n 3, 1) := by decide +kernel
theorem dX11_unions_21 : decode cX11_unions 21 = .ok (.iconst 0, 1) := by decide +kernel
theorem dX11_unions_22 : decode cX11_unions 22 = .ok (.iconst 2, 1) := by decide +kernel
theorem dX11_unions_23 : decode cX11_unions 23 = .ok (.invokestatic 125, 3) := by decide +kernel
theorem dX11_unions_26 : decode cX11_unions 26 = .ok (.ifCond .eq 13, 3) := by decide +kernel
theorem dX11_unions_29 : decode cX11_unions 29 = .ok (.iconst 2, 1) := by decide +kernel
theorem dX11_unions_30 : decode cX11_unions 30 = .ok (.iload_n 2, 1) := by decide +kernel
theorem dX11_unions_31 : decode cX11_unions 31 = .ok (.imul, 1) := by decide +kernel
theorem dX11_unions_32 : decode cX11_unions 32 = .ok (.aload_n 0, 1) := by decide +kernel
theorem dX11_unions_33 : decode cX11_unions 33 = .ok (.getfield 158, 3) := by decide +kernel
theorem dX11_unions_36 : decode cX11_unions 36 = .ok (.if_icmp .le 5, 3) := by decide +kernel
theorem dX11_unions_39 : decode cX11_unions 39 = .ok (.iconst (-1), 1) := by decide +kernel
theorem dX11_unions_40 : decode cX11_unions 40 = .ok (.ireturn, 1) := by decide +kernel
theorem dX11_unions_41 : decode cX11_unions 41 = .ok (.aload_n 0, 1) := by decide +kernel
theorem dX11_unions_42 : decode cX11_unions 42 = .ok (.iconst 0, 1) := by decide +kernel
theorem dX11_unions_43 : decode cX11_unions 43 = .ok (.putfield 158, 3) := by decide +kernel
theorem dX11_unions_46 : decode cX11_unions 46 = .ok (.iload_n 1, 1) := by decide +kernel
theorem dX11_unions_47 : decode cX11_unions 47 = .ok (.istore 4, 2) := by decide +kernel
theorem dX11_unions_49 : decode cX11_unions 49 = .ok (.iconst 0, 1) := by decide +kernel
theorem dX11_unions_50 : decode cX11_unions 50 = .ok (.istore 5, 2) := by decide +kernel
theorem dX11_unions_52 : decode cX11_unions 52 = .ok (.iconst 0, 1) := by decide +kernel
theorem dX11_unions_53 : decode cX11_unions 53 = .ok (.istore 6, 2) := by decide +kernel
theorem dX11_unions_55 : decode cX11_unions 55 = .ok (.iload 6, 2) := by decide +kernel
theorem dX11_unions_57 : decode cX11_unions 57 = .ok (.iload_n 1, 1) := by decide +kernel
theorem dX11_unions_58 : decode cX11_unions 58 = .ok (.if_icmp .ge 18, 3) := by decide +kernel
theorem dX11_unions_61 : decode cX11_unions 61 = .ok (.aload_n 0, 1) := by decide +kernel
theorem dX11_unions_62 : decode cX11_unions 62 = .ok (.getfield 119, 3) := by decide +kernel
theorem dX11_unions_65 : decode cX11_unions 65 = .ok (.iload 6, 2) := by decide +kernel
theorem dX11_unions_67 : decode cX11_unions 67 = .ok (.iload 6, 2) := by decide +kernel
theorem dX11_unions_69 : decode cX11_unions 69 = .ok (.iastore, 1) := by decide +kernel
theorem dX11_unions_70 : decode cX11_unions 70 = .ok (.iinc 6 1, 3) := by decide +kernel
theorem dX11_unions_73 : decode cX11_unions 73 = .ok (.goto (-18), 3) := by decide +kernel
theorem dX11_unions_76 : decode cX11_unions 76 = .ok (.iconst 0, 1) := by decide +kernel
theorem dX11_unions_77 : decode cX11_unions 77 = .ok (.istore 6, 2) := by decide +kernel
theorem dX11_unions_79 : decode cX11_unions 79 = .ok (.iload 6, 2) := by decide +kernel
theorem dX11_unions_81 : decode cX11_unions 81 = .ok (.iload_n 2, 1) := by decide +kernel
theorem dX11_unions_82 : decode cX11_unions 82 = .ok (.if_icmp .ge 128, 3) := by decide +kernel
theorem dX11_unions_85 : decode cX11_unions 85 = .ok (.aload_n 0, 1) := by decide +kernel
theorem dX11_unions_86 : decode cX11_unions 86 = .ok (.iconst 2, 1) := by decide +kernel
theorem dX11_unions_87 : decode cX11_unions 87 = .ok (.iload 6, 2) := by decide +kernel
theorem dX11_unions_89 : decode cX11_unions 89 = .ok (.imul, 1) := by decide +kernel
theorem dX11_unions_90 : decode cX11_unions 90 = .ok (.invokevirtual 388, 3) := by decide +kernel
theorem dX11_unions_93 : decode cX11_unions 93 = .ok (.iload_n 1, 1) := by decide +kernel
theorem dX11_unions_94 : decode cX11_unions 94 = .ok (.if_icmp .ge 17, 3) := by decide +kernel
theorem dX11_unions_97 : decode cX11_unions 97 = .ok (.aload_n 0, 1) := by decide +kernel
theorem dX11_unions_98 : decode cX11_unions 98 = .ok (.iconst 2, 1) := by decide +kernel
theorem dX11_unions_99 : decode cX11_unions 99 = .ok (.iload 6, 2) := by decide +kernel
theorem dX11_unions_101 : decode cX11_unions 101 = .ok (.imul, 1) := by decide +kernel
theorem dX11_unions_102 : decode cX11_unions 102 = .ok (.iconst 1, 1) := by decide +kernel
theorem dX11_unions_103 : decode cX11_unions 103 = .ok (.iadd, 1) := by decide +kernel
theorem dX11_unions_104 : decode cX11_unions 104 = .ok (.invokevirtual 388, 3) := by decide +kernel
theorem dX11_unions_107 : decode cX11_unions 107 = .ok (.iload_n 1, 1) := by decide +kernel
theorem dX11_unions_108 : decode cX11_unions 108 = .ok (.if_icmp .lt 6, 3) := by decide +kernel
theorem dX11_unions_111 : decode cX11_unions 111 = .ok (.bipush (-3), 2) := by decide +kernel
theorem dX11_unions_113 : decode cX11_unions 113 = .ok (.ireturn, 1) := by decide +kernel
theorem dX11_unions_114 : decode cX11_unions 114 = .ok (.aload_n 0, 1) := by decide +kernel
theorem dX11_unions_115 : decode cX11_unions 115 = .ok (.getfield 119, 3) := by decide +kernel
theorem dX11_unions_118 : decode cX11_unions 118 = .ok (.aload_n 0, 1) := by decide +kernel
theorem dX11_unions_119 : decode cX11_unions 119 = .ok (.iconst 2, 1) := by decide +kernel
theorem dX11_unions_120 : decode cX11_unions 120 = .ok (.iload 6, 2) := by decide +kernel
theorem dX11_unions_122 : decode cX11_unions 122 = .ok (.imul, 1) := by decide +kernel
theorem dX11_unions_123 : decode cX11_unions 123 = .ok (.invokevirtual 388, 3) := by decide +kernel
theorem dX11_unions_126 : decode cX11_unions 126 = .ok (.iaload, 1) := by decide +kernel
theorem dX11_unions_127 : decode cX11_unions 127 = .ok (.istore 7, 2) := by decide +kernel
theorem dX11_unions_129 : decode cX11_unions 129 = .ok (.aload_n 0, 1) := by decide +kernel
theorem dX11_unions_130 : decode cX11_unions 130 = .ok (.getfield 119, 3) := by decide +kernel
theorem dX11_unions_133 : decode cX11_unions 133 = .ok (.aload_n 0, 1) := by decide +kernel
theorem dX11_unions_134 : decode cX11_unions 134 = .ok (.iconst 2, 1) := by decide +kernel
theorem dX11_unions_135 : decode cX11_unions 135 = .ok (.iload 6, 2) := by decide +kernel
theorem dX11_unions_137 : decode cX11_unions 137 = .ok (.imul, 1) := by decide +kernel
theorem dX11_unions_138 : decode cX11_unions 138 = .ok (.iconst 1, 1) := by decide +kernel
theorem dX11_unions_139 : decode cX11_unions 139 = .ok (.iadd, 1) := by decide +kernel
theorem dX11_unions_140 : decode cX11_unions 140 = .ok (.invokevirtual 388, 3) := by decide +kernel
theorem dX11_unions_143 : decode cX11_unions 143 = .ok (.iaload, 1) := by decide +kernel
theorem dX11_unions_144 : decode cX11_unions 144 = .ok (.istore 8, 2) := by decide +kernel
theorem dX11_unions_146 : decode cX11_unions 146 = .ok (.iload 7, 2) := by decide +kernel
theorem dX11_unions_148 : decode cX11_unions 148 = .ok (.iload 8, 2) := by decide +kernel
theorem dX11_unions_150 : decode cX11_unions 150 = .ok (.if_icmp .ne 12, 3) := by decide +kernel
theorem dX11_unions_153 : decode cX11_unions 153 = .ok (.iload 5, 2) := by decide +kernel
theorem dX11_unions_155 : decode cX11_unions 155 = .ok (.iconst 1, 1) := by decide +kernel
theorem dX11_unions_156 : decode cX11_unions 156 = .ok (.iadd, 1) := by decide +kernel
theorem dX11_unions_157 : decode cX11_unions 157 = .ok (.istore 5, 2) := by decide +kernel
theorem dX11_unions_159 : decode cX11_unions 159 = .ok (.goto 9, 3) := by decide +kernel
theorem dX11_unions_162 : decode cX11_unions 162 = .ok (.iload 4, 2) := by decide +kernel
theorem dX11_unions_164 : decode cX11_unions 164 = .ok (.iconst 1, 1) := by decide +kernel
theorem dX11_unions_165 : decode cX11_unions 165 = .ok (.isub, 1) := by decide +kernel
theorem dX11_unions_166 : decode cX11_unions 166 = .ok (.istore 4, 2) := by decide +kernel
theorem dX11_unions_168 : decode cX11_unions 168 = .ok (.iconst 0, 1) := by decide +kernel
theorem dX11_unions_169 : decode cX11_unions 169 = .ok (.istore 9, 2) := by decide +kernel
theorem dX11_unions_171 : decode cX11_unions 171 = .ok (.iload 9, 2) := by decide +kernel
theorem dX11_unions_173 : decode cX11_unions 173 = .ok (.iload_n 1, 1) := by decide +kernel
theorem dX11_unions_174 : decode cX11_unions 174 = .ok (.if_icmp .ge 30, 3) := by decide +kernel
theorem dX11_unions_177 : decode cX11_unions 177 = .ok (.aload_n 0, 1) := by decide +kernel
theorem dX11_unions_178 : decode cX11_unions 178 = .ok (.getfield 119, 3) := by decide +kernel
theorem dX11_unions_181 : decode cX11_unions 181 = .ok (.iload 9, 2) := by decide +kernel
theorem dX11_unions_183 : decode cX11_unions 183 = .ok (.iaload, 1) := by decide +kernel
theorem dX11_unions_184 : decode cX11_unions 184 = .ok (.iload 8, 2) := by decide +kernel
theorem dX11_unions_186 : decode cX11_unions 186 = .ok (.if_icmp .ne 12, 3) := by decide +kernel
theorem dX11_unions_189 : decode cX11_unions 189 = .ok (.aload_n 0, 1) := by decide +kernel
theorem dX11_unions_190 : decode cX11_unions 190 = .ok (.getfield 119, 3) := by decide +kernel
theorem dX11_unions_193 : decode cX11_unions 193 = .ok (.iload 9, 2) := by decide +kernel
theorem dX11_unions_195 : decode cX11_unions 195 = .ok (.iload 7, 2) := by decide +kernel
theorem dX11_unions_197 : decode cX11_unions 197 = .ok (.iastore, 1) := by decide +kernel
theorem dX11_unions_198 : decode cX11_unions 198 = .ok (.iinc 9 1, 3) := by decide +kernel
theorem dX11_unions_201 : decode cX11_unions 201 = .ok (.goto (-30), 3) := by decide +kernel
theorem dX11_unions_204 : decode cX11_unions 204 = .ok (.iinc 6 1, 3) := by decide +kernel
theorem dX11_unions_207 : decode cX11_unions 207 = .ok (.goto (-128), 3) := by decide +kernel
theorem dX11_unions_210 : decode cX11_unions 210 = .ok (.iconst 0, 1) := by decide +kernel
theorem dX11_unions_211 : decode cX11_unions 211 = .ok (.istore 6, 2) := by decide +kernel
theorem dX11_unions_213 : decode cX11_unions 213 = .ok (.iconst 0, 1) := by decide +kernel
theorem dX11_unions_214 : decode cX11_unions 214 = .ok (.istore 7, 2) := by decide +kernel
theorem dX11_unions_216 : decode cX11_unions 216 = .ok (.iload 7, 2) := by decide +kernel
theorem dX11_unions_218 : decode cX11_unions 218 = .ok (.iload_n 1, 1) := by decide +kernel
theorem dX11_unions_219 : decode cX11_unions 219 = .ok (.if_icmp .ge 23, 3) := by decide +kernel
theorem dX11_unions_222 : decode cX11_unions 222 = .ok (.iload 6, 2) := by decide +kernel
theorem dX11_unions_224 : decode cX11_unions 224 = .ok (.aload_n 0, 1) := by decide +kernel
theorem dX11_unions_225 : decode cX11_unions 225 = .ok (.iload 7, 2) := by decide +kernel
theorem dX11_unions_227 : decode cX11_unions 227 = .ok (.iload_n 1, 1) := by decide +kernel
theorem dX11_unions_228 : decode cX11_unions 228 = .ok (.invokevirtual 406, 3) := by decide +kernel
theorem dX11_unions_231 : decode cX11_unions 231 = .ok (.invokestatic 373, 3) := by decide +kernel
theorem dX11_unions_234 : decode cX11_unions 234 = .ok (.istore 6, 2) := by decide +kernel
theorem dX11_unions_236 : decode cX11_unions 236 = .ok (.iinc 7 1, 3) := by decide +kernel
theorem dX11_unions_239 : decode cX11_unions 239 = .ok (.goto (-23), 3) := by decide +kernel
theorem dX11_unions_242 : decode cX11_unions 242 = .ok (.iload_n 3, 1) := by decide +kernel
theorem dX11_unions_243 : decode cX11_unions 243 = .ok (.ifCond .ne 8, 3) := by decide +kernel
theorem dX11_unions_246 : decode cX11_unions 246 = .ok (.iload 4, 2) := by decide +kernel
theorem dX11_unions_248 : decode cX11_unions 248 = .ok (.goto 15, 3) := by decide +kernel
theorem dX11_unions_251 : decode cX11_unions 251 = .ok (.iload_n 3, 1) := by decide +kernel
theorem dX11_unions_252 : decode cX11_unions 252 = .ok (.iconst 1, 1) := by decide +kernel
theorem dX11_unions_253 : decode cX11_unions 253 = .ok (.if_icmp .ne 8, 3) := by decide +kernel
theorem dX11_unions_256 : decode cX11_unions 256 = .ok (.iload 6, 2) := by decide +kernel
theorem dX11_unions_258 : decode cX11_unions 258 = .ok (.goto 5, 3) := by decide +kernel
theorem dX11_unions_261 : decode cX11_unions 261 = .ok (.iload 5, 2) := by decide +kernel
theorem dX11_unions_263 : decode cX11_unions 263 = .ok (.ireturn, 1) := by decide +kernel
theorem dX11_laysLine_0 : decode cX11_laysLine 0 = .ok (.aload_n 0, 1) := by decide +kernel
theorem dX11_laysLine_1 : decode cX11_laysLine 1 = .ok (.getfield 122, 3) := by decide +kernel
theorem dX11_laysLine_4 : decode cX11_laysLine 4 = .ok (.iconst 0, 1) := by decide +kernel
theorem dX11_laysLine_5 : decode cX11_laysLine 5 = .ok (.iconst 0, 1) := by decide +kernel
theorem dX11_laysLine_6 : decode cX11_laysLine 6 = .ok (.iastore, 1) := by decide +kernel
theorem dX11_laysLine_7 : decode cX11_laysLine 7 = .ok (.iconst 1, 1) := by decide +kernel
theorem dX11_laysLine_8 : decode cX11_laysLine 8 = .ok (.istore_n 2, 1) := by decide +kernel
theorem dX11_laysLine_9 : decode cX11_laysLine 9 = .ok (.iconst 0, 1) := by decide +kernel
theorem dX11_laysLine_10 : decode cX11_laysLine 10 = .ok (.istore_n 3, 1) := by decide +kernel
theorem dX11_laysLine_11 : decode cX11_laysLine 11 = .ok (.iload_n 2, 1) := by decide +kernel
theorem dX11_laysLine_12 : decode cX11_laysLine 12 = .ok (.iload_n 1, 1) := by decide +kernel
theorem dX11_laysLine_13 : decode cX11_laysLine 13 = .ok (.if_icmp .ge 64, 3) := by decide +kernel
theorem dX11_laysLine_16 : decode cX11_laysLine 16 = .ok (.aload_n 0, 1) := by decide +kernel
theorem dX11_laysLine_17 : decode cX11_laysLine 17 = .ok (.iload_n 3, 1) := by decide +kernel
theorem dX11_laysLine_18 : decode cX11_laysLine 18 = .ok (.iconst (-1), 1) := by decide +kernel
theorem dX11_laysLine_19 : decode cX11_laysLine 19 = .ok (.iload_n 1, 1) := by decide +kernel
theorem dX11_laysLine_20 : decode cX11_laysLine 20 = .ok (.invokevirtual 409, 3) := by decide +kernel
theorem dX11_laysLine_23 : decode cX11_laysLine 23 = .ok (.istore 4, 2) := by decide +kernel
theorem dX11_laysLine_25 : decode cX11_laysLine 25 = .ok (.iload_n 3, 1) := by decide +kernel
theorem dX11_laysLine_26 : decode cX11_laysLine 26 = .ok (.istore 5, 2) := by decide +kernel
theorem dX11_laysLine_28 : decode cX11_laysLine 28 = .ok (.iload 4, 2) := by decide +kernel
theorem dX11_laysLine_30 : decode cX11_laysLine 30 = .ok (.iconst (-1), 1) := by decide +kernel
theorem dX11_laysLine_31 : decode cX11_laysLine 31 = .ok (.if_icmp .ne 29, 3) := by decide +kernel
theorem dX11_laysLine_34 : decode cX11_laysLine 34 = .ok (.aload_n 0, 1) := by decide +kernel
theorem dX11_laysLine_35 : decode cX11_laysLine 35 = .ok (.aload_n 0, 1) := by decide +kernel
theorem dX11_laysLine_36 : decode cX11_laysLine 36 = .ok (.iload 5, 2) := by decide +kernel
theorem dX11_laysLine_38 : decode cX11_laysLine 38 = .ok (.invokevirtual 412, 3) := by decide +kernel
theorem dX11_laysLine_41 : decode cX11_laysLine 41 = .ok (.iload 5, 2) := by decide +kernel
theorem dX11_laysLine_43 : decode cX11_laysLine 43 = .ok (.iload_n 1, 1) := by decide +kernel
theorem dX11_laysLine_44 : decode cX11_laysLine 44 = .ok (.invokevirtual 409, 3) := by decide +kernel
theorem dX11_laysLine_47 : decode cX11_laysLine 47 = .ok (.istore 4, 2) := by decide +kernel
theorem dX11_laysLine_49 : decode cX11_laysLine 49 = .ok (.aload_n 0, 1) := by decide +kernel
theorem dX11_laysLine_50 : decode cX11_laysLine 50 = .ok (.iload 5, 2) := by decide +kernel
theorem dX11_laysLine_52 : decode cX11_laysLine 52 = .ok (.invokevirtual 412, 3) := by decide +kernel
theorem dX11_laysLine_55 : decode cX11_laysLine 55 = .ok (.istore 5, 2) := by decide +kernel
theorem dX11_laysLine_57 : decode cX11_laysLine 57 = .ok (.goto (-29), 3) := by decide +kernel
theorem dX11_laysLine_60 : decode cX11_laysLine 60 = .ok (.iload 4, 2) := by decide +kernel
theorem dX11_laysLine_62 : decode cX11_laysLine 62 = .ok (.istore_n 3, 1) := by decide +kernel
theorem dX11_laysLine_63 : decode cX11_laysLine 63 = .ok (.aload_n 0, 1) := by decide +kernel
theorem dX11_laysLine_64 : decode cX11_laysLine 64 = .ok (.getfield 122, 3) := by decide +kernel
theorem dX11_laysLine_67 : decode cX11_laysLine 67 = .ok (.iload_n 2, 1) := by decide +kernel
theorem dX11_laysLine_68 : decode cX11_laysLine 68 = .ok (.iload_n 3, 1) := by decide +kernel
theorem dX11_laysLine_69 : decode cX11_laysLine 69 = .ok (.iastore, 1) := by decide +kernel
theorem dX11_laysLine_70 : decode cX11_laysLine 70 = .ok (.iload_n 2, 1) := by decide +kernel
theorem dX11_laysLine_71 : decode cX11_laysLine 71 = .ok (.iconst 1, 1) := by decide +kernel
theorem dX11_laysLine_72 : decode cX11_laysLine 72 = .ok (.iadd, 1) := by decide +kernel
theorem dX11_laysLine_73 : decode cX11_laysLine 73 = .ok (.istore_n 2, 1) := by decide +kernel
theorem dX11_laysLine_74 : decode cX11_laysLine 74 = .ok (.goto (-63), 3) := by decide +kernel
theorem dX11_laysLine_77 : decode cX11_laysLine 77 = .ok (.return_, 1) := by decide +kernel
theorem dX11_fromWhom_0 : decode cX11_fromWhom 0 = .ok (.aload_n 0, 1) := by decide +kernel
theorem dX11_fromWhom_1 : decode cX11_fromWhom 1 = .ok (.iload_n 1, 1) := by decide +kernel
theorem dX11_fromWhom_2 : decode cX11_fromWhom 2 = .ok (.iconst 2, 1) := by decide +kernel
theorem dX11_fromWhom_3 : decode cX11_fromWhom 3 = .ok (.iadd, 1) := by decide +kernel
theorem dX11_fromWhom_4 : decode cX11_fromWhom 4 = .ok (.invokevirtual 388, 3) := by decide +kernel
theorem dX11_fromWhom_7 : decode cX11_fromWhom 7 = .ok (.ireturn, 1) := by decide +kernel
theorem dX11_nextHeir_0 : decode cX11_nextHeir 0 = .ok (.iload_n 2, 1) := by decide +kernel
theorem dX11_nextHeir_1 : decode cX11_nextHeir 1 = .ok (.iconst 0, 1) := by decide +kernel
theorem dX11_nextHeir_2 : decode cX11_nextHeir 2 = .ok (.invokestatic 373, 3) := by decide +kernel
theorem dX11_nextHeir_5 : decode cX11_nextHeir 5 = .ok (.iconst 1, 1) := by decide +kernel
theorem dX11_nextHeir_6 : decode cX11_nextHeir 6 = .ok (.iadd, 1) := by decide +kernel
theorem dX11_nextHeir_7 : decode cX11_nextHeir 7 = .ok (.istore 4, 2) := by decide +kernel
theorem dX11_nextHeir_9 : decode cX11_nextHeir 9 = .ok (.iload 4, 2) := by decide +kernel
theorem dX11_nextHeir_11 : decode cX11_nextHeir 11 = .ok (.iload_n 3, 1) := by decide +kernel
theorem dX11_nextHeir_12 : decode cX11_nextHeir 12 = .ok (.if_icmp .ge 22, 3) := by decide +kernel
theorem dX11_nextHeir_15 : decode cX11_nextHeir 15 = .ok (.aload_n 0, 1) := by decide +kernel
theorem dX11_nextHeir_16 : decode cX11_nextHeir 16 = .ok (.iload 4, 2) := by decide +kernel
theorem dX11_nextHeir_18 : decode cX11_nextHeir 18 = .ok (.invokevirtual 412, 3) := by decide +kernel
theorem dX11_nextHeir_21 : decode cX11_nextHeir 21 = .ok (.iload_n 1, 1) := by decide +kernel
theorem dX11_nextHeir_22 : decode cX11_nextHeir 22 = .ok (.if_icmp .ne 6, 3) := by decide +kernel
theorem dX11_nextHeir_25 : decode cX11_nextHeir 25 = .ok (.iload 4, 2) := by decide +kernel
theorem dX11_nextHeir_27 : decode cX11_nextHeir 27 = .ok (.ireturn, 1) := by decide +kernel
theorem dX11_nextHeir_28 : decode cX11_nextHeir 28 = .ok (.iinc 4 1, 3) := by decide +kernel
theorem dX11_nextHeir_31 : decode cX11_nextHeir 31 = .ok (.goto (-22), 3) := by decide +kernel
theorem dX11_nextHeir_34 : decode cX11_nextHeir 34 = .ok (.iconst (-1), 1) := by decide +kernel
theorem dX11_nextHeir_35 : decode cX11_nextHeir 35 = .ok (.ireturn, 1) := by decide +kernel
theorem dX11_heirs_0 : decode cX11_heirs 0 = .ok (.iload_n 1, 1) := by decide +kernel
theorem dX11_heirs_1 : decode cX11_heirs 1 = .ok (.iconst 1, 1) := by decide +kernel
theorem dX11_heirs_2 : decode cX11_heirs 2 = .ok (.bipush 16, 2) := by decide +kernel
theorem dX11_heirs_4 : decode cX11_heirs 4 = .ok (.invokestatic 125, 3) := by decide +kernel
theorem dX11_heirs_7 : decode cX11_heirs 7 = .ok (.ifCond .eq 23, 3) := by decide +kernel
theorem dX11_heirs_10 : decode cX11_heirs 10 = .ok (.iload_n 2, 1) := by decide +kernel
theorem dX11_heirs_11 : decode cX11_heirs 11 = .ok (.iconst 0, 1) := by decide +kernel
theorem dX11_heirs_12 : decode cX11_heirs 12 = .ok (.bipush 15, 2) := by decide +kernel
theorem dX11_heirs_14 : decode cX11_heirs 14 = .ok (.invokestatic 125, 3) := by decide +kernel
theorem dX11_heirs_17 : decode cX11_heirs 17 = .ok (.ifCond .eq 13, 3) := by decide +kernel
theorem dX11_heirs_20 : decode cX11_heirs 20 = .ok (.iload_n 1, 1) := by decide +kernel
theorem dX11_heirs_21 : decode cX11_heirs 21 = .ok (.iconst 2, 1) := by decide +kernel
theorem dX11_heirs_22 : decode cX11_heirs 22 = .ok (.iadd, 1) := by decide +kernel
theorem dX11_heirs_23 : decode cX11_heirs 23 = .ok (.aload_n 0, 1) := by decide +kernel
theorem dX11_heirs_24 : decode cX11_heirs 24 = .ok (.getfield 158, 3) := by decide +kernel
theorem dX11_heirs_27 : decode cX11_heirs 27 = .ok (.if_icmp .le 5, 3) := by decide +kernel
theorem dX11_heirs_30 : decode cX11_heirs 30 = .ok (.iconst (-1), 1) := by decide +kernel
theorem dX11_heirs_31 : decode cX11_heirs 31 = .ok (.ireturn, 1) := by decide +kernel
theorem dX11_heirs_32 : decode cX11_heirs 32 = .ok (.aload_n 0, 1) := by decide +kernel
theorem dX11_heirs_33 : decode cX11_heirs 33 = .ok (.iconst 0, 1) := by decide +kernel
theorem dX11_heirs_34 : decode cX11_heirs 34 = .ok (.putfield 158, 3) := by decide +kernel
theorem dX11_heirs_37 : decode cX11_heirs 37 = .ok (.iconst 1, 1) := by decide +kernel
theorem dX11_heirs_38 : decode cX11_heirs 38 = .ok (.istore_n 3, 1) := by decide +kernel
theorem dX11_heirs_39 : decode cX11_heirs 39 = .ok (.iload_n 3, 1) := by decide +kernel
theorem dX11_heirs_40 : decode cX11_heirs 40 = .ok (.iload_n 1, 1) := by decide +kernel
theorem dX11_heirs_41 : decode cX11_heirs 41 = .ok (.if_icmp .ge 21, 3) := by decide +kernel
theorem dX11_heirs_44 : decode cX11_heirs 44 = .ok (.aload_n 0, 1) := by decide +kernel
theorem dX11_heirs_45 : decode cX11_heirs 45 = .ok (.iload_n 3, 1) := by decide +kernel
theorem dX11_heirs_46 : decode cX11_heirs 46 = .ok (.invokevirtual 412, 3) := by decide +kernel
theorem dX11_heirs_49 : decode cX11_heirs 49 = .ok (.iload_n 3, 1) := by decide +kernel
theorem dX11_heirs_50 : decode cX11_heirs 50 = .ok (.if_icmp .lt 6, 3) := by decide +kernel
theorem dX11_heirs_53 : decode cX11_heirs 53 = .ok (.bipush (-3), 2) := by decide +kernel
theorem dX11_heirs_55 : decode cX11_heirs 55 = .ok (.ireturn, 1) := by decide +kernel
theorem dX11_heirs_56 : decode cX11_heirs 56 = .ok (.iinc 3 1, 3) := by decide +kernel
theorem dX11_heirs_59 : decode cX11_heirs 59 = .ok (.goto (-20), 3) := by decide +kernel
theorem dX11_heirs_62 : decode cX11_heirs 62 = .ok (.aload_n 0, 1) := by decide +kernel
theorem dX11_heirs_63 : decode cX11_heirs 63 = .ok (.iload_n 1, 1) := by decide +kernel
theorem dX11_heirs_64 : decode cX11_heirs 64 = .ok (.invokevirtual 415, 3) := by decide +kernel
theorem dX11_heirs_67 : decode cX11_heirs 67 = .ok (.aload_n 0, 1) := by decide +kernel
theorem dX11_heirs_68 : decode cX11_heirs 68 = .ok (.iconst 0, 1) := by decide +kernel
theorem dX11_heirs_69 : decode cX11_heirs 69 = .ok (.invokevirtual 388, 3) := by decide +kernel
theorem dX11_heirs_72 : decode cX11_heirs 72 = .ok (.bipush 8, 2) := by decide +kernel
theorem dX11_heirs_74 : decode cX11_heirs 74 = .ok (.ishl, 1) := by decide +kernel
theorem dX11_heirs_75 : decode cX11_heirs 75 = .ok (.aload_n 0, 1) := by decide +kernel
theorem dX11_heirs_76 : decode cX11_heirs 76 = .ok (.iconst 1, 1) := by decide +kernel
theorem dX11_heirs_77 : decode cX11_heirs 77 = .ok (.invokevirtual 388, 3) := by decide +kernel
theorem dX11_heirs_80 : decode cX11_heirs 80 = .ok (.ior, 1) := by decide +kernel
theorem dX11_heirs_81 : decode cX11_heirs 81 = .ok (.istore_n 3, 1) := by decide +kernel
theorem dX11_heirs_82 : decode cX11_heirs 82 = .ok (.iconst (-1), 1) := by decide +kernel
theorem dX11_heirs_83 : decode cX11_heirs 83 = .ok (.istore 4, 2) := by decide +kernel
theorem dX11_heirs_85 : decode cX11_heirs 85 = .ok (.iconst 0, 1) := by decide +kernel
theorem dX11_heirs_86 : decode cX11_heirs 86 = .ok (.istore 5, 2) := by decide +kernel
theorem dX11_heirs_88 : decode cX11_heirs 88 = .ok (.iload 5, 2) := by decide +kernel
theorem dX11_heirs_90 : decode cX11_heirs 90 = .ok (.iload_n 1, 1) := by decide +kernel
theorem dX11_heirs_91 : decode cX11_heirs 91 = .ok (.if_icmp .ge 46, 3) := by decide +kernel
theorem dX11_heirs_94 : decode cX11_heirs 94 = .ok (.iload_n 3, 1) := by decide +kernel
theorem dX11_heirs_95 : decode cX11_heirs 95 = .ok (.aload_n 0, 1) := by decide +kernel
theorem dX11_heirs_96 : decode cX11_heirs 96 = .ok (.getfield 122, 3) := by decide +kernel
theorem dX11_heirs_99 : decode cX11_heirs 99 = .ok (.iload 5, 2) := by decide +kernel
theorem dX11_heirs_101 : decode cX11_heirs 101 = .ok (.iaload, 1) := by decide +kernel
theorem dX11_heirs_102 : decode cX11_heirs 102 = .ok (.invokestatic 133, 3) := by decide +kernel
theorem dX11_heirs_105 : decode cX11_heirs 105 = .ok (.ifCond .eq 6, 3) := by decide +kernel
theorem dX11_heirs_108 : decode cX11_heirs 108 = .ok (.goto 23, 3) := by decide +kernel
theorem dX11_heirs_111 : decode cX11_heirs 111 = .ok (.iload 4, 2) := by decide +kernel
theorem dX11_heirs_113 : decode cX11_heirs 113 = .ok (.iconst 1, 1) := by decide +kernel
theorem dX11_heirs_114 : decode cX11_heirs 114 = .ok (.iadd, 1) := by decide +kernel
theorem dX11_heirs_115 : decode cX11_heirs 115 = .ok (.istore 4, 2) := by decide +kernel
theorem dX11_heirs_117 : decode cX11_heirs 117 = .ok (.iload 4, 2) := by decide +kernel
theorem dX11_heirs_119 : decode cX11_heirs 119 = .ok (.iload_n 2, 1) := by decide +kernel
theorem dX11_heirs_120 : decode cX11_heirs 120 = .ok (.if_icmp .ne 11, 3) := by decide +kernel
theorem dX11_heirs_123 : decode cX11_heirs 123 = .ok (.aload_n 0, 1) := by decide +kernel
theorem dX11_heirs_124 : decode cX11_heirs 124 = .ok (.getfield 122, 3) := by decide +kernel
theorem dX11_heirs_127 : decode cX11_heirs 127 = .ok (.iload 5, 2) := by decide +kernel
theorem dX11_heirs_129 : decode cX11_heirs 129 = .ok (.iaload, 1) := by decide +kernel
theorem dX11_heirs_130 : decode cX11_heirs 130 = .ok (.ireturn, 1) := by decide +kernel
theorem dX11_heirs_131 : decode cX11_heirs 131 = .ok (.iinc 5 1, 3) := by decide +kernel
theorem dX11_heirs_134 : decode cX11_heirs 134 = .ok (.goto (-46), 3) := by decide +kernel
theorem dX11_heirs_137 : decode cX11_heirs 137 = .ok (.bipush (-4), 2) := by decide +kernel
theorem dX11_heirs_139 : decode cX11_heirs 139 = .ok (.ireturn, 1) := by decide +kernel
theorem dX11_isAhead_0 : decode cX11_isAhead 0 = .ok (.aload_n 0, 1) := by decide +kernel
theorem dX11_isAhead_1 : decode cX11_isAhead 1 = .ok (.iconst 2, 1) := by decide +kernel
theorem dX11_isAhead_2 : decode cX11_isAhead 2 = .ok (.iload_n 1, 1) := by decide +kernel
theorem dX11_isAhead_3 : decode cX11_isAhead 3 = .ok (.imul, 1) := by decide +kernel
theorem dX11_isAhead_4 : decode cX11_isAhead 4 = .ok (.invokevirtual 388, 3) := by decide +kernel
theorem dX11_isAhead_7 : decode cX11_isAhead 7 = .ok (.aload_n 0, 1) := by decide +kernel
theorem dX11_isAhead_8 : decode cX11_isAhead 8 = .ok (.iconst 2, 1) := by decide +kernel
theorem dX11_isAhead_9 : decode cX11_isAhead 9 = .ok (.iload_n 2, 1) := by decide +kernel
theorem dX11_isAhead_10 : decode cX11_isAhead 10 = .ok (.imul, 1) := by decide +kernel
theorem dX11_isAhead_11 : decode cX11_isAhead 11 = .ok (.invokevirtual 388, 3) := by decide +kernel
theorem dX11_isAhead_14 : decode cX11_isAhead 14 = .ok (.if_icmp .gt 25, 3) := by decide +kernel
theorem dX11_isAhead_17 : decode cX11_isAhead 17 = .ok (.aload_n 0, 1) := by decide +kernel
theorem dX11_isAhead_18 : decode cX11_isAhead 18 = .ok (.iconst 2, 1) := by decide +kernel
theorem dX11_isAhead_19 : decode cX11_isAhead 19 = .ok (.iload_n 1, 1) := by decide +kernel
theorem dX11_isAhead_20 : decode cX11_isAhead 20 = .ok (.imul, 1) := by decide +kernel
theorem dX11_isAhead_21 : decode cX11_isAhead 21 = .ok (.invokevirtual 388, 3) := by decide +kernel
theorem dX11_isAhead_24 : decode cX11_isAhead 24 = .ok (.aload_n 0, 1) := by decide +kernel
theorem dX11_isAhead_25 : decode cX11_isAhead 25 = .ok (.iconst 2, 1) := by decide +kernel
theorem dX11_isAhead_26 : decode cX11_isAhead 26 = .ok (.iload_n 2, 1) := by decide +kernel
theorem dX11_isAhead_27 : decode cX11_isAhead 27 = .ok (.imul, 1) := by decide +kernel
theorem dX11_isAhead_28 : decode cX11_isAhead 28 = .ok (.invokevirtual 388, 3) := by decide +kernel
theorem dX11_isAhead_31 : decode cX11_isAhead 31 = .ok (.if_icmp .ne 12, 3) := by decide +kernel
theorem dX11_isAhead_34 : decode cX11_isAhead 34 = .ok (.iload_n 1, 1) := by decide +kernel
theorem dX11_isAhead_35 : decode cX11_isAhead 35 = .ok (.iload_n 2, 1) := by decide +kernel
theorem dX11_isAhead_36 : decode cX11_isAhead 36 = .ok (.if_icmp .ge 7, 3) := by decide +kernel
theorem dX11_isAhead_39 : decode cX11_isAhead 39 = .ok (.iconst 1, 1) := by decide +kernel
theorem dX11_isAhead_40 : decode cX11_isAhead 40 = .ok (.goto 4, 3) := by decide +kernel
theorem dX11_isAhead_43 : decode cX11_isAhead 43 = .ok (.iconst 0, 1) := by decide +kernel
theorem dX11_isAhead_44 : decode cX11_isAhead 44 = .ok (.ireturn, 1) := by decide +kernel
theorem dX11_beginsAt_0 : decode cX11_beginsAt 0 = .ok (.iconst 0, 1) := by decide +kernel
theorem dX11_beginsAt_1 : decode cX11_beginsAt 1 = .ok (.istore_n 3, 1) := by decide +kernel
theorem dX11_beginsAt_2 : decode cX11_beginsAt 2 = .ok (.iconst 0, 1) := by decide +kernel
theorem dX11_beginsAt_3 : decode cX11_beginsAt 3 = .ok (.istore 4, 2) := by decide +kernel
theorem dX11_beginsAt_5 : decode cX11_beginsAt 5 = .ok (.iload 4, 2) := by decide +kernel
theorem dX11_beginsAt_7 : decode cX11_beginsAt 7 = .ok (.iload_n 2, 1) := by decide +kernel
theorem dX11_beginsAt_8 : decode cX11_beginsAt 8 = .ok (.if_icmp .ge 38, 3) := by decide +kernel
theorem dX11_beginsAt_11 : decode cX11_beginsAt 11 = .ok (.iload 4, 2) := by decide +kernel
theorem dX11_beginsAt_13 : decode cX11_beginsAt 13 = .ok (.iload_n 1, 1) := by decide +kernel
theorem dX11_beginsAt_14 : decode cX11_beginsAt 14 = .ok (.if_icmp .eq 26, 3) := by decide +kernel
theorem dX11_beginsAt_17 : decode cX11_beginsAt 17 = .ok (.aload_n 0, 1) := by decide +kernel
theorem dX11_beginsAt_18 : decode cX11_beginsAt 18 = .ok (.iload 4, 2) := by decide +kernel
theorem dX11_beginsAt_20 : decode cX11_beginsAt 20 = .ok (.iload_n 1, 1) := by decide +kernel
theorem dX11_beginsAt_21 : decode cX11_beginsAt 21 = .ok (.invokevirtual 418, 3) := by decide +kernel
theorem dX11_beginsAt_24 : decode cX11_beginsAt 24 = .ok (.ifCond .eq 16, 3) := by decide +kernel
theorem dX11_beginsAt_27 : decode cX11_beginsAt 27 = .ok (.iload_n 3, 1) := by decide +kernel
theorem dX11_beginsAt_28 : decode cX11_beginsAt 28 = .ok (.aload_n 0, 1) := by decide +kernel
theorem dX11_beginsAt_29 : decode cX11_beginsAt 29 = .ok (.iconst 2, 1) := by decide +kernel
theorem dX11_beginsAt_30 : decode cX11_beginsAt 30 = .ok (.iload 4, 2) := by decide +kernel
theorem dX11_beginsAt_32 : decode cX11_beginsAt 32 = .ok (.imul, 1) := by decide +kernel
theorem dX11_beginsAt_33 : decode cX11_beginsAt 33 = .ok (.iconst 1, 1) := by decide +kernel
theorem dX11_beginsAt_34 : decode cX11_beginsAt 34 = .ok (.iadd, 1) := by decide +kernel
theorem dX11_beginsAt_35 : decode cX11_beginsAt 35 = .ok (.invokevirtual 388, 3) := by decide +kernel
theorem dX11_beginsAt_38 : decode cX11_beginsAt 38 = .ok (.iadd, 1) := by decide +kernel
theorem dX11_beginsAt_39 : decode cX11_beginsAt 39 = .ok (.istore_n 3, 1) := by decide +kernel
theorem dX11_beginsAt_40 : decode cX11_beginsAt 40 = .ok (.iinc 4 1, 3) := by decide +kernel
theorem dX11_beginsAt_43 : decode cX11_beginsAt 43 = .ok (.goto (-38), 3) := by decide +kernel
theorem dX11_beginsAt_46 : decode cX11_beginsAt 46 = .ok (.iload_n 3, 1) := by decide +kernel
theorem dX11_beginsAt_47 : decode cX11_beginsAt 47 = .ok (.ireturn, 1) := by decide +kernel
theorem dX11_heard_0 : decode cX11_heard 0 = .ok (.iload_n 1, 1) := by decide +kernel
theorem dX11_heard_1 : decode cX11_heard 1 = .ok (.iconst 1, 1) := by decide +kernel
theorem dX11_heard_2 : decode cX11_heard 2 = .ok (.bipush 10, 2) := by decide +kernel
theorem dX11_heard_4 : decode cX11_heard 4 = .ok (.invokestatic 125, 3) := by decide +kernel
theorem dX11_heard_7 : decode cX11_heard 7 = .ok (.ifCond .eq 30, 3) := by decide +kernel
theorem dX11_heard_10 : decode cX11_heard 10 = .ok (.iload_n 2, 1) := by decide +kernel
theorem dX11_heard_11 : decode cX11_heard 11 = .ok (.iconst 0, 1) := by decide +kernel
theorem dX11_heard_12 : decode cX11_heard 12 = .ok (.iload_n 1, 1) := by decide +kernel
theorem dX11_heard_13 : decode cX11_heard 13 = .ok (.iconst 1, 1) := by decide +kernel
theorem dX11_heard_14 : decode cX11_heard 14 = .ok (.isub, 1) := by decide +kernel
theorem dX11_heard_15 : decode cX11_heard 15 = .ok (.invokestatic 125, 3) := by decide +kernel
theorem dX11_heard_18 : decode cX11_heard 18 = .ok (.ifCond .ne 9, 3) := by decide +kernel
theorem dX11_heard_21 : decode cX11_heard 21 = .ok (.iload_n 2, 1) := by decide +kernel
theorem dX11_heard_22 : decode cX11_heard 22 = .ok (.bipush 100, 2) := by decide +kernel
theorem dX11_heard_24 : decode cX11_heard 24 = .ok (.if_icmp .ne 13, 3) := by decide +kernel
theorem dX11_heard_27 : decode cX11_heard 27 = .ok (.iconst 2, 1) := by decide +kernel
theorem dX11_heard_28 : decode cX11_heard 28 = .ok (.iload_n 1, 1) := by decide +kernel
theorem dX11_heard_29 : decode cX11_heard 29 = .ok (.imul, 1) := by decide +kernel
theorem dX11_heard_30 : decode cX11_heard 30 = .ok (.aload_n 0, 1) := by decide +kernel
theorem dX11_heard_31 : decode cX11_heard 31 = .ok (.getfield 158, 3) := by decide +kernel
theorem dX11_heard_34 : decode cX11_heard 34 = .ok (.if_icmp .le 5, 3) := by decide +kernel
theorem dX11_heard_37 : decode cX11_heard 37 = .ok (.iconst (-1), 1) := by decide +kernel
theorem dX11_heard_38 : decode cX11_heard 38 = .ok (.ireturn, 1) := by decide +kernel
theorem dX11_heard_39 : decode cX11_heard 39 = .ok (.aload_n 0, 1) := by decide +kernel
theorem dX11_heard_40 : decode cX11_heard 40 = .ok (.iconst 0, 1) := by decide +kernel
theorem dX11_heard_41 : decode cX11_heard 41 = .ok (.putfield 158, 3) := by decide +kernel
theorem dX11_heard_44 : decode cX11_heard 44 = .ok (.iload_n 2, 1) := by decide +kernel
theorem dX11_heard_45 : decode cX11_heard 45 = .ok (.bipush 100, 2) := by decide +kernel
theorem dX11_heard_47 : decode cX11_heard 47 = .ok (.if_icmp .eq 20, 3) := by decide +kernel
theorem dX11_heard_50 : decode cX11_heard 50 = .ok (.aload_n 0, 1) := by decide +kernel
theorem dX11_heard_51 : decode cX11_heard 51 = .ok (.iload_n 2, 1) := by decide +kernel
theorem dX11_heard_52 : decode cX11_heard 52 = .ok (.iload_n 1, 1) := by decide +kernel
theorem dX11_heard_53 : decode cX11_heard 53 = .ok (.invokevirtual 421, 3) := by decide +kernel
theorem dX11_heard_56 : decode cX11_heard 56 = .ok (.aload_n 0, 1) := by decide +kernel
theorem dX11_heard_57 : decode cX11_heard 57 = .ok (.iconst 2, 1) := by decide +kernel
theorem dX11_heard_58 : decode cX11_heard 58 = .ok (.iload_n 2, 1) := by decide +kernel
theorem dX11_heard_59 : decode cX11_heard 59 = .ok (.imul, 1) := by decide +kernel
theorem dX11_heard_60 : decode cX11_heard 60 = .ok (.iconst 1, 1) := by decide +kernel
theorem dX11_heard_61 : decode cX11_heard 61 = .ok (.iadd, 1) := by decide +kernel
theorem dX11_heard_62 : decode cX11_heard 62 = .ok (.invokevirtual 388, 3) := by decide +kernel
theorem dX11_heard_65 : decode cX11_heard 65 = .ok (.iadd, 1) := by decide +kernel
theorem dX11_heard_66 : decode cX11_heard 66 = .ok (.ireturn, 1) := by decide +kernel
theorem dX11_heard_67 : decode cX11_heard 67 = .ok (.iconst 0, 1) := by decide +kernel
theorem dX11_heard_68 : decode cX11_heard 68 = .ok (.istore_n 3, 1) := by decide +kernel
theorem dX11_heard_69 : decode cX11_heard 69 = .ok (.iconst 0, 1) := by decide +kernel
theorem dX11_heard_70 : decode cX11_heard 70 = .ok (.istore 4, 2) := by decide +kernel
theorem dX11_heard_72 : decode cX11_heard 72 = .ok (.iload 4, 2) := by decide +kernel
theorem dX11_heard_74 : decode cX11_heard 74 = .ok (.iload_n 1, 1) := by decide +kernel
theorem dX11_heard_75 : decode cX11_heard 75 = .ok (.if_icmp .ge 19, 3) := by decide +kernel
theorem dX11_heard_78 : decode cX11_heard 78 = .ok (.iload_n 3, 1) := by decide +kernel
theorem dX11_heard_79 : decode cX11_heard 79 = .ok (.aload_n 0, 1) := by decide +kernel
theorem dX11_heard_80 : decode cX11_heard 80 = .ok (.iload 4, 2) := by decide +kernel
theorem dX11_heard_82 : decode cX11_heard 82 = .ok (.iload_n 1, 1) := by decide +kernel
theorem dX11_heard_83 : decode cX11_heard 83 = .ok (.invokevirtual 421, 3) := by decide +kernel
theorem dX11_heard_86 : decode cX11_heard 86 = .ok (.iadd, 1) := by decide +kernel
theorem dX11_heard_87 : decode cX11_heard 87 = .ok (.istore_n 3, 1) := by decide +kernel
theorem dX11_heard_88 : decode cX11_heard 88 = .ok (.iinc 4 1, 3) := by decide +kernel
theorem dX11_heard_91 : decode cX11_heard 91 = .ok (.goto (-19), 3) := by decide +kernel
theorem dX11_heard_94 : decode cX11_heard 94 = .ok (.iload_n 3, 1) := by decide +kernel
theorem dX11_heard_95 : decode cX11_heard 95 = .ok (.ireturn, 1) := by decide +kernel
theorem dX11_ticks_0 : decode cX11_ticks 0 = .ok (.iload_n 1, 1) := by decide +kernel
theorem dX11_ticks_1 : decode cX11_ticks 1 = .ok (.iconst 0, 1) := by decide +kernel
theorem dX11_ticks_2 : decode cX11_ticks 2 = .ok (.sipush 1439, 3) := by decide +kernel
theorem dX11_ticks_5 : decode cX11_ticks 5 = .ok (.invokestatic 125, 3) := by decide +kernel
theorem dX11_ticks_8 : decode cX11_ticks 8 = .ok (.ifCond .eq 14, 3) := by decide +kernel
theorem dX11_ticks_11 : decode cX11_ticks 11 = .ok (.iload_n 2, 1) := by decide +kernel
theorem dX11_ticks_12 : decode cX11_ticks 12 = .ok (.iload_n 1, 1) := by decide +kernel
theorem dX11_ticks_13 : decode cX11_ticks 13 = .ok (.sipush 1439, 3) := by decide +kernel
theorem dX11_ticks_16 : decode cX11_ticks 16 = .ok (.invokestatic 125, 3) := by decide +kernel
theorem dX11_ticks_19 : decode cX11_ticks 19 = .ok (.ifCond .ne 5, 3) := by decide +kernel
theorem dX11_ticks_22 : decode cX11_ticks 22 = .ok (.iconst (-1), 1) := by decide +kernel
theorem dX11_ticks_23 : decode cX11_ticks 23 = .ok (.ireturn, 1) := by decide +kernel
theorem dX11_ticks_24 : decode cX11_ticks 24 = .ok (.iconst 0, 1) := by decide +kernel
theorem dX11_ticks_25 : decode cX11_ticks 25 = .ok (.istore_n 3, 1) := by decide +kernel
theorem dX11_ticks_26 : decode cX11_ticks 26 = .ok (.iload_n 1, 1) := by decide +kernel
theorem dX11_ticks_27 : decode cX11_ticks 27 = .ok (.istore 4, 2) := by decide +kernel
theorem dX11_ticks_29 : decode cX11_ticks 29 = .ok (.iload 4, 2) := by decide +kernel
theorem dX11_ticks_31 : decode cX11_ticks 31 = .ok (.iload_n 2, 1) := by decide +kernel
theorem dX11_ticks_32 : decode cX11_ticks 32 = .ok (.if_icmp .gt 47, 3) := by decide +kernel
theorem dX11_ticks_35 : decode cX11_ticks 35 = .ok (.iload 4, 2) := by decide +kernel
theorem dX11_ticks_37 : decode cX11_ticks 37 = .ok (.bipush 60, 2) := by decide +kernel
theorem dX11_ticks_39 : decode cX11_ticks 39 = .ok (.irem, 1) := by decide +kernel
theorem dX11_ticks_40 : decode cX11_ticks 40 = .ok (.ifCond .ne 19, 3) := by decide +kernel
theorem dX11_ticks_43 : decode cX11_ticks 43 = .ok (.iload_n 3, 1) := by decide +kernel
theorem dX11_ticks_44 : decode cX11_ticks 44 = .ok (.iload 4, 2) := by decide +kernel
theorem dX11_ticks_46 : decode cX11_ticks 46 = .ok (.bipush 60, 2) := by decide +kernel
theorem dX11_ticks_48 : decode cX11_ticks 48 = .ok (.idiv, 1) := by decide +kernel
theorem dX11_ticks_49 : decode cX11_ticks 49 = .ok (.bipush 11, 2) := by decide +kernel
theorem dX11_ticks_51 : decode cX11_ticks 51 = .ok (.iadd, 1) := by decide +kernel
theorem dX11_ticks_52 : decode cX11_ticks 52 = .ok (.bipush 12, 2) := by decide +kernel
theorem dX11_ticks_54 : decode cX11_ticks 54 = .ok (.irem, 1) := by decide +kernel
theorem dX11_ticks_55 : decode cX11_ticks 55 = .ok (.iadd, 1) := by decide +kernel
theorem dX11_ticks_56 : decode cX11_ticks 56 = .ok (.iconst 1, 1) := by decide +kernel
theorem dX11_ticks_57 : decode cX11_ticks 57 = .ok (.iadd, 1) := by decide +kernel
theorem dX11_ticks_58 : decode cX11_ticks 58 = .ok (.istore_n 3, 1) := by decide +kernel
theorem dX11_ticks_59 : decode cX11_ticks 59 = .ok (.iload 4, 2) := by decide +kernel
theorem dX11_ticks_61 : decode cX11_ticks 61 = .ok (.bipush 60, 2) := by decide +kernel
theorem dX11_ticks_63 : decode cX11_ticks 63 = .ok (.irem, 1) := by decide +kernel
theorem dX11_ticks_64 : decode cX11_ticks 64 = .ok (.bipush 30, 2) := by decide +kernel
theorem dX11_ticks_66 : decode cX11_ticks 66 = .ok (.if_icmp .ne 7, 3) := by decide +kernel
theorem dX11_ticks_69 : decode cX11_ticks 69 = .ok (.iload_n 3, 1) := by decide +kernel
theorem dX11_ticks_70 : decode cX11_ticks 70 = .ok (.iconst 1, 1) := by decide +kernel
theorem dX11_ticks_71 : decode cX11_ticks 71 = .ok (.iadd, 1) := by decide +kernel
theorem dX11_ticks_72 : decode cX11_ticks 72 = .ok (.istore_n 3, 1) := by decide +kernel
theorem dX11_ticks_73 : decode cX11_ticks 73 = .ok (.iinc 4 1, 3) := by decide +kernel
theorem dX11_ticks_76 : decode cX11_ticks 76 = .ok (.goto (-47), 3) := by decide +kernel
theorem dX11_ticks_79 : decode cX11_ticks 79 = .ok (.iload_n 3, 1) := by decide +kernel
theorem dX11_ticks_80 : decode cX11_ticks 80 = .ok (.ireturn, 1) := by decide +kernel
theorem dX11_seed_0 : decode cX11_seed 0 = .ok (.iload_n 1, 1) := by decide +kernel
theorem dX11_seed_1 : decode cX11_seed 1 = .ok (.iconst 0, 1) := by decide +kernel
theorem dX11_seed_2 : decode cX11_seed 2 = .ok (.ldc_w 424, 3) := by decide +kernel
theorem dX11_seed_5 : decode cX11_seed 5 = .ok (.invokestatic 125, 3) := by decide +kernel
theorem dX11_seed_8 : decode cX11_seed 8 = .ok (.ifCond .ne 5, 3) := by decide +kernel
theorem dX11_seed_11 : decode cX11_seed 11 = .ok (.iconst 0, 1) := by decide +kernel
theorem dX11_seed_12 : decode cX11_seed 12 = .ok (.ireturn, 1) := by decide +kernel
theorem dX11_seed_13 : decode cX11_seed 13 = .ok (.aload_n 0, 1) := by decide +kernel
theorem dX11_seed_14 : decode cX11_seed 14 = .ok (.getfield 7, 3) := by decide +kernel
theorem dX11_seed_17 : decode cX11_seed 17 = .ok (.bipush 73, 2) := by decide +kernel
theorem dX11_seed_19 : decode cX11_seed 19 = .ok (.iload_n 1, 1) := by decide +kernel
theorem dX11_seed_20 : decode cX11_seed 20 = .ok (.iastore, 1) := by decide +kernel
theorem dX11_seed_21 : decode cX11_seed 21 = .ok (.iconst 1, 1) := by decide +kernel
theorem dX11_seed_22 : decode cX11_seed 22 = .ok (.ireturn, 1) := by decide +kernel
theorem dX11_keep_0 : decode cX11_keep 0 = .ok (.aload_n 0, 1) := by decide +kernel
theorem dX11_keep_1 : decode cX11_keep 1 = .ok (.iconst 1, 1) := by decide +kernel
theorem dX11_keep_2 : decode cX11_keep 2 = .ok (.putfield 425, 3) := by decide +kernel
theorem dX11_keep_5 : decode cX11_keep 5 = .ok (.aload_n 0, 1) := by decide +kernel
theorem dX11_keep_6 : decode cX11_keep 6 = .ok (.aload_n 0, 1) := by decide +kernel
theorem dX11_keep_7 : decode cX11_keep 7 = .ok (.getfield 137, 3) := by decide +kernel
theorem dX11_keep_10 : decode cX11_keep 10 = .ok (.putfield 429, 3) := by decide +kernel
theorem dX11_keep_13 : decode cX11_keep 13 = .ok (.aload_n 0, 1) := by decide +kernel
theorem dX11_keep_14 : decode cX11_keep 14 = .ok (.getfield 7, 3) := by decide +kernel
theorem dX11_keep_17 : decode cX11_keep 17 = .ok (.aload_n 0, 1) := by decide +kernel
theorem dX11_keep_18 : decode cX11_keep 18 = .ok (.getfield 16, 3) := by decide +kernel
theorem dX11_keep_21 : decode cX11_keep 21 = .ok (.invokestatic 332, 3) := by decide +kernel
theorem dX11_keep_24 : decode cX11_keep 24 = .ok (.aload_n 0, 1) := by decide +kernel
theorem dX11_keep_25 : decode cX11_keep 25 = .ok (.getfield 7, 3) := by decide +kernel
theorem dX11_keep_28 : decode cX11_keep 28 = .ok (.bipush 72, 2) := by decide +kernel
theorem dX11_keep_30 : decode cX11_keep 30 = .ok (.iaload, 1) := by decide +kernel
theorem dX11_keep_31 : decode cX11_keep 31 = .ok (.ireturn, 1) := by decide +kernel
theorem dX11_undo_0 : decode cX11_undo 0 = .ok (.aload_n 0, 1) := by decide +kernel
theorem dX11_undo_1 : decode cX11_undo 1 = .ok (.getfield 425, 3) := by decide +kernel
theorem dX11_undo_4 : decode cX11_undo 4 = .ok (.ifCond .ne 5, 3) := by decide +kernel
theorem dX11_undo_7 : decode cX11_undo 7 = .ok (.iconst 0, 1) := by decide +kernel
theorem dX11_undo_8 : decode cX11_undo 8 = .ok (.ireturn, 1) := by decide +kernel
theorem dX11_undo_9 : decode cX11_undo 9 = .ok (.aload_n 0, 1) := by decide +kernel
theorem dX11_undo_10 : decode cX11_undo 10 = .ok (.getfield 137, 3) := by decide +kernel
theorem dX11_undo_13 : decode cX11_undo 13 = .ok (.aload_n 0, 1) := by decide +kernel
theorem dX11_undo_14 : decode cX11_undo 14 = .ok (.getfield 429, 3) := by decide +kernel
theorem dX11_undo_17 : decode cX11_undo 17 = .ok (.invokestatic 314, 3) := by decide +kernel
theorem dX11_undo_20 : decode cX11_undo 20 = .ok (.istore_n 1, 1) := by decide +kernel
theorem dX11_undo_21 : decode cX11_undo 21 = .ok (.iconst 0, 1) := by decide +kernel
theorem dX11_undo_22 : decode cX11_undo 22 = .ok (.istore_n 2, 1) := by decide +kernel
theorem dX11_undo_23 : decode cX11_undo 23 = .ok (.iload_n 2, 1) := by decide +kernel
theorem dX11_undo_24 : decode cX11_undo 24 = .ok (.iload_n 1, 1) := by decide +kernel
theorem dX11_undo_25 : decode cX11_undo 25 = .ok (.if_icmp .ge 14, 3) := by decide +kernel
theorem dX11_undo_28 : decode cX11_undo 28 = .ok (.aload_n 0, 1) := by decide +kernel
theorem dX11_undo_29 : decode cX11_undo 29 = .ok (.iload_n 2, 1) := by decide +kernel
theorem dX11_undo_30 : decode cX11_undo 30 = .ok (.invokevirtual 148, 3) := by decide +kernel
theorem dX11_undo_33 : decode cX11_undo 33 = .ok (.iinc 2 1, 3) := by decide +kernel
theorem dX11_undo_36 : decode cX11_undo 36 = .ok (.goto (-13), 3) := by decide +kernel
theorem dX11_undo_39 : decode cX11_undo 39 = .ok (.iconst 0, 1) := by decide +kernel
theorem dX11_undo_40 : decode cX11_undo 40 = .ok (.istore_n 2, 1) := by decide +kernel
theorem dX11_undo_41 : decode cX11_undo 41 = .ok (.iload_n 2, 1) := by decide +kernel
theorem dX11_undo_42 : decode cX11_undo 42 = .ok (.iload_n 1, 1) := by decide +kernel
theorem dX11_undo_43 : decode cX11_undo 43 = .ok (.if_icmp .ge 93, 3) := by decide +kernel
theorem dX11_undo_46 : decode cX11_undo 46 = .ok (.aload_n 0, 1) := by decide +kernel
theorem dX11_undo_47 : decode cX11_undo 47 = .ok (.getfield 16, 3) := by decide +kernel
theorem dX11_undo_50 : decode cX11_undo 50 = .ok (.iconst 0, 1) := by decide +kernel
theorem dX11_undo_51 : decode cX11_undo 51 = .ok (.iload_n 2, 1) := by decide +kernel
theorem dX11_undo_52 : decode cX11_undo 52 = .ok (.iadd, 1) := by decide +kernel
theorem dX11_undo_53 : decode cX11_undo 53 = .ok (.iaload, 1) := by decide +kernel
theorem dX11_undo_54 : decode cX11_undo 54 = .ok (.istore_n 3, 1) := by decide +kernel
theorem dX11_undo_55 : decode cX11_undo 55 = .ok (.iload_n 3, 1) := by decide +kernel
theorem dX11_undo_56 : decode cX11_undo 56 = .ok (.iconst (-1), 1) := by decide +kernel
theorem dX11_undo_57 : decode cX11_undo 57 = .ok (.if_icmp .eq 73, 3) := by decide +kernel
theorem dX11_undo_60 : decode cX11_undo 60 = .ok (.aload_n 0, 1) := by decide +kernel
theorem dX11_undo_61 : decode cX11_undo 61 = .ok (.iload_n 3, 1) := by decide +kernel
theorem dX11_undo_62 : decode cX11_undo 62 = .ok (.invokevirtual 152, 3) := by decide +kernel
theorem dX11_undo_65 : decode cX11_undo 65 = .ok (.ifCond .eq 65, 3) := by decide +kernel
theorem dX11_undo_68 : decode cX11_undo 68 = .ok (.aload_n 0, 1) := by decide +kernel
theorem dX11_undo_69 : decode cX11_undo 69 = .ok (.iload_n 3, 1) := by decide +kernel
theorem dX11_undo_70 : decode cX11_undo 70 = .ok (.invokevirtual 155, 3) := by decide +kernel
theorem dX11_undo_73 : decode cX11_undo 73 = .ok (.aload_n 0, 1) := by decide +kernel
theorem dX11_undo_74 : decode cX11_undo 74 = .ok (.getfield 25, 3) := by decide +kernel
theorem dX11_undo_77 : decode cX11_undo 77 = .ok (.iload_n 2, 1) := by decide +kernel
theorem dX11_undo_78 : decode cX11_undo 78 = .ok (.iaload, 1) := by decide +kernel
theorem dX11_undo_79 : decode cX11_undo 79 = .ok (.if_icmp .ge 6, 3) := by decide +kernel
theorem dX11_undo_82 : decode cX11_undo 82 = .ok (.goto 48, 3) := by decide +kernel
theorem dX11_undo_85 : decode cX11_undo 85 = .ok (.aload_n 0, 1) := by decide +kernel
theorem dX11_undo_86 : decode cX11_undo 86 = .ok (.getfield 7, 3) := by decide +kernel
theorem dX11_undo_89 : decode cX11_undo 89 = .ok (.iconst 0, 1) := by decide +kernel
theorem dX11_undo_90 : decode cX11_undo 90 = .ok (.iload_n 2, 1) := by decide +kernel
theorem dX11_undo_91 : decode cX11_undo 91 = .ok (.iadd, 1) := by decide +kernel
theorem dX11_undo_92 : decode cX11_undo 92 = .ok (.iload_n 3, 1) := by decide +kernel
theorem dX11_undo_93 : decode cX11_undo 93 = .ok (.iastore, 1) := by decide +kernel
theorem dX11_undo_94 : decode cX11_undo 94 = .ok (.aload_n 0, 1) := by decide +kernel
theorem dX11_undo_95 : decode cX11_undo 95 = .ok (.getfield 7, 3) := by decide +kernel
theorem dX11_undo_98 : decode cX11_undo 98 = .ok (.bipush 24, 2) := by decide +kernel
theorem dX11_undo_100 : decode cX11_undo 100 = .ok (.iload_n 2, 1) := by decide +kernel
theorem dX11_undo_101 : decode cX11_undo 101 = .ok (.iadd, 1) := by decide +kernel
theorem dX11_undo_102 : decode cX11_undo 102 = .ok (.aload_n 0, 1) := by decide +kernel
theorem dX11_undo_103 : decode cX11_undo 103 = .ok (.getfield 16, 3) := by decide +kernel
theorem dX11_undo_106 : decode cX11_undo 106 = .ok (.bipush 24, 2) := by decide +kernel
theorem dX11_undo_108 : decode cX11_undo 108 = .ok (.iload_n 2, 1) := by decide +kernel
theorem dX11_undo_109 : decode cX11_undo 109 = .ok (.iadd, 1) := by decide +kernel
theorem dX11_undo_110 : decode cX11_undo 110 = .ok (.iaload, 1) := by decide +kernel
theorem dX11_undo_111 : decode cX11_undo 111 = .ok (.iastore, 1) := by decide +kernel
theorem dX11_undo_112 : decode cX11_undo 112 = .ok (.aload_n 0, 1) := by decide +kernel
theorem dX11_undo_113 : decode cX11_undo 113 = .ok (.getfield 7, 3) := by decide +kernel
theorem dX11_undo_116 : decode cX11_undo 116 = .ok (.bipush 48, 2) := by decide +kernel
theorem dX11_undo_118 : decode cX11_undo 118 = .ok (.iload_n 2, 1) := by decide +kernel
theorem dX11_undo_119 : decode cX11_undo 119 = .ok (.iadd, 1) := by decide +kernel
theorem dX11_undo_120 : decode cX11_undo 120 = .ok (.aload_n 0, 1) := by decide +kernel
theorem dX11_undo_121 : decode cX11_undo 121 = .ok (.getfield 16, 3) := by decide +kernel
theorem dX11_undo_124 : decode cX11_undo 124 = .ok (.bipush 48, 2) := by decide +kernel
theorem dX11_undo_126 : decode cX11_undo 126 = .ok (.iload_n 2, 1) := by decide +kernel
theorem dX11_undo_127 : decode cX11_undo 127 = .ok (.iadd, 1) := by decide +kernel
theorem dX11_undo_128 : decode cX11_undo 128 = .ok (.iaload, 1) := by decide +kernel
theorem dX11_undo_129 : decode cX11_undo 129 = .ok (.iastore, 1) := by decide +kernel
theorem dX11_undo_130 : decode cX11_undo 130 = .ok (.iinc 2 1, 3) := by decide +kernel
theorem dX11_undo_133 : decode cX11_undo 133 = .ok (.goto (-92), 3) := by decide +kernel
theorem dX11_undo_136 : decode cX11_undo 136 = .ok (.aload_n 0, 1) := by decide +kernel
theorem dX11_undo_137 : decode cX11_undo 137 = .ok (.getfield 7, 3) := by decide +kernel
theorem dX11_undo_140 : decode cX11_undo 140 = .ok (.bipush 72, 2) := by decide +kernel
theorem dX11_undo_142 : decode cX11_undo 142 = .ok (.aload_n 0, 1) := by decide +kernel
theorem dX11_undo_143 : decode cX11_undo 143 = .ok (.getfield 16, 3) := by decide +kernel
theorem dX11_undo_146 : decode cX11_undo 146 = .ok (.bipush 72, 2) := by decide +kernel
theorem dX11_undo_148 : decode cX11_undo 148 = .ok (.iaload, 1) := by decide +kernel
theorem dX11_undo_149 : decode cX11_undo 149 = .ok (.iastore, 1) := by decide +kernel
theorem dX11_undo_150 : decode cX11_undo 150 = .ok (.aload_n 0, 1) := by decide +kernel
theorem dX11_undo_151 : decode cX11_undo 151 = .ok (.getfield 7, 3) := by decide +kernel
theorem dX11_undo_154 : decode cX11_undo 154 = .ok (.bipush 73, 2) := by decide +kernel
theorem dX11_undo_156 : decode cX11_undo 156 = .ok (.aload_n 0, 1) := by decide +kernel
theorem dX11_undo_157 : decode cX11_undo 157 = .ok (.getfield 16, 3) := by decide +kernel
theorem dX11_undo_160 : decode cX11_undo 160 = .ok (.bipush 73, 2) := by decide +kernel
theorem dX11_undo_162 : decode cX11_undo 162 = .ok (.iaload, 1) := by decide +kernel
theorem dX11_undo_163 : decode cX11_undo 163 = .ok (.iastore, 1) := by decide +kernel
theorem dX11_undo_164 : decode cX11_undo 164 = .ok (.iconst 1, 1) := by decide +kernel
theorem dX11_undo_165 : decode cX11_undo 165 = .ok (.ireturn, 1) := by decide +kernel
theorem dX11_check_0 : decode cX11_check 0 = .ok (.iload_n 1, 1) := by decide +kernel
theorem dX11_check_1 : decode cX11_check 1 = .ok (.iconst 0, 1) := by decide +kernel
theorem dX11_check_2 : decode cX11_check 2 = .ok (.bipush 12, 2) := by decide +kernel
theorem dX11_check_4 : decode cX11_check 4 = .ok (.invokestatic 125, 3) := by decide +kernel
theorem dX11_check_7 : decode cX11_check 7 = .ok (.ifCond .eq 11, 3) := by decide +kernel
theorem dX11_check_10 : decode cX11_check 10 = .ok (.iload_n 1, 1) := by decide +kernel
theorem dX11_check_11 : decode cX11_check 11 = .ok (.aload_n 0, 1) := by decide +kernel
theorem dX11_check_12 : decode cX11_check 12 = .ok (.getfield 158, 3) := by decide +kernel
theorem dX11_check_15 : decode cX11_check 15 = .ok (.if_icmp .le 6, 3) := by decide +kernel
theorem dX11_check_18 : decode cX11_check 18 = .ok (.bipush (-2), 2) := by decide +kernel
theorem dX11_check_20 : decode cX11_check 20 = .ok (.ireturn, 1) := by decide +kernel
theorem dX11_check_21 : decode cX11_check 21 = .ok (.aload_n 0, 1) := by decide +kernel
theorem dX11_check_22 : decode cX11_check 22 = .ok (.iconst 0, 1) := by decide +kernel
theorem dX11_check_23 : decode cX11_check 23 = .ok (.putfield 158, 3) := by decide +kernel
theorem dX11_check_26 : decode cX11_check 26 = .ok (.iconst 0, 1) := by decide +kernel
theorem dX11_check_27 : decode cX11_check 27 = .ok (.istore_n 2, 1) := by decide +kernel
theorem dX11_check_28 : decode cX11_check 28 = .ok (.iload_n 2, 1) := by decide +kernel
theorem dX11_check_29 : decode cX11_check 29 = .ok (.iload_n 1, 1) := by decide +kernel
theorem dX11_check_30 : decode cX11_check 30 = .ok (.if_icmp .ge 38, 3) := by decide +kernel
theorem dX11_check_33 : decode cX11_check 33 = .ok (.aload_n 0, 1) := by decide +kernel
theorem dX11_check_34 : decode cX11_check 34 = .ok (.iload_n 2, 1) := by decide +kernel
theorem dX11_check_35 : decode cX11_check 35 = .ok (.invokevirtual 388, 3) := by decide +kernel
theorem dX11_check_38 : decode cX11_check 38 = .ok (.aload_n 0, 1) := by decide +kernel
theorem dX11_check_39 : decode cX11_check 39 = .ok (.iload_n 2, 1) := by decide +kernel
theorem dX11_check_40 : decode cX11_check 40 = .ok (.invokevirtual 152, 3) := by decide +kernel
theorem dX11_check_43 : decode cX11_check 43 = .ok (.ifCond .eq 11, 3) := by decide +kernel
theorem dX11_check_46 : decode cX11_check 46 = .ok (.aload_n 0, 1) := by decide +kernel
theorem dX11_check_47 : decode cX11_check 47 = .ok (.iload_n 2, 1) := by decide +kernel
theorem dX11_check_48 : decode cX11_check 48 = .ok (.invokevirtual 140, 3) := by decide +kernel
theorem dX11_check_51 : decode cX11_check 51 = .ok (.goto 6, 3) := by decide +kernel
theorem dX11_check_54 : decode cX11_check 54 = .ok (.sipush 255, 3) := by decide +kernel
theorem dX11_check_57 : decode cX11_check 57 = .ok (.if_icmp .eq 5, 3) := by decide +kernel
theorem dX11_check_60 : decode cX11_check 60 = .ok (.iload_n 2, 1) := by decide +kernel
theorem dX11_check_61 : decode cX11_check 61 = .ok (.ireturn, 1) := by decide +kernel
theorem dX11_check_62 : decode cX11_check 62 = .ok (.iinc 2 1, 3) := by decide +kernel
theorem dX11_check_65 : decode cX11_check 65 = .ok (.goto (-37), 3) := by decide +kernel
theorem dX11_check_68 : decode cX11_check 68 = .ok (.iconst (-1), 1) := by decide +kernel
theorem dX11_check_69 : decode cX11_check 69 = .ok (.ireturn, 1) := by decide +kernel
theorem dX11_sumUp_0 : decode cX11_sumUp 0 = .ok (.iconst 0, 1) := by decide +kernel
theorem dX11_sumUp_1 : decode cX11_sumUp 1 = .ok (.istore_n 2, 1) := by decide +kernel
theorem dX11_sumUp_2 : decode cX11_sumUp 2 = .ok (.iconst 0, 1) := by decide +kernel
theorem dX11_sumUp_3 : decode cX11_sumUp 3 = .ok (.istore_n 3, 1) := by decide +kernel
theorem dX11_sumUp_4 : decode cX11_sumUp 4 = .ok (.iload_n 3, 1) := by decide +kernel
theorem dX11_sumUp_5 : decode cX11_sumUp 5 = .ok (.bipush 12, 2) := by decide +kernel
theorem dX11_sumUp_7 : decode cX11_sumUp 7 = .ok (.if_icmp .ge 38, 3) := by decide +kernel
theorem dX11_sumUp_10 : decode cX11_sumUp 10 = .ok (.aload_n 0, 1) := by decide +kernel
theorem dX11_sumUp_11 : decode cX11_sumUp 11 = .ok (.iload_n 3, 1) := by decide +kernel
theorem dX11_sumUp_12 : decode cX11_sumUp 12 = .ok (.invokevirtual 152, 3) := by decide +kernel
theorem dX11_sumUp_15 : decode cX11_sumUp 15 = .ok (.ifCond .eq 24, 3) := by decide +kernel
theorem dX11_sumUp_18 : decode cX11_sumUp 18 = .ok (.iload_n 2, 1) := by decide +kernel
theorem dX11_sumUp_19 : decode cX11_sumUp 19 = .ok (.iload_n 1, 1) := by decide +kernel
theorem dX11_sumUp_20 : decode cX11_sumUp 20 = .ok (.ifCond .eq 11, 3) := by decide +kernel
theorem dX11_sumUp_23 : decode cX11_sumUp 23 = .ok (.aload_n 0, 1) := by decide +kernel
theorem dX11_sumUp_24 : decode cX11_sumUp 24 = .ok (.iload_n 3, 1) := by decide +kernel
theorem dX11_sumUp_25 : decode cX11_sumUp 25 = .ok (.invokevirtual 140, 3) := by decide +kernel
theorem dX11_sumUp_28 : decode cX11_sumUp 28 = .ok (.goto 9, 3) := by decide +kernel
theorem dX11_sumUp_31 : decode cX11_sumUp 31 = .ok (.aload_n 0, 1) := by decide +kernel
theorem dX11_sumUp_32 : decode cX11_sumUp 32 = .ok (.getfield 19, 3) := by decide +kernel
theorem dX11_sumUp_35 : decode cX11_sumUp 35 = .ok (.iload_n 3, 1) := by decide +kernel
theorem dX11_sumUp_36 : decode cX11_sumUp 36 = .ok (.iaload, 1) := by decide +kernel
theorem dX11_sumUp_37 : decode cX11_sumUp 37 = .ok (.iadd, 1) := by decide +kernel
theorem dX11_sumUp_38 : decode cX11_sumUp 38 = .ok (.istore_n 2, 1) := by decide +kernel
theorem dX11_sumUp_39 : decode cX11_sumUp 39 = .ok (.iinc 3 1, 3) := by decide +kernel
theorem dX11_sumUp_42 : decode cX11_sumUp 42 = .ok (.goto (-38), 3) := by decide +kernel
theorem dX11_sumUp_45 : decode cX11_sumUp 45 = .ok (.iload_n 2, 1) := by decide +kernel
theorem dX11_sumUp_46 : decode cX11_sumUp 46 = .ok (.ireturn, 1) := by decide +kernel
theorem dX11_count_0 : decode cX11_count 0 = .ok (.iload_n 1, 1) := by decide +kernel
theorem dX11_count_1 : decode cX11_count 1 = .ok (.tableswitch 114 0 9 #[55, 63, 68, 73, 79, 84, 89, 94, 102, 108], 55) := by decide +kernel
theorem dX11_count_56 : decode cX11_count 56 = .ok (.aload_n 0, 1) := by decide +kernel
theorem dX11_count_57 : decode cX11_count 57 = .ok (.getfield 7, 3) := by decide +kernel
theorem dX11_count_60 : decode cX11_count 60 = .ok (.bipush 72, 2) := by decide +kernel
theorem dX11_count_62 : decode cX11_count 62 = .ok (.iaload, 1) := by decide +kernel
theorem dX11_count_63 : decode cX11_count 63 = .ok (.ireturn, 1) := by decide +kernel
theorem dX11_count_64 : decode cX11_count 64 = .ok (.aload_n 0, 1) := by decide +kernel
theorem dX11_count_65 : decode cX11_count 65 = .ok (.getfield 129, 3) := by decide +kernel
theorem dX11_count_68 : decode cX11_count 68 = .ok (.ireturn, 1) := by decide +kernel
theorem dX11_count_69 : decode cX11_count 69 = .ok (.aload_n 0, 1) := by decide +kernel
theorem dX11_count_70 : decode cX11_count 70 = .ok (.getfield 137, 3) := by decide +kernel
theorem dX11_count_73 : decode cX11_count 73 = .ok (.ireturn, 1) := by decide +kernel
theorem dX11_count_74 : decode cX11_count 74 = .ok (.aload_n 0, 1) := by decide +kernel
theorem dX11_count_75 : decode cX11_count 75 = .ok (.iconst (-1), 1) := by decide +kernel
theorem dX11_count_76 : decode cX11_count 76 = .ok (.invokevirtual 286, 3) := by decide +kernel
theorem dX11_count_79 : decode cX11_count 79 = .ok (.ireturn, 1) := by decide +kernel
theorem dX11_count_80 : decode cX11_count 80 = .ok (.aload_n 0, 1) := by decide +kernel
theorem dX11_count_81 : decode cX11_count 81 = .ok (.invokevirtual 336, 3) := by decide +kernel
theorem dX11_count_84 : decode cX11_count 84 = .ok (.ireturn, 1) := by decide +kernel
theorem dX11_count_85 : decode cX11_count 85 = .ok (.aload_n 0, 1) := by decide +kernel
theorem dX11_count_86 : decode cX11_count 86 = .ok (.getfield 256, 3) := by decide +kernel
theorem dX11_count_89 : decode cX11_count 89 = .ok (.ireturn, 1) := by decide +kernel
theorem dX11_count_90 : decode cX11_count 90 = .ok (.aload_n 0, 1) := by decide +kernel
theorem dX11_count_91 : decode cX11_count 91 = .ok (.getfield 158, 3) := by decide +kernel
theorem dX11_count_94 : decode cX11_count 94 = .ok (.ireturn, 1) := by decide +kernel
theorem dX11_count_95 : decode cX11_count 95 = .ok (.aload_n 0, 1) := by decide +kernel
theorem dX11_count_96 : decode cX11_count 96 = .ok (.getfield 7, 3) := by decide +kernel
theorem dX11_count_99 : decode cX11_count 99 = .ok (.bipush 73, 2) := by decide +kernel
theorem dX11_count_101 : decode cX11_count 101 = .ok (.iaload, 1) := by decide +kernel
theorem dX11_count_102 : decode cX11_count 102 = .ok (.ireturn, 1) := by decide +kernel
theorem dX11_count_103 : decode cX11_count 103 = .ok (.aload_n 0, 1) := by decide +kernel
theorem dX11_count_104 : decode cX11_count 104 = .ok (.iconst 1, 1) := by decide +kernel
theorem dX11_count_105 : decode cX11_count 105 = .ok (.invokevirtual 432, 3) := by decide +kernel
theorem dX11_count_108 : decode cX11_count 108 = .ok (.ireturn, 1) := by decide +kernel
theorem dX11_count_109 : decode cX11_count 109 = .ok (.aload_n 0, 1) := by decide +kernel
theorem dX11_count_110 : decode cX11_count 110 = .ok (.iconst 0, 1) := by decide +kernel
theorem dX11_count_111 : decode cX11_count 111 = .ok (.invokevirtual 432, 3) := by decide +kernel
theorem dX11_count_114 : decode cX11_count 114 = .ok (.ireturn, 1) := by decide +kernel
theorem dX11_count_115 : decode cX11_count 115 = .ok (.iconst (-1), 1) := by decide +kernel
theorem dX11_count_116 : decode cX11_count 116 = .ok (.ireturn, 1) := by decide +kernel

theorem dX10_init_0 : decode cX10_init 0 = .ok (.aload_n 0, 1) := by decide +kernel
theorem dX10_init_1 : decode cX10_init 1 = .ok (.invokespecial 1, 3) := by decide +kernel
theorem dX10_init_4 : decode cX10_init 4 = .ok (.aload_n 0, 1) := by decide +kernel
theorem dX10_init_5 : decode cX10_init 5 = .ok (.new 7, 3) := by decide +kernel
theorem dX10_init_8 : decode cX10_init 8 = .ok (.dup, 1) := by decide +kernel
theorem dX10_init_9 : decode cX10_init 9 = .ok (.invokespecial 9, 3) := by decide +kernel
theorem dX10_init_12 : decode cX10_init 12 = .ok (.putfield 10, 3) := by decide +kernel
theorem dX10_init_15 : decode cX10_init 15 = .ok (.aload_n 0, 1) := by decide +kernel
theorem dX10_init_16 : decode cX10_init 16 = .ok (.new 16, 3) := by decide +kernel
theorem dX10_init_19 : decode cX10_init 19 = .ok (.dup, 1) := by decide +kernel
theorem dX10_init_20 : decode cX10_init 20 = .ok (.aload_n 0, 1) := by decide +kernel
theorem dX10_init_21 : decode cX10_init 21 = .ok (.getfield 10, 3) := by decide +kernel
theorem dX10_init_24 : decode cX10_init 24 = .ok (.invokespecial 18, 3) := by decide +kernel
theorem dX10_init_27 : decode cX10_init 27 = .ok (.putfield 21, 3) := by decide +kernel
theorem dX10_init_30 : decode cX10_init 30 = .ok (.aload_n 0, 1) := by decide +kernel
theorem dX10_init_31 : decode cX10_init 31 = .ok (.new 25, 3) := by decide +kernel
theorem dX10_init_34 : decode cX10_init 34 = .ok (.dup, 1) := by decide +kernel
theorem dX10_init_35 : decode cX10_init 35 = .ok (.aload_n 0, 1) := by decide +kernel
theorem dX10_init_36 : decode cX10_init 36 = .ok (.getfield 21, 3) := by decide +kernel
theorem dX10_init_39 : decode cX10_init 39 = .ok (.invokespecial 27, 3) := by decide +kernel
theorem dX10_init_42 : decode cX10_init 42 = .ok (.putfield 30, 3) := by decide +kernel
theorem dX10_init_45 : decode cX10_init 45 = .ok (.aload_n 0, 1) := by decide +kernel
theorem dX10_init_46 : decode cX10_init 46 = .ok (.new 34, 3) := by decide +kernel
theorem dX10_init_49 : decode cX10_init 49 = .ok (.dup, 1) := by decide +kernel
theorem dX10_init_50 : decode cX10_init 50 = .ok (.aload_n 0, 1) := by decide +kernel
theorem dX10_init_51 : decode cX10_init 51 = .ok (.getfield 21, 3) := by decide +kernel
theorem dX10_init_54 : decode cX10_init 54 = .ok (.invokespecial 36, 3) := by decide +kernel
theorem dX10_init_57 : decode cX10_init 57 = .ok (.putfield 37, 3) := by decide +kernel
theorem dX10_init_60 : decode cX10_init 60 = .ok (.aload_n 0, 1) := by decide +kernel
theorem dX10_init_61 : decode cX10_init 61 = .ok (.new 41, 3) := by decide +kernel
theorem dX10_init_64 : decode cX10_init 64 = .ok (.dup, 1) := by decide +kernel
theorem dX10_init_65 : decode cX10_init 65 = .ok (.invokespecial 43, 3) := by decide +kernel
theorem dX10_init_68 : decode cX10_init 68 = .ok (.putfield 44, 3) := by decide +kernel
theorem dX10_init_71 : decode cX10_init 71 = .ok (.aload_n 0, 1) := by decide +kernel
theorem dX10_init_72 : decode cX10_init 72 = .ok (.new 48, 3) := by decide +kernel
theorem dX10_init_75 : decode cX10_init 75 = .ok (.dup, 1) := by decide +kernel
theorem dX10_init_76 : decode cX10_init 76 = .ok (.aload_n 0, 1) := by decide +kernel
theorem dX10_init_77 : decode cX10_init 77 = .ok (.getfield 10, 3) := by decide +kernel
theorem dX10_init_80 : decode cX10_init 80 = .ok (.invokespecial 50, 3) := by decide +kernel
theorem dX10_init_83 : decode cX10_init 83 = .ok (.putfield 51, 3) := by decide +kernel
theorem dX10_init_86 : decode cX10_init 86 = .ok (.aload_n 0, 1) := by decide +kernel
theorem dX10_init_87 : decode cX10_init 87 = .ok (.new 55, 3) := by decide +kernel
theorem dX10_init_90 : decode cX10_init 90 = .ok (.dup, 1) := by decide +kernel
theorem dX10_init_91 : decode cX10_init 91 = .ok (.aload_n 0, 1) := by decide +kernel
theorem dX10_init_92 : decode cX10_init 92 = .ok (.getfield 10, 3) := by decide +kernel
theorem dX10_init_95 : decode cX10_init 95 = .ok (.invokespecial 57, 3) := by decide +kernel
theorem dX10_init_98 : decode cX10_init 98 = .ok (.putfield 58, 3) := by decide +kernel
theorem dX10_init_101 : decode cX10_init 101 = .ok (.aload_n 0, 1) := by decide +kernel
theorem dX10_init_102 : decode cX10_init 102 = .ok (.new 62, 3) := by decide +kernel
theorem dX10_init_105 : decode cX10_init 105 = .ok (.dup, 1) := by decide +kernel
theorem dX10_init_106 : decode cX10_init 106 = .ok (.invokespecial 64, 3) := by decide +kernel
theorem dX10_init_109 : decode cX10_init 109 = .ok (.putfield 65, 3) := by decide +kernel
theorem dX10_init_112 : decode cX10_init 112 = .ok (.aload_n 0, 1) := by decide +kernel
theorem dX10_init_113 : decode cX10_init 113 = .ok (.new 62, 3) := by decide +kernel
theorem dX10_init_116 : decode cX10_init 116 = .ok (.dup, 1) := by decide +kernel
theorem dX10_init_117 : decode cX10_init 117 = .ok (.invokespecial 64, 3) := by decide +kernel
theorem dX10_init_120 : decode cX10_init 120 = .ok (.putfield 69, 3) := by decide +kernel
theorem dX10_init_123 : decode cX10_init 123 = .ok (.aload_n 0, 1) := by decide +kernel
theorem dX10_init_124 : decode cX10_init 124 = .ok (.new 62, 3) := by decide +kernel
theorem dX10_init_127 : decode cX10_init 127 = .ok (.dup, 1) := by decide +kernel
theorem dX10_init_128 : decode cX10_init 128 = .ok (.invokespecial 64, 3) := by decide +kernel
theorem dX10_init_131 : decode cX10_init 131 = .ok (.putfield 72, 3) := by decide +kernel
theorem dX10_init_134 : decode cX10_init 134 = .ok (.aload_n 0, 1) := by decide +kernel
theorem dX10_init_135 : decode cX10_init 135 = .ok (.new 62, 3) := by decide +kernel
theorem dX10_init_138 : decode cX10_init 138 = .ok (.dup, 1) := by decide +kernel
theorem dX10_init_139 : decode cX10_init 139 = .ok (.invokespecial 64, 3) := by decide +kernel
theorem dX10_init_142 : decode cX10_init 142 = .ok (.putfield 75, 3) := by decide +kernel
theorem dX10_init_145 : decode cX10_init 145 = .ok (.aload_n 0, 1) := by decide +kernel
theorem dX10_init_146 : decode cX10_init 146 = .ok (.new 78, 3) := by decide +kernel
theorem dX10_init_149 : decode cX10_init 149 = .ok (.dup, 1) := by decide +kernel
theorem dX10_init_150 : decode cX10_init 150 = .ok (.invokespecial 80, 3) := by decide +kernel
theorem dX10_init_153 : decode cX10_init 153 = .ok (.putfield 81, 3) := by decide +kernel
theorem dX10_init_156 : decode cX10_init 156 = .ok (.aload_n 0, 1) := by decide +kernel
theorem dX10_init_157 : decode cX10_init 157 = .ok (.new 78, 3) := by decide +kernel
theorem dX10_init_160 : decode cX10_init 160 = .ok (.dup, 1) := by decide +kernel
theorem dX10_init_161 : decode cX10_init 161 = .ok (.invokespecial 80, 3) := by decide +kernel
theorem dX10_init_164 : decode cX10_init 164 = .ok (.putfield 85, 3) := by decide +kernel
theorem dX10_init_167 : decode cX10_init 167 = .ok (.aload_n 0, 1) := by decide +kernel
theorem dX10_init_168 : decode cX10_init 168 = .ok (.new 88, 3) := by decide +kernel
theorem dX10_init_171 : decode cX10_init 171 = .ok (.dup, 1) := by decide +kernel
theorem dX10_init_172 : decode cX10_init 172 = .ok (.aload_n 0, 1) := by decide +kernel
theorem dX10_init_173 : decode cX10_init 173 = .ok (.getfield 21, 3) := by decide +kernel
theorem dX10_init_176 : decode cX10_init 176 = .ok (.aload_n 0, 1) := by decide +kernel
theorem dX10_init_177 : decode cX10_init 177 = .ok (.getfield 85, 3) := by decide +kernel
theorem dX10_init_180 : decode cX10_init 180 = .ok (.invokespecial 90, 3) := by decide +kernel
theorem dX10_init_183 : decode cX10_init 183 = .ok (.putfield 93, 3) := by decide +kernel
theorem dX10_init_186 : decode cX10_init 186 = .ok (.aload_n 0, 1) := by decide +kernel
theorem dX10_init_187 : decode cX10_init 187 = .ok (.iconst 0, 1) := by decide +kernel
theorem dX10_init_188 : decode cX10_init 188 = .ok (.putfield 97, 3) := by decide +kernel
theorem dX10_init_191 : decode cX10_init 191 = .ok (.return_, 1) := by decide +kernel
theorem dX10_put_0 : decode cX10_put 0 = .ok (.aload_n 0, 1) := by decide +kernel
theorem dX10_put_1 : decode cX10_put 1 = .ok (.getfield 72, 3) := by decide +kernel
theorem dX10_put_4 : decode cX10_put 4 = .ok (.iload_n 1, 1) := by decide +kernel
theorem dX10_put_5 : decode cX10_put 5 = .ok (.invokevirtual 101, 3) := by decide +kernel
theorem dX10_put_8 : decode cX10_put 8 = .ok (.ifCond .ne 5, 3) := by decide +kernel
theorem dX10_put_11 : decode cX10_put 11 = .ok (.iconst 0, 1) := by decide +kernel
theorem dX10_put_12 : decode cX10_put 12 = .ok (.ireturn, 1) := by decide +kernel
theorem dX10_put_13 : decode cX10_put 13 = .ok (.iload_n 2, 1) := by decide +kernel
theorem dX10_put_14 : decode cX10_put 14 = .ok (.iconst (-1), 1) := by decide +kernel
theorem dX10_put_15 : decode cX10_put 15 = .ok (.if_icmp .ne 13, 3) := by decide +kernel
theorem dX10_put_18 : decode cX10_put 18 = .ok (.aload_n 0, 1) := by decide +kernel
theorem dX10_put_19 : decode cX10_put 19 = .ok (.getfield 72, 3) := by decide +kernel
theorem dX10_put_22 : decode cX10_put 22 = .ok (.iload_n 1, 1) := by decide +kernel
theorem dX10_put_23 : decode cX10_put 23 = .ok (.invokevirtual 105, 3) := by decide +kernel
theorem dX10_put_26 : decode cX10_put 26 = .ok (.iconst 1, 1) := by decide +kernel
theorem dX10_put_27 : decode cX10_put 27 = .ok (.ireturn, 1) := by decide +kernel
theorem dX10_put_28 : decode cX10_put 28 = .ok (.aload_n 0, 1) := by decide +kernel
theorem dX10_put_29 : decode cX10_put 29 = .ok (.getfield 72, 3) := by decide +kernel
theorem dX10_put_32 : decode cX10_put 32 = .ok (.iload_n 2, 1) := by decide +kernel
theorem dX10_put_33 : decode cX10_put 33 = .ok (.invokevirtual 109, 3) := by decide +kernel
theorem dX10_put_36 : decode cX10_put 36 = .ok (.ifCond .ne 5, 3) := by decide +kernel
theorem dX10_put_39 : decode cX10_put 39 = .ok (.iconst 0, 1) := by decide +kernel
theorem dX10_put_40 : decode cX10_put 40 = .ok (.ireturn, 1) := by decide +kernel
theorem dX10_put_41 : decode cX10_put 41 = .ok (.aload_n 0, 1) := by decide +kernel
theorem dX10_put_42 : decode cX10_put 42 = .ok (.getfield 72, 3) := by decide +kernel
theorem dX10_put_45 : decode cX10_put 45 = .ok (.getfield 112, 3) := by decide +kernel
theorem dX10_put_48 : decode cX10_put 48 = .ok (.iload_n 1, 1) := by decide +kernel
theorem dX10_put_49 : decode cX10_put 49 = .ok (.iaload, 1) := by decide +kernel
theorem dX10_put_50 : decode cX10_put 50 = .ok (.iload_n 2, 1) := by decide +kernel
theorem dX10_put_51 : decode cX10_put 51 = .ok (.if_icmp .ne 5, 3) := by decide +kernel
theorem dX10_put_54 : decode cX10_put 54 = .ok (.iconst 1, 1) := by decide +kernel
theorem dX10_put_55 : decode cX10_put 55 = .ok (.ireturn, 1) := by decide +kernel
theorem dX10_put_56 : decode cX10_put 56 = .ok (.aload_n 0, 1) := by decide +kernel
theorem dX10_put_57 : decode cX10_put 57 = .ok (.getfield 72, 3) := by decide +kernel
theorem dX10_put_60 : decode cX10_put 60 = .ok (.iload_n 1, 1) := by decide +kernel
theorem dX10_put_61 : decode cX10_put 61 = .ok (.iload_n 2, 1) := by decide +kernel
theorem dX10_put_62 : decode cX10_put 62 = .ok (.invokevirtual 116, 3) := by decide +kernel
theorem dX10_put_65 : decode cX10_put 65 = .ok (.ifCond .ne 5, 3) := by decide +kernel
theorem dX10_put_68 : decode cX10_put 68 = .ok (.iconst 0, 1) := by decide +kernel
theorem dX10_put_69 : decode cX10_put 69 = .ok (.ireturn, 1) := by decide +kernel
theorem dX10_put_70 : decode cX10_put 70 = .ok (.aload_n 0, 1) := by decide +kernel
theorem dX10_put_71 : decode cX10_put 71 = .ok (.getfield 72, 3) := by decide +kernel
theorem dX10_put_74 : decode cX10_put 74 = .ok (.iload_n 1, 1) := by decide +kernel
theorem dX10_put_75 : decode cX10_put 75 = .ok (.iload_n 2, 1) := by decide +kernel
theorem dX10_put_76 : decode cX10_put 76 = .ok (.invokevirtual 120, 3) := by decide +kernel
theorem dX10_put_79 : decode cX10_put 79 = .ok (.iconst 1, 1) := by decide +kernel
theorem dX10_put_80 : decode cX10_put 80 = .ok (.ireturn, 1) := by decide +kernel
theorem dX10_feed_0 : decode cX10_feed 0 = .ok (.aload_n 0, 1) := by decide +kernel
theorem dX10_feed_1 : decode cX10_feed 1 = .ok (.getfield 10, 3) := by decide +kernel
theorem dX10_feed_4 : decode cX10_feed 4 = .ok (.invokevirtual 124, 3) := by decide +kernel
theorem dX10_feed_7 : decode cX10_feed 7 = .ok (.ifCond .ne 5, 3) := by decide +kernel
theorem dX10_feed_10 : decode cX10_feed 10 = .ok (.iconst (-1), 1) := by decide +kernel
theorem dX10_feed_11 : decode cX10_feed 11 = .ok (.ireturn, 1) := by decide +kernel
theorem dX10_feed_12 : decode cX10_feed 12 = .ok (.aload_n 0, 1) := by decide +kernel
theorem dX10_feed_13 : decode cX10_feed 13 = .ok (.getfield 10, 3) := by decide +kernel
theorem dX10_feed_16 : decode cX10_feed 16 = .ok (.iload_n 1, 1) := by decide +kernel
theorem dX10_feed_17 : decode cX10_feed 17 = .ok (.invokevirtual 128, 3) := by decide +kernel
theorem dX10_feed_20 : decode cX10_feed 20 = .ok (.aload_n 0, 1) := by decide +kernel
theorem dX10_feed_21 : decode cX10_feed 21 = .ok (.getfield 10, 3) := by decide +kernel
theorem dX10_feed_24 : decode cX10_feed 24 = .ok (.iload_n 2, 1) := by decide +kernel
theorem dX10_feed_25 : decode cX10_feed 25 = .ok (.invokevirtual 128, 3) := by decide +kernel
theorem dX10_feed_28 : decode cX10_feed 28 = .ok (.aload_n 0, 1) := by decide +kernel
theorem dX10_feed_29 : decode cX10_feed 29 = .ok (.getfield 10, 3) := by decide +kernel
theorem dX10_feed_32 : decode cX10_feed 32 = .ok (.iload_n 3, 1) := by decide +kernel
theorem dX10_feed_33 : decode cX10_feed 33 = .ok (.invokevirtual 128, 3) := by decide +kernel
theorem dX10_feed_36 : decode cX10_feed 36 = .ok (.aload_n 0, 1) := by decide +kernel
theorem dX10_feed_37 : decode cX10_feed 37 = .ok (.getfield 10, 3) := by decide +kernel
theorem dX10_feed_40 : decode cX10_feed 40 = .ok (.iload 4, 2) := by decide +kernel
theorem dX10_feed_42 : decode cX10_feed 42 = .ok (.invokevirtual 128, 3) := by decide +kernel
theorem dX10_feed_45 : decode cX10_feed 45 = .ok (.aload_n 0, 1) := by decide +kernel
theorem dX10_feed_46 : decode cX10_feed 46 = .ok (.getfield 10, 3) := by decide +kernel
theorem dX10_feed_49 : decode cX10_feed 49 = .ok (.iload 5, 2) := by decide +kernel
theorem dX10_feed_51 : decode cX10_feed 51 = .ok (.invokevirtual 128, 3) := by decide +kernel
theorem dX10_feed_54 : decode cX10_feed 54 = .ok (.aload_n 0, 1) := by decide +kernel
theorem dX10_feed_55 : decode cX10_feed 55 = .ok (.getfield 10, 3) := by decide +kernel
theorem dX10_feed_58 : decode cX10_feed 58 = .ok (.getfield 131, 3) := by decide +kernel
theorem dX10_feed_61 : decode cX10_feed 61 = .ok (.ireturn, 1) := by decide +kernel
theorem dX10_law_0 : decode cX10_law 0 = .ok (.iload_n 1, 1) := by decide +kernel
theorem dX10_law_1 : decode cX10_law 1 = .ok (.iconst 1, 1) := by decide +kernel
theorem dX10_law_2 : decode cX10_law 2 = .ok (.sipush 240, 3) := by decide +kernel
theorem dX10_law_5 : decode cX10_law 5 = .ok (.invokestatic 135, 3) := by decide +kernel
theorem dX10_law_8 : decode cX10_law 8 = .ok (.ifCond .eq 14, 3) := by decide +kernel
theorem dX10_law_11 : decode cX10_law 11 = .ok (.aload_n 0, 1) := by decide +kernel
theorem dX10_law_12 : decode cX10_law 12 = .ok (.getfield 10, 3) := by decide +kernel
theorem dX10_law_15 : decode cX10_law 15 = .ok (.iload_n 1, 1) := by decide +kernel
theorem dX10_law_16 : decode cX10_law 16 = .ok (.invokevirtual 139, 3) := by decide +kernel
theorem dX10_law_19 : decode cX10_law 19 = .ok (.ifCond .ne 5, 3) := by decide +kernel
theorem dX10_law_22 : decode cX10_law 22 = .ok (.iconst (-1), 1) := by decide +kernel
theorem dX10_law_23 : decode cX10_law 23 = .ok (.ireturn, 1) := by decide +kernel
theorem dX10_law_24 : decode cX10_law 24 = .ok (.aload_n 0, 1) := by decide +kernel
theorem dX10_law_25 : decode cX10_law 25 = .ok (.getfield 93, 3) := by decide +kernel
theorem dX10_law_28 : decode cX10_law 28 = .ok (.iload_n 1, 1) := by decide +kernel
theorem dX10_law_29 : decode cX10_law 29 = .ok (.aload_n 0, 1) := by decide +kernel
theorem dX10_law_30 : decode cX10_law 30 = .ok (.getfield 85, 3) := by decide +kernel
theorem dX10_law_33 : decode cX10_law 33 = .ok (.invokevirtual 142, 3) := by decide +kernel
theorem dX10_law_36 : decode cX10_law 36 = .ok (.istore_n 2, 1) := by decide +kernel
theorem dX10_law_37 : decode cX10_law 37 = .ok (.aload_n 0, 1) := by decide +kernel
theorem dX10_law_38 : decode cX10_law 38 = .ok (.getfield 10, 3) := by decide +kernel
theorem dX10_law_41 : decode cX10_law 41 = .ok (.invokevirtual 146, 3) := by decide +kernel
theorem dX10_law_44 : decode cX10_law 44 = .ok (.iload_n 2, 1) := by decide +kernel
theorem dX10_law_45 : decode cX10_law 45 = .ok (.ifCond .le 21, 3) := by decide +kernel
theorem dX10_law_48 : decode cX10_law 48 = .ok (.aload_n 0, 1) := by decide +kernel
theorem dX10_law_49 : decode cX10_law 49 = .ok (.getfield 81, 3) := by decide +kernel
theorem dX10_law_52 : decode cX10_law 52 = .ok (.astore_n 3, 1) := by decide +kernel
theorem dX10_law_53 : decode cX10_law 53 = .ok (.aload_n 0, 1) := by decide +kernel
theorem dX10_law_54 : decode cX10_law 54 = .ok (.aload_n 0, 1) := by decide +kernel
theorem dX10_law_55 : decode cX10_law 55 = .ok (.getfield 85, 3) := by decide +kernel
theorem dX10_law_58 : decode cX10_law 58 = .ok (.putfield 81, 3) := by decide +kernel
theorem dX10_law_61 : decode cX10_law 61 = .ok (.aload_n 0, 1) := by decide +kernel
theorem dX10_law_62 : decode cX10_law 62 = .ok (.aload_n 3, 1) := by decide +kernel
theorem dX10_law_63 : decode cX10_law 63 = .ok (.putfield 85, 3) := by decide +kernel
theorem dX10_law_66 : decode cX10_law 66 = .ok (.iload_n 2, 1) := by decide +kernel
theorem dX10_law_67 : decode cX10_law 67 = .ok (.ireturn, 1) := by decide +kernel
theorem dX10_cabinet_0 : decode cX10_cabinet 0 = .ok (.iload_n 1, 1) := by decide +kernel
theorem dX10_cabinet_1 : decode cX10_cabinet 1 = .ok (.iconst 1, 1) := by decide +kernel
theorem dX10_cabinet_2 : decode cX10_cabinet 2 = .ok (.sipush 160, 3) := by decide +kernel
theorem dX10_cabinet_5 : decode cX10_cabinet 5 = .ok (.invokestatic 135, 3) := by decide +kernel
theorem dX10_cabinet_8 : decode cX10_cabinet 8 = .ok (.ifCond .eq 14, 3) := by decide +kernel
theorem dX10_cabinet_11 : decode cX10_cabinet 11 = .ok (.aload_n 0, 1) := by decide +kernel
theorem dX10_cabinet_12 : decode cX10_cabinet 12 = .ok (.getfield 10, 3) := by decide +kernel
theorem dX10_cabinet_15 : decode cX10_cabinet 15 = .ok (.iload_n 1, 1) := by decide +kernel
theorem dX10_cabinet_16 : decode cX10_cabinet 16 = .ok (.invokevirtual 139, 3) := by decide +kernel
theorem dX10_cabinet_19 : decode cX10_cabinet 19 = .ok (.ifCond .ne 5, 3) := by decide +kernel
theorem dX10_cabinet_22 : decode cX10_cabinet 22 = .ok (.iconst (-1), 1) := by decide +kernel
theorem dX10_cabinet_23 : decode cX10_cabinet 23 = .ok (.ireturn, 1) := by decide +kernel
theorem dX10_cabinet_24 : decode cX10_cabinet 24 = .ok (.aload_n 0, 1) := by decide +kernel
theorem dX10_cabinet_25 : decode cX10_cabinet 25 = .ok (.getfield 30, 3) := by decide +kernel
theorem dX10_cabinet_28 : decode cX10_cabinet 28 = .ok (.iload_n 1, 1) := by decide +kernel
theorem dX10_cabinet_29 : decode cX10_cabinet 29 = .ok (.aload_n 0, 1) := by decide +kernel
theorem dX10_cabinet_30 : decode cX10_cabinet 30 = .ok (.getfield 75, 3) := by decide +kernel
theorem dX10_cabinet_33 : decode cX10_cabinet 33 = .ok (.invokevirtual 149, 3) := by decide +kernel
theorem dX10_cabinet_36 : decode cX10_cabinet 36 = .ok (.istore_n 2, 1) := by decide +kernel
theorem dX10_cabinet_37 : decode cX10_cabinet 37 = .ok (.aload_n 0, 1) := by decide +kernel
theorem dX10_cabinet_38 : decode cX10_cabinet 38 = .ok (.getfield 10, 3) := by decide +kernel
theorem dX10_cabinet_41 : decode cX10_cabinet 41 = .ok (.invokevirtual 146, 3) := by decide +kernel
theorem dX10_cabinet_44 : decode cX10_cabinet 44 = .ok (.iload_n 2, 1) := by decide +kernel
theorem dX10_cabinet_45 : decode cX10_cabinet 45 = .ok (.ifCond .le 32, 3) := by decide +kernel
theorem dX10_cabinet_48 : decode cX10_cabinet 48 = .ok (.aload_n 0, 1) := by decide +kernel
theorem dX10_cabinet_49 : decode cX10_cabinet 49 = .ok (.getfield 75, 3) := by decide +kernel
theorem dX10_cabinet_52 : decode cX10_cabinet 52 = .ok (.aload_n 0, 1) := by decide +kernel
theorem dX10_cabinet_53 : decode cX10_cabinet 53 = .ok (.getfield 72, 3) := by decide +kernel
theorem dX10_cabinet_56 : decode cX10_cabinet 56 = .ok (.invokevirtual 152, 3) := by decide +kernel
theorem dX10_cabinet_59 : decode cX10_cabinet 59 = .ok (.aload_n 0, 1) := by decide +kernel
theorem dX10_cabinet_60 : decode cX10_cabinet 60 = .ok (.getfield 72, 3) := by decide +kernel
theorem dX10_cabinet_63 : decode cX10_cabinet 63 = .ok (.astore_n 3, 1) := by decide +kernel
theorem dX10_cabinet_64 : decode cX10_cabinet 64 = .ok (.aload_n 0, 1) := by decide +kernel
theorem dX10_cabinet_65 : decode cX10_cabinet 65 = .ok (.aload_n 0, 1) := by decide +kernel
theorem dX10_cabinet_66 : decode cX10_cabinet 66 = .ok (.getfield 75, 3) := by decide +kernel
theorem dX10_cabinet_69 : decode cX10_cabinet 69 = .ok (.putfield 72, 3) := by decide +kernel
theorem dX10_cabinet_72 : decode cX10_cabinet 72 = .ok (.aload_n 0, 1) := by decide +kernel
theorem dX10_cabinet_73 : decode cX10_cabinet 73 = .ok (.aload_n 3, 1) := by decide +kernel
theorem dX10_cabinet_74 : decode cX10_cabinet 74 = .ok (.putfield 75, 3) := by decide +kernel
theorem dX10_cabinet_77 : decode cX10_cabinet 77 = .ok (.iload_n 2, 1) := by decide +kernel
theorem dX10_cabinet_78 : decode cX10_cabinet 78 = .ok (.ireturn, 1) := by decide +kernel
theorem dX10_days_0 : decode cX10_days 0 = .ok (.iload_n 1, 1) := by decide +kernel
theorem dX10_days_1 : decode cX10_days 1 = .ok (.iconst 1, 1) := by decide +kernel
theorem dX10_days_2 : decode cX10_days 2 = .ok (.bipush 100, 2) := by decide +kernel
theorem dX10_days_4 : decode cX10_days 4 = .ok (.invokestatic 135, 3) := by decide +kernel
theorem dX10_days_7 : decode cX10_days 7 = .ok (.ifCond .ne 5, 3) := by decide +kernel
theorem dX10_days_10 : decode cX10_days 10 = .ok (.iconst (-1), 1) := by decide +kernel
theorem dX10_days_11 : decode cX10_days 11 = .ok (.ireturn, 1) := by decide +kernel
theorem dX10_days_12 : decode cX10_days 12 = .ok (.aload_n 0, 1) := by decide +kernel
theorem dX10_days_13 : decode cX10_days 13 = .ok (.getfield 44, 3) := by decide +kernel
theorem dX10_days_16 : decode cX10_days 16 = .ok (.aload_n 0, 1) := by decide +kernel
theorem dX10_days_17 : decode cX10_days 17 = .ok (.getfield 72, 3) := by decide +kernel
theorem dX10_days_20 : decode cX10_days 20 = .ok (.aload_n 0, 1) := by decide +kernel
theorem dX10_days_21 : decode cX10_days 21 = .ok (.getfield 81, 3) := by decide +kernel
theorem dX10_days_24 : decode cX10_days 24 = .ok (.iload_n 1, 1) := by decide +kernel
theorem dX10_days_25 : decode cX10_days 25 = .ok (.invokevirtual 156, 3) := by decide +kernel
theorem dX10_days_28 : decode cX10_days 28 = .ok (.aload_n 0, 1) := by decide +kernel
theorem dX10_days_29 : decode cX10_days 29 = .ok (.getfield 44, 3) := by decide +kernel
theorem dX10_days_32 : decode cX10_days 32 = .ok (.getfield 160, 3) := by decide +kernel
theorem dX10_days_35 : decode cX10_days 35 = .ok (.ireturn, 1) := by decide +kernel
theorem dX10_tried_0 : decode cX10_tried 0 = .ok (.iload_n 1, 1) := by decide +kernel
theorem dX10_tried_1 : decode cX10_tried 1 = .ok (.iconst 1, 1) := by decide +kernel
theorem dX10_tried_2 : decode cX10_tried 2 = .ok (.bipush 100, 2) := by decide +kernel
theorem dX10_tried_4 : decode cX10_tried 4 = .ok (.invokestatic 135, 3) := by decide +kernel
theorem dX10_tried_7 : decode cX10_tried 7 = .ok (.ifCond .eq 11, 3) := by decide +kernel
theorem dX10_tried_10 : decode cX10_tried 10 = .ok (.aload_n 0, 1) := by decide +kernel
theorem dX10_tried_11 : decode cX10_tried 11 = .ok (.iload_n 2, 1) := by decide +kernel
theorem dX10_tried_12 : decode cX10_tried 12 = .ok (.invokevirtual 163, 3) := by decide +kernel
theorem dX10_tried_15 : decode cX10_tried 15 = .ok (.ifCond .ne 5, 3) := by decide +kernel
theorem dX10_tried_18 : decode cX10_tried 18 = .ok (.iconst (-1), 1) := by decide +kernel
theorem dX10_tried_19 : decode cX10_tried 19 = .ok (.ireturn, 1) := by decide +kernel
theorem dX10_tried_20 : decode cX10_tried 20 = .ok (.aload_n 0, 1) := by decide +kernel
theorem dX10_tried_21 : decode cX10_tried 21 = .ok (.getfield 65, 3) := by decide +kernel
theorem dX10_tried_24 : decode cX10_tried 24 = .ok (.aload_n 0, 1) := by decide +kernel
theorem dX10_tried_25 : decode cX10_tried 25 = .ok (.getfield 72, 3) := by decide +kernel
theorem dX10_tried_28 : decode cX10_tried 28 = .ok (.invokevirtual 166, 3) := by decide +kernel
theorem dX10_tried_31 : decode cX10_tried 31 = .ok (.aload_n 0, 1) := by decide +kernel
theorem dX10_tried_32 : decode cX10_tried 32 = .ok (.getfield 44, 3) := by decide +kernel
theorem dX10_tried_35 : decode cX10_tried 35 = .ok (.aload_n 0, 1) := by decide +kernel
theorem dX10_tried_36 : decode cX10_tried 36 = .ok (.getfield 65, 3) := by decide +kernel
theorem dX10_tried_39 : decode cX10_tried 39 = .ok (.aload_n 0, 1) := by decide +kernel
theorem dX10_tried_40 : decode cX10_tried 40 = .ok (.getfield 81, 3) := by decide +kernel
theorem dX10_tried_43 : decode cX10_tried 43 = .ok (.iload_n 1, 1) := by decide +kernel
theorem dX10_tried_44 : decode cX10_tried 44 = .ok (.invokevirtual 156, 3) := by decide +kernel
theorem dX10_tried_47 : decode cX10_tried 47 = .ok (.iload_n 2, 1) := by decide +kernel
theorem dX10_tried_48 : decode cX10_tried 48 = .ok (.bipush 30, 2) := by decide +kernel
theorem dX10_tried_50 : decode cX10_tried 50 = .ok (.if_icmp .lt 16, 3) := by decide +kernel
theorem dX10_tried_53 : decode cX10_tried 53 = .ok (.aload_n 0, 1) := by decide +kernel
theorem dX10_tried_54 : decode cX10_tried 54 = .ok (.getfield 65, 3) := by decide +kernel
theorem dX10_tried_57 : decode cX10_tried 57 = .ok (.getfield 112, 3) := by decide +kernel
theorem dX10_tried_60 : decode cX10_tried 60 = .ok (.iload_n 2, 1) := by decide +kernel
theorem dX10_tried_61 : decode cX10_tried 61 = .ok (.bipush 30, 2) := by decide +kernel
theorem dX10_tried_63 : decode cX10_tried 63 = .ok (.isub, 1) := by decide +kernel
theorem dX10_tried_64 : decode cX10_tried 64 = .ok (.iaload, 1) := by decide +kernel
theorem dX10_tried_65 : decode cX10_tried 65 = .ok (.ireturn, 1) := by decide +kernel
theorem dX10_tried_66 : decode cX10_tried 66 = .ok (.iload_n 2, 1) := by decide +kernel
theorem dX10_tried_67 : decode cX10_tried 67 = .ok (.bipush 10, 2) := by decide +kernel
theorem dX10_tried_69 : decode cX10_tried 69 = .ok (.if_icmp .lt 16, 3) := by decide +kernel
theorem dX10_tried_72 : decode cX10_tried 72 = .ok (.aload_n 0, 1) := by decide +kernel
theorem dX10_tried_73 : decode cX10_tried 73 = .ok (.getfield 65, 3) := by decide +kernel
theorem dX10_tried_76 : decode cX10_tried 76 = .ok (.getfield 169, 3) := by decide +kernel
theorem dX10_tried_79 : decode cX10_tried 79 = .ok (.iload_n 2, 1) := by decide +kernel
theorem dX10_tried_80 : decode cX10_tried 80 = .ok (.bipush 10, 2) := by decide +kernel
theorem dX10_tried_82 : decode cX10_tried 82 = .ok (.isub, 1) := by decide +kernel
theorem dX10_tried_83 : decode cX10_tried 83 = .ok (.iaload, 1) := by decide +kernel
theorem dX10_tried_84 : decode cX10_tried 84 = .ok (.ireturn, 1) := by decide +kernel
theorem dX10_tried_85 : decode cX10_tried 85 = .ok (.iload_n 2, 1) := by decide +kernel
theorem dX10_tried_86 : decode cX10_tried 86 = .ok (.tableswitch 50 0 2 #[26, 34, 42], 26) := by decide +kernel
theorem dX10_tried_112 : decode cX10_tried 112 = .ok (.aload_n 0, 1) := by decide +kernel
theorem dX10_tried_113 : decode cX10_tried 113 = .ok (.getfield 44, 3) := by decide +kernel
theorem dX10_tried_116 : decode cX10_tried 116 = .ok (.getfield 160, 3) := by decide +kernel
theorem dX10_tried_119 : decode cX10_tried 119 = .ok (.ireturn, 1) := by decide +kernel
theorem dX10_tried_120 : decode cX10_tried 120 = .ok (.aload_n 0, 1) := by decide +kernel
theorem dX10_tried_121 : decode cX10_tried 121 = .ok (.getfield 44, 3) := by decide +kernel
theorem dX10_tried_124 : decode cX10_tried 124 = .ok (.getfield 172, 3) := by decide +kernel
theorem dX10_tried_127 : decode cX10_tried 127 = .ok (.ireturn, 1) := by decide +kernel
theorem dX10_tried_128 : decode cX10_tried 128 = .ok (.aload_n 0, 1) := by decide +kernel
theorem dX10_tried_129 : decode cX10_tried 129 = .ok (.getfield 65, 3) := by decide +kernel
theorem dX10_tried_132 : decode cX10_tried 132 = .ok (.invokevirtual 175, 3) := by decide +kernel
theorem dX10_tried_135 : decode cX10_tried 135 = .ok (.ireturn, 1) := by decide +kernel
theorem dX10_tried_136 : decode cX10_tried 136 = .ok (.aload_n 0, 1) := by decide +kernel
theorem dX10_tried_137 : decode cX10_tried 137 = .ok (.getfield 65, 3) := by decide +kernel
theorem dX10_tried_140 : decode cX10_tried 140 = .ok (.invokevirtual 179, 3) := by decide +kernel
theorem dX10_tried_143 : decode cX10_tried 143 = .ok (.ireturn, 1) := by decide +kernel
theorem dX10_canBeTried_0 : decode cX10_canBeTried 0 = .ok (.iload_n 1, 1) := by decide +kernel
theorem dX10_canBeTried_1 : decode cX10_canBeTried 1 = .ok (.iconst 0, 1) := by decide +kernel
theorem dX10_canBeTried_2 : decode cX10_canBeTried 2 = .ok (.iconst 3, 1) := by decide +kernel
theorem dX10_canBeTried_3 : decode cX10_canBeTried 3 = .ok (.invokestatic 135, 3) := by decide +kernel
theorem dX10_canBeTried_6 : decode cX10_canBeTried 6 = .ok (.ifCond .eq 5, 3) := by decide +kernel
theorem dX10_canBeTried_9 : decode cX10_canBeTried 9 = .ok (.iconst 1, 1) := by decide +kernel
theorem dX10_canBeTried_10 : decode cX10_canBeTried 10 = .ok (.ireturn, 1) := by decide +kernel
theorem dX10_canBeTried_11 : decode cX10_canBeTried 11 = .ok (.iload_n 1, 1) := by decide +kernel
theorem dX10_canBeTried_12 : decode cX10_canBeTried 12 = .ok (.bipush 10, 2) := by decide +kernel
theorem dX10_canBeTried_14 : decode cX10_canBeTried 14 = .ok (.bipush 21, 2) := by decide +kernel
theorem dX10_canBeTried_16 : decode cX10_canBeTried 16 = .ok (.invokestatic 135, 3) := by decide +kernel
theorem dX10_canBeTried_19 : decode cX10_canBeTried 19 = .ok (.ifCond .eq 15, 3) := by decide +kernel
theorem dX10_canBeTried_22 : decode cX10_canBeTried 22 = .ok (.aload_n 0, 1) := by decide +kernel
theorem dX10_canBeTried_23 : decode cX10_canBeTried 23 = .ok (.getfield 72, 3) := by decide +kernel
theorem dX10_canBeTried_26 : decode cX10_canBeTried 26 = .ok (.iload_n 1, 1) := by decide +kernel
theorem dX10_canBeTried_27 : decode cX10_canBeTried 27 = .ok (.bipush 10, 2) := by decide +kernel
theorem dX10_canBeTried_29 : decode cX10_canBeTried 29 = .ok (.isub, 1) := by decide +kernel
theorem dX10_canBeTried_30 : decode cX10_canBeTried 30 = .ok (.invokevirtual 109, 3) := by decide +kernel
theorem dX10_canBeTried_33 : decode cX10_canBeTried 33 = .ok (.ireturn, 1) := by decide +kernel
theorem dX10_canBeTried_34 : decode cX10_canBeTried 34 = .ok (.iload_n 1, 1) := by decide +kernel
theorem dX10_canBeTried_35 : decode cX10_canBeTried 35 = .ok (.bipush 30, 2) := by decide +kernel
theorem dX10_canBeTried_37 : decode cX10_canBeTried 37 = .ok (.bipush 53, 2) := by decide +kernel
theorem dX10_canBeTried_39 : decode cX10_canBeTried 39 = .ok (.invokestatic 135, 3) := by decide +kernel
theorem dX10_canBeTried_42 : decode cX10_canBeTried 42 = .ok (.ifCond .eq 21, 3) := by decide +kernel
theorem dX10_canBeTried_45 : decode cX10_canBeTried 45 = .ok (.aload_n 0, 1) := by decide +kernel
theorem dX10_canBeTried_46 : decode cX10_canBeTried 46 = .ok (.getfield 72, 3) := by decide +kernel
theorem dX10_canBeTried_49 : decode cX10_canBeTried 49 = .ok (.iload_n 1, 1) := by decide +kernel
theorem dX10_canBeTried_50 : decode cX10_canBeTried 50 = .ok (.bipush 30, 2) := by decide +kernel
theorem dX10_canBeTried_52 : decode cX10_canBeTried 52 = .ok (.isub, 1) := by decide +kernel
theorem dX10_canBeTried_53 : decode cX10_canBeTried 53 = .ok (.invokevirtual 101, 3) := by decide +kernel
theorem dX10_canBeTried_56 : decode cX10_canBeTried 56 = .ok (.ifCond .eq 7, 3) := by decide +kernel
theorem dX10_canBeTried_59 : decode cX10_canBeTried 59 = .ok (.iconst 1, 1) := by decide +kernel
theorem dX10_canBeTried_60 : decode cX10_canBeTried 60 = .ok (.goto 4, 3) := by decide +kernel
theorem dX10_canBeTried_63 : decode cX10_canBeTried 63 = .ok (.iconst 0, 1) := by decide +kernel
theorem dX10_canBeTried_64 : decode cX10_canBeTried 64 = .ok (.ireturn, 1) := by decide +kernel
theorem dX10_drawerIs_0 : decode cX10_drawerIs 0 = .ok (.aload_n 0, 1) := by decide +kernel
theorem dX10_drawerIs_1 : decode cX10_drawerIs 1 = .ok (.getfield 72, 3) := by decide +kernel
theorem dX10_drawerIs_4 : decode cX10_drawerIs 4 = .ok (.iload_n 1, 1) := by decide +kernel
theorem dX10_drawerIs_5 : decode cX10_drawerIs 5 = .ok (.invokevirtual 109, 3) := by decide +kernel
theorem dX10_drawerIs_8 : decode cX10_drawerIs 8 = .ok (.ifCond .ne 5, 3) := by decide +kernel
theorem dX10_drawerIs_11 : decode cX10_drawerIs 11 = .ok (.iconst (-1), 1) := by decide +kernel
theorem dX10_drawerIs_12 : decode cX10_drawerIs 12 = .ok (.ireturn, 1) := by decide +kernel
theorem dX10_drawerIs_13 : decode cX10_drawerIs 13 = .ok (.iload_n 2, 1) := by decide +kernel
theorem dX10_drawerIs_14 : decode cX10_drawerIs 14 = .ok (.tableswitch 55 0 2 #[26, 36, 46], 26) := by decide +kernel
theorem dX10_drawerIs_40 : decode cX10_drawerIs 40 = .ok (.aload_n 0, 1) := by decide +kernel
theorem dX10_drawerIs_41 : decode cX10_drawerIs 41 = .ok (.getfield 72, 3) := by decide +kernel
theorem dX10_drawerIs_44 : decode cX10_drawerIs 44 = .ok (.getfield 182, 3) := by decide +kernel
theorem dX10_drawerIs_47 : decode cX10_drawerIs 47 = .ok (.iload_n 1, 1) := by decide +kernel
theorem dX10_drawerIs_48 : decode cX10_drawerIs 48 = .ok (.iaload, 1) := by decide +kernel
theorem dX10_drawerIs_49 : decode cX10_drawerIs 49 = .ok (.ireturn, 1) := by decide +kernel
theorem dX10_drawerIs_50 : decode cX10_drawerIs 50 = .ok (.aload_n 0, 1) := by decide +kernel
theorem dX10_drawerIs_51 : decode cX10_drawerIs 51 = .ok (.getfield 72, 3) := by decide +kernel
theorem dX10_drawerIs_54 : decode cX10_drawerIs 54 = .ok (.getfield 169, 3) := by decide +kernel
theorem dX10_drawerIs_57 : decode cX10_drawerIs 57 = .ok (.iload_n 1, 1) := by decide +kernel
theorem dX10_drawerIs_58 : decode cX10_drawerIs 58 = .ok (.iaload, 1) := by decide +kernel
theorem dX10_drawerIs_59 : decode cX10_drawerIs 59 = .ok (.ireturn, 1) := by decide +kernel
theorem dX10_drawerIs_60 : decode cX10_drawerIs 60 = .ok (.aload_n 0, 1) := by decide +kernel
theorem dX10_drawerIs_61 : decode cX10_drawerIs 61 = .ok (.getfield 72, 3) := by decide +kernel
theorem dX10_drawerIs_64 : decode cX10_drawerIs 64 = .ok (.iload_n 1, 1) := by decide +kernel
theorem dX10_drawerIs_65 : decode cX10_drawerIs 65 = .ok (.invokevirtual 185, 3) := by decide +kernel
theorem dX10_drawerIs_68 : decode cX10_drawerIs 68 = .ok (.ireturn, 1) := by decide +kernel
theorem dX10_drawerIs_69 : decode cX10_drawerIs 69 = .ok (.iconst (-1), 1) := by decide +kernel
theorem dX10_drawerIs_70 : decode cX10_drawerIs 70 = .ok (.ireturn, 1) := by decide +kernel
theorem dX10_paperIs_0 : decode cX10_paperIs 0 = .ok (.aload_n 0, 1) := by decide +kernel
theorem dX10_paperIs_1 : decode cX10_paperIs 1 = .ok (.getfield 72, 3) := by decide +kernel
theorem dX10_paperIs_4 : decode cX10_paperIs 4 = .ok (.iload_n 1, 1) := by decide +kernel
theorem dX10_paperIs_5 : decode cX10_paperIs 5 = .ok (.invokevirtual 101, 3) := by decide +kernel
theorem dX10_paperIs_8 : decode cX10_paperIs 8 = .ok (.ifCond .ne 5, 3) := by decide +kernel
theorem dX10_paperIs_11 : decode cX10_paperIs 11 = .ok (.iconst (-1), 1) := by decide +kernel
theorem dX10_paperIs_12 : decode cX10_paperIs 12 = .ok (.ireturn, 1) := by decide +kernel
theorem dX10_paperIs_13 : decode cX10_paperIs 13 = .ok (.iload_n 2, 1) := by decide +kernel
theorem dX10_paperIs_14 : decode cX10_paperIs 14 = .ok (.tableswitch 84 0 4 #[34, 44, 54, 64, 74], 34) := by decide +kernel
theorem dX10_paperIs_48 : decode cX10_paperIs 48 = .ok (.aload_n 0, 1) := by decide +kernel
theorem dX10_paperIs_49 : decode cX10_paperIs 49 = .ok (.getfield 72, 3) := by decide +kernel
theorem dX10_paperIs_52 : decode cX10_paperIs 52 = .ok (.getfield 189, 3) := by decide +kernel
theorem dX10_paperIs_55 : decode cX10_paperIs 55 = .ok (.iload_n 1, 1) := by decide +kernel
theorem dX10_paperIs_56 : decode cX10_paperIs 56 = .ok (.iaload, 1) := by decide +kernel
theorem dX10_paperIs_57 : decode cX10_paperIs 57 = .ok (.ireturn, 1) := by decide +kernel
theorem dX10_paperIs_58 : decode cX10_paperIs 58 = .ok (.aload_n 0, 1) := by decide +kernel
theorem dX10_paperIs_59 : decode cX10_paperIs 59 = .ok (.getfield 72, 3) := by decide +kernel
theorem dX10_paperIs_62 : decode cX10_paperIs 62 = .ok (.getfield 192, 3) := by decide +kernel
theorem dX10_paperIs_65 : decode cX10_paperIs 65 = .ok (.iload_n 1, 1) := by decide +kernel
theorem dX10_paperIs_66 : decode cX10_paperIs 66 = .ok (.iaload, 1) := by decide +kernel
theorem dX10_paperIs_67 : decode cX10_paperIs 67 = .ok (.ireturn, 1) := by decide +kernel
theorem dX10_paperIs_68 : decode cX10_paperIs 68 = .ok (.aload_n 0, 1) := by decide +kernel
theorem dX10_paperIs_69 : decode cX10_paperIs 69 = .ok (.getfield 72, 3) := by decide +kernel
theorem dX10_paperIs_72 : decode cX10_paperIs 72 = .ok (.getfield 112, 3) := by decide +kernel
theorem dX10_paperIs_75 : decode cX10_paperIs 75 = .ok (.iload_n 1, 1) := by decide +kernel
theorem dX10_paperIs_76 : decode cX10_paperIs 76 = .ok (.iaload, 1) := by decide +kernel
theorem dX10_paperIs_77 : decode cX10_paperIs 77 = .ok (.ireturn, 1) := by decide +kernel
theorem dX10_paperIs_78 : decode cX10_paperIs 78 = .ok (.aload_n 0, 1) := by decide +kernel
theorem dX10_paperIs_79 : decode cX10_paperIs 79 = .ok (.getfield 72, 3) := by decide +kernel
theorem dX10_paperIs_82 : decode cX10_paperIs 82 = .ok (.getfield 195, 3) := by decide +kernel
theorem dX10_paperIs_85 : decode cX10_paperIs 85 = .ok (.iload_n 1, 1) := by decide +kernel
theorem dX10_paperIs_86 : decode cX10_paperIs 86 = .ok (.iaload, 1) := by decide +kernel
theorem dX10_paperIs_87 : decode cX10_paperIs 87 = .ok (.ireturn, 1) := by decide +kernel
theorem dX10_paperIs_88 : decode cX10_paperIs 88 = .ok (.aload_n 0, 1) := by decide +kernel
theorem dX10_paperIs_89 : decode cX10_paperIs 89 = .ok (.getfield 72, 3) := by decide +kernel
theorem dX10_paperIs_92 : decode cX10_paperIs 92 = .ok (.getfield 197, 3) := by decide +kernel
theorem dX10_paperIs_95 : decode cX10_paperIs 95 = .ok (.iload_n 1, 1) := by decide +kernel
theorem dX10_paperIs_96 : decode cX10_paperIs 96 = .ok (.iaload, 1) := by decide +kernel
theorem dX10_paperIs_97 : decode cX10_paperIs 97 = .ok (.ireturn, 1) := by decide +kernel
theorem dX10_paperIs_98 : decode cX10_paperIs 98 = .ok (.iconst (-1), 1) := by decide +kernel
theorem dX10_paperIs_99 : decode cX10_paperIs 99 = .ok (.ireturn, 1) := by decide +kernel
theorem dX10_shut_0 : decode cX10_shut 0 = .ok (.iload_n 1, 1) := by decide +kernel
theorem dX10_shut_1 : decode cX10_shut 1 = .ok (.iconst 1, 1) := by decide +kernel
theorem dX10_shut_2 : decode cX10_shut 2 = .ok (.bipush 100, 2) := by decide +kernel
theorem dX10_shut_4 : decode cX10_shut 4 = .ok (.invokestatic 135, 3) := by decide +kernel
theorem dX10_shut_7 : decode cX10_shut 7 = .ok (.ifCond .ne 5, 3) := by decide +kernel
theorem dX10_shut_10 : decode cX10_shut 10 = .ok (.iconst (-1), 1) := by decide +kernel
theorem dX10_shut_11 : decode cX10_shut 11 = .ok (.ireturn, 1) := by decide +kernel
theorem dX10_shut_12 : decode cX10_shut 12 = .ok (.aload_n 0, 1) := by decide +kernel
theorem dX10_shut_13 : decode cX10_shut 13 = .ok (.getfield 65, 3) := by decide +kernel
theorem dX10_shut_16 : decode cX10_shut 16 = .ok (.aload_n 0, 1) := by decide +kernel
theorem dX10_shut_17 : decode cX10_shut 17 = .ok (.getfield 72, 3) := by decide +kernel
theorem dX10_shut_20 : decode cX10_shut 20 = .ok (.invokevirtual 166, 3) := by decide +kernel
theorem dX10_shut_23 : decode cX10_shut 23 = .ok (.iconst 0, 1) := by decide +kernel
theorem dX10_shut_24 : decode cX10_shut 24 = .ok (.istore_n 2, 1) := by decide +kernel
theorem dX10_shut_25 : decode cX10_shut 25 = .ok (.iload_n 2, 1) := by decide +kernel
theorem dX10_shut_26 : decode cX10_shut 26 = .ok (.iload_n 1, 1) := by decide +kernel
theorem dX10_shut_27 : decode cX10_shut 27 = .ok (.if_icmp .ge 37, 3) := by decide +kernel
theorem dX10_shut_30 : decode cX10_shut 30 = .ok (.aload_n 0, 1) := by decide +kernel
theorem dX10_shut_31 : decode cX10_shut 31 = .ok (.getfield 65, 3) := by decide +kernel
theorem dX10_shut_34 : decode cX10_shut 34 = .ok (.invokevirtual 175, 3) := by decide +kernel
theorem dX10_shut_37 : decode cX10_shut 37 = .ok (.ifCond .ne 5, 3) := by decide +kernel
theorem dX10_shut_40 : decode cX10_shut 40 = .ok (.iload_n 2, 1) := by decide +kernel
theorem dX10_shut_41 : decode cX10_shut 41 = .ok (.ireturn, 1) := by decide +kernel
theorem dX10_shut_42 : decode cX10_shut 42 = .ok (.aload_n 0, 1) := by decide +kernel
theorem dX10_shut_43 : decode cX10_shut 43 = .ok (.getfield 44, 3) := by decide +kernel
theorem dX10_shut_46 : decode cX10_shut 46 = .ok (.aload_n 0, 1) := by decide +kernel
theorem dX10_shut_47 : decode cX10_shut 47 = .ok (.getfield 65, 3) := by decide +kernel
theorem dX10_shut_50 : decode cX10_shut 50 = .ok (.aload_n 0, 1) := by decide +kernel
theorem dX10_shut_51 : decode cX10_shut 51 = .ok (.getfield 81, 3) := by decide +kernel
theorem dX10_shut_54 : decode cX10_shut 54 = .ok (.iconst 1, 1) := by decide +kernel
theorem dX10_shut_55 : decode cX10_shut 55 = .ok (.invokevirtual 156, 3) := by decide +kernel
theorem dX10_shut_58 : decode cX10_shut 58 = .ok (.iinc 2 1, 3) := by decide +kernel
theorem dX10_shut_61 : decode cX10_shut 61 = .ok (.goto (-36), 3) := by decide +kernel
theorem dX10_shut_64 : decode cX10_shut 64 = .ok (.aload_n 0, 1) := by decide +kernel
theorem dX10_shut_65 : decode cX10_shut 65 = .ok (.getfield 65, 3) := by decide +kernel
theorem dX10_shut_68 : decode cX10_shut 68 = .ok (.invokevirtual 175, 3) := by decide +kernel
theorem dX10_shut_71 : decode cX10_shut 71 = .ok (.ifCond .ne 7, 3) := by decide +kernel
theorem dX10_shut_74 : decode cX10_shut 74 = .ok (.iload_n 1, 1) := by decide +kernel
theorem dX10_shut_75 : decode cX10_shut 75 = .ok (.goto 5, 3) := by decide +kernel
theorem dX10_shut_78 : decode cX10_shut 78 = .ok (.bipush (-2), 2) := by decide +kernel
theorem dX10_shut_80 : decode cX10_shut 80 = .ok (.ireturn, 1) := by decide +kernel
theorem dX10_fewest_0 : decode cX10_fewest 0 = .ok (.aload_n 0, 1) := by decide +kernel
theorem dX10_fewest_1 : decode cX10_fewest 1 = .ok (.getfield 72, 3) := by decide +kernel
theorem dX10_fewest_4 : decode cX10_fewest 4 = .ok (.getfield 200, 3) := by decide +kernel
theorem dX10_fewest_7 : decode cX10_fewest 7 = .ok (.bipush 10, 2) := by decide +kernel
theorem dX10_fewest_9 : decode cX10_fewest 9 = .ok (.if_icmp .le 6, 3) := by decide +kernel
theorem dX10_fewest_12 : decode cX10_fewest 12 = .ok (.bipush (-4), 2) := by decide +kernel
theorem dX10_fewest_14 : decode cX10_fewest 14 = .ok (.ireturn, 1) := by decide +kernel
theorem dX10_fewest_15 : decode cX10_fewest 15 = .ok (.aload_n 0, 1) := by decide +kernel
theorem dX10_fewest_16 : decode cX10_fewest 16 = .ok (.getfield 51, 3) := by decide +kernel
theorem dX10_fewest_19 : decode cX10_fewest 19 = .ok (.aload_n 0, 1) := by decide +kernel
theorem dX10_fewest_20 : decode cX10_fewest 20 = .ok (.getfield 72, 3) := by decide +kernel
theorem dX10_fewest_23 : decode cX10_fewest 23 = .ok (.invokevirtual 203, 3) := by decide +kernel
theorem dX10_fewest_26 : decode cX10_fewest 26 = .ok (.ireturn, 1) := by decide +kernel
theorem dX10_free_0 : decode cX10_free 0 = .ok (.iload_n 1, 1) := by decide +kernel
theorem dX10_free_1 : decode cX10_free 1 = .ok (.iconst 0, 1) := by decide +kernel
theorem dX10_free_2 : decode cX10_free 2 = .ok (.iconst 1, 1) := by decide +kernel
theorem dX10_free_3 : decode cX10_free 3 = .ok (.invokestatic 135, 3) := by decide +kernel
theorem dX10_free_6 : decode cX10_free 6 = .ok (.ifCond .ne 5, 3) := by decide +kernel
theorem dX10_free_9 : decode cX10_free 9 = .ok (.iconst (-1), 1) := by decide +kernel
theorem dX10_free_10 : decode cX10_free 10 = .ok (.ireturn, 1) := by decide +kernel
theorem dX10_free_11 : decode cX10_free 11 = .ok (.aload_n 0, 1) := by decide +kernel
theorem dX10_free_12 : decode cX10_free 12 = .ok (.getfield 72, 3) := by decide +kernel
theorem dX10_free_15 : decode cX10_free 15 = .ok (.invokevirtual 207, 3) := by decide +kernel
theorem dX10_free_18 : decode cX10_free 18 = .ok (.istore_n 2, 1) := by decide +kernel
theorem dX10_free_19 : decode cX10_free 19 = .ok (.iload_n 2, 1) := by decide +kernel
theorem dX10_free_20 : decode cX10_free 20 = .ok (.ifCond .ge 6, 3) := by decide +kernel
theorem dX10_free_23 : decode cX10_free 23 = .ok (.bipush (-2), 2) := by decide +kernel
theorem dX10_free_25 : decode cX10_free 25 = .ok (.ireturn, 1) := by decide +kernel
theorem dX10_free_26 : decode cX10_free 26 = .ok (.iload_n 1, 1) := by decide +kernel
theorem dX10_free_27 : decode cX10_free 27 = .ok (.ifCond .ne 14, 3) := by decide +kernel
theorem dX10_free_30 : decode cX10_free 30 = .ok (.aload_n 0, 1) := by decide +kernel
theorem dX10_free_31 : decode cX10_free 31 = .ok (.getfield 72, 3) := by decide +kernel
theorem dX10_free_34 : decode cX10_free 34 = .ok (.iload_n 2, 1) := by decide +kernel
theorem dX10_free_35 : decode cX10_free 35 = .ok (.invokevirtual 210, 3) := by decide +kernel
theorem dX10_free_38 : decode cX10_free 38 = .ok (.goto 4, 3) := by decide +kernel
theorem dX10_free_41 : decode cX10_free 41 = .ok (.iload_n 2, 1) := by decide +kernel
theorem dX10_free_42 : decode cX10_free 42 = .ok (.ireturn, 1) := by decide +kernel
theorem dX10_ofSubject_0 : decode cX10_ofSubject 0 = .ok (.iload_n 1, 1) := by decide +kernel
theorem dX10_ofSubject_1 : decode cX10_ofSubject 1 = .ok (.iconst 0, 1) := by decide +kernel
theorem dX10_ofSubject_2 : decode cX10_ofSubject 2 = .ok (.bipush 15, 2) := by decide +kernel
theorem dX10_ofSubject_4 : decode cX10_ofSubject 4 = .ok (.invokestatic 135, 3) := by decide +kernel
theorem dX10_ofSubject_7 : decode cX10_ofSubject 7 = .ok (.ifCond .eq 12, 3) := by decide +kernel
theorem dX10_ofSubject_10 : decode cX10_ofSubject 10 = .ok (.iload_n 2, 1) := by decide +kernel
theorem dX10_ofSubject_11 : decode cX10_ofSubject 11 = .ok (.iconst 0, 1) := by decide +kernel
theorem dX10_ofSubject_12 : decode cX10_ofSubject 12 = .ok (.iconst 1, 1) := by decide +kernel
theorem dX10_ofSubject_13 : decode cX10_ofSubject 13 = .ok (.invokestatic 135, 3) := by decide +kernel
theorem dX10_ofSubject_16 : decode cX10_ofSubject 16 = .ok (.ifCond .ne 5, 3) := by decide +kernel
theorem dX10_ofSubject_19 : decode cX10_ofSubject 19 = .ok (.iconst (-1), 1) := by decide +kernel
theorem dX10_ofSubject_20 : decode cX10_ofSubject 20 = .ok (.ireturn, 1) := by decide +kernel
theorem dX10_ofSubject_21 : decode cX10_ofSubject 21 = .ok (.iload_n 2, 1) := by decide +kernel
theorem dX10_ofSubject_22 : decode cX10_ofSubject 22 = .ok (.ifCond .ne 14, 3) := by decide +kernel
theorem dX10_ofSubject_25 : decode cX10_ofSubject 25 = .ok (.aload_n 0, 1) := by decide +kernel
theorem dX10_ofSubject_26 : decode cX10_ofSubject 26 = .ok (.getfield 72, 3) := by decide +kernel
theorem dX10_ofSubject_29 : decode cX10_ofSubject 29 = .ok (.iload_n 1, 1) := by decide +kernel
theorem dX10_ofSubject_30 : decode cX10_ofSubject 30 = .ok (.invokevirtual 213, 3) := by decide +kernel
theorem dX10_ofSubject_33 : decode cX10_ofSubject 33 = .ok (.goto 11, 3) := by decide +kernel
theorem dX10_ofSubject_36 : decode cX10_ofSubject 36 = .ok (.aload_n 0, 1) := by decide +kernel
theorem dX10_ofSubject_37 : decode cX10_ofSubject 37 = .ok (.getfield 72, 3) := by decide +kernel
theorem dX10_ofSubject_40 : decode cX10_ofSubject 40 = .ok (.iload_n 1, 1) := by decide +kernel
theorem dX10_ofSubject_41 : decode cX10_ofSubject 41 = .ok (.invokevirtual 216, 3) := by decide +kernel
theorem dX10_ofSubject_44 : decode cX10_ofSubject 44 = .ok (.ireturn, 1) := by decide +kernel
theorem dX10_oldest_0 : decode cX10_oldest 0 = .ok (.aload_n 0, 1) := by decide +kernel
theorem dX10_oldest_1 : decode cX10_oldest 1 = .ok (.getfield 72, 3) := by decide +kernel
theorem dX10_oldest_4 : decode cX10_oldest 4 = .ok (.invokevirtual 219, 3) := by decide +kernel
theorem dX10_oldest_7 : decode cX10_oldest 7 = .ok (.ireturn, 1) := by decide +kernel
theorem dX10_slip_0 : decode cX10_slip 0 = .ok (.iload_n 2, 1) := by decide +kernel
theorem dX10_slip_1 : decode cX10_slip 1 = .ok (.iconst 0, 1) := by decide +kernel
theorem dX10_slip_2 : decode cX10_slip 2 = .ok (.bipush 25, 2) := by decide +kernel
theorem dX10_slip_4 : decode cX10_slip 4 = .ok (.invokestatic 135, 3) := by decide +kernel
theorem dX10_slip_7 : decode cX10_slip 7 = .ok (.ifCond .ne 14, 3) := by decide +kernel
theorem dX10_slip_10 : decode cX10_slip 10 = .ok (.iload_n 2, 1) := by decide +kernel
theorem dX10_slip_11 : decode cX10_slip 11 = .ok (.bipush 100, 2) := by decide +kernel
theorem dX10_slip_13 : decode cX10_slip 13 = .ok (.bipush 105, 2) := by decide +kernel
theorem dX10_slip_15 : decode cX10_slip 15 = .ok (.invokestatic 135, 3) := by decide +kernel
theorem dX10_slip_18 : decode cX10_slip 18 = .ok (.ifCond .eq 7, 3) := by decide +kernel
theorem dX10_slip_21 : decode cX10_slip 21 = .ok (.iconst 1, 1) := by decide +kernel
theorem dX10_slip_22 : decode cX10_slip 22 = .ok (.goto 4, 3) := by decide +kernel
theorem dX10_slip_25 : decode cX10_slip 25 = .ok (.iconst 0, 1) := by decide +kernel
theorem dX10_slip_26 : decode cX10_slip 26 = .ok (.istore_n 3, 1) := by decide +kernel
theorem dX10_slip_27 : decode cX10_slip 27 = .ok (.iload_n 3, 1) := by decide +kernel
theorem dX10_slip_28 : decode cX10_slip 28 = .ok (.ifCond .eq 24, 3) := by decide +kernel
theorem dX10_slip_31 : decode cX10_slip 31 = .ok (.iload_n 1, 1) := by decide +kernel
theorem dX10_slip_32 : decode cX10_slip 32 = .ok (.iconst 1, 1) := by decide +kernel
theorem dX10_slip_33 : decode cX10_slip 33 = .ok (.bipush 80, 2) := by decide +kernel
theorem dX10_slip_35 : decode cX10_slip 35 = .ok (.invokestatic 135, 3) := by decide +kernel
theorem dX10_slip_38 : decode cX10_slip 38 = .ok (.ifCond .eq 14, 3) := by decide +kernel
theorem dX10_slip_41 : decode cX10_slip 41 = .ok (.aload_n 0, 1) := by decide +kernel
theorem dX10_slip_42 : decode cX10_slip 42 = .ok (.getfield 10, 3) := by decide +kernel
theorem dX10_slip_45 : decode cX10_slip 45 = .ok (.iload_n 1, 1) := by decide +kernel
theorem dX10_slip_46 : decode cX10_slip 46 = .ok (.invokevirtual 139, 3) := by decide +kernel
theorem dX10_slip_49 : decode cX10_slip 49 = .ok (.ifCond .ne 5, 3) := by decide +kernel
theorem dX10_slip_52 : decode cX10_slip 52 = .ok (.iconst (-1), 1) := by decide +kernel
theorem dX10_slip_53 : decode cX10_slip 53 = .ok (.ireturn, 1) := by decide +kernel
theorem dX10_slip_54 : decode cX10_slip 54 = .ok (.aload_n 0, 1) := by decide +kernel
theorem dX10_slip_55 : decode cX10_slip 55 = .ok (.getfield 37, 3) := by decide +kernel
theorem dX10_slip_58 : decode cX10_slip 58 = .ok (.iload_n 1, 1) := by decide +kernel
theorem dX10_slip_59 : decode cX10_slip 59 = .ok (.invokevirtual 222, 3) := by decide +kernel
theorem dX10_slip_62 : decode cX10_slip 62 = .ok (.istore 4, 2) := by decide +kernel
theorem dX10_slip_64 : decode cX10_slip 64 = .ok (.aload_n 0, 1) := by decide +kernel
theorem dX10_slip_65 : decode cX10_slip 65 = .ok (.getfield 10, 3) := by decide +kernel
theorem dX10_slip_68 : decode cX10_slip 68 = .ok (.invokevirtual 146, 3) := by decide +kernel
theorem dX10_slip_71 : decode cX10_slip 71 = .ok (.iload 4, 2) := by decide +kernel
theorem dX10_slip_73 : decode cX10_slip 73 = .ok (.ifCond .ge 8, 3) := by decide +kernel
theorem dX10_slip_76 : decode cX10_slip 76 = .ok (.iload 4, 2) := by decide +kernel
theorem dX10_slip_78 : decode cX10_slip 78 = .ok (.goto 11, 3) := by decide +kernel
theorem dX10_slip_81 : decode cX10_slip 81 = .ok (.aload_n 0, 1) := by decide +kernel
theorem dX10_slip_82 : decode cX10_slip 82 = .ok (.getfield 37, 3) := by decide +kernel
theorem dX10_slip_85 : decode cX10_slip 85 = .ok (.iload_n 2, 1) := by decide +kernel
theorem dX10_slip_86 : decode cX10_slip 86 = .ok (.invokevirtual 224, 3) := by decide +kernel
theorem dX10_slip_89 : decode cX10_slip 89 = .ok (.ireturn, 1) := by decide +kernel
theorem dX10_secret_0 : decode cX10_secret 0 = .ok (.iload_n 1, 1) := by decide +kernel
theorem dX10_secret_1 : decode cX10_secret 1 = .ok (.iconst 2, 1) := by decide +kernel
theorem dX10_secret_2 : decode cX10_secret 2 = .ok (.bipush 8, 2) := by decide +kernel
theorem dX10_secret_4 : decode cX10_secret 4 = .ok (.invokestatic 135, 3) := by decide +kernel
theorem dX10_secret_7 : decode cX10_secret 7 = .ok (.ifCond .eq 27, 3) := by decide +kernel
theorem dX10_secret_10 : decode cX10_secret 10 = .ok (.iload_n 2, 1) := by decide +kernel
theorem dX10_secret_11 : decode cX10_secret 11 = .ok (.iconst 0, 1) := by decide +kernel
theorem dX10_secret_12 : decode cX10_secret 12 = .ok (.iload_n 1, 1) := by decide +kernel
theorem dX10_secret_13 : decode cX10_secret 13 = .ok (.iconst 1, 1) := by decide +kernel
theorem dX10_secret_14 : decode cX10_secret 14 = .ok (.isub, 1) := by decide +kernel
theorem dX10_secret_15 : decode cX10_secret 15 = .ok (.invokestatic 135, 3) := by decide +kernel
theorem dX10_secret_18 : decode cX10_secret 18 = .ok (.ifCond .eq 16, 3) := by decide +kernel
theorem dX10_secret_21 : decode cX10_secret 21 = .ok (.iload_n 3, 1) := by decide +kernel
theorem dX10_secret_22 : decode cX10_secret 22 = .ok (.iconst 0, 1) := by decide +kernel
theorem dX10_secret_23 : decode cX10_secret 23 = .ok (.iconst 1, 1) := by decide +kernel
theorem dX10_secret_24 : decode cX10_secret 24 = .ok (.invokestatic 135, 3) := by decide +kernel
theorem dX10_secret_27 : decode cX10_secret 27 = .ok (.ifCond .eq 7, 3) := by decide +kernel
theorem dX10_secret_30 : decode cX10_secret 30 = .ok (.iconst 1, 1) := by decide +kernel
theorem dX10_secret_31 : decode cX10_secret 31 = .ok (.goto 4, 3) := by decide +kernel
theorem dX10_secret_34 : decode cX10_secret 34 = .ok (.iconst 0, 1) := by decide +kernel
theorem dX10_secret_35 : decode cX10_secret 35 = .ok (.istore 4, 2) := by decide +kernel
theorem dX10_secret_37 : decode cX10_secret 37 = .ok (.iload 4, 2) := by decide +kernel
theorem dX10_secret_39 : decode cX10_secret 39 = .ok (.ifCond .eq 16, 3) := by decide +kernel
theorem dX10_secret_42 : decode cX10_secret 42 = .ok (.aload_n 0, 1) := by decide +kernel
theorem dX10_secret_43 : decode cX10_secret 43 = .ok (.getfield 10, 3) := by decide +kernel
theorem dX10_secret_46 : decode cX10_secret 46 = .ok (.iconst 2, 1) := by decide +kernel
theorem dX10_secret_47 : decode cX10_secret 47 = .ok (.iload_n 1, 1) := by decide +kernel
theorem dX10_secret_48 : decode cX10_secret 48 = .ok (.imul, 1) := by decide +kernel
theorem dX10_secret_49 : decode cX10_secret 49 = .ok (.invokevirtual 139, 3) := by decide +kernel
theorem dX10_secret_52 : decode cX10_secret 52 = .ok (.ifCond .ne 5, 3) := by decide +kernel
theorem dX10_secret_55 : decode cX10_secret 55 = .ok (.iconst (-1), 1) := by decide +kernel
theorem dX10_secret_56 : decode cX10_secret 56 = .ok (.ireturn, 1) := by decide +kernel
theorem dX10_secret_57 : decode cX10_secret 57 = .ok (.aload_n 0, 1) := by decide +kernel
theorem dX10_secret_58 : decode cX10_secret 58 = .ok (.getfield 58, 3) := by decide +kernel
theorem dX10_secret_61 : decode cX10_secret 61 = .ok (.iload_n 1, 1) := by decide +kernel
theorem dX10_secret_62 : decode cX10_secret 62 = .ok (.iload_n 2, 1) := by decide +kernel
theorem dX10_secret_63 : decode cX10_secret 63 = .ok (.iload_n 3, 1) := by decide +kernel
theorem dX10_secret_64 : decode cX10_secret 64 = .ok (.invokevirtual 227, 3) := by decide +kernel
theorem dX10_secret_67 : decode cX10_secret 67 = .ok (.istore 5, 2) := by decide +kernel
theorem dX10_secret_69 : decode cX10_secret 69 = .ok (.aload_n 0, 1) := by decide +kernel
theorem dX10_secret_70 : decode cX10_secret 70 = .ok (.getfield 10, 3) := by decide +kernel
theorem dX10_secret_73 : decode cX10_secret 73 = .ok (.invokevirtual 146, 3) := by decide +kernel
theorem dX10_secret_76 : decode cX10_secret 76 = .ok (.iload 5, 2) := by decide +kernel
theorem dX10_secret_78 : decode cX10_secret 78 = .ok (.ireturn, 1) := by decide +kernel
theorem dX10_nest_0 : decode cX10_nest 0 = .ok (.iload_n 1, 1) := by decide +kernel
theorem dX10_nest_1 : decode cX10_nest 1 = .ok (.iconst 1, 1) := by decide +kernel
theorem dX10_nest_2 : decode cX10_nest 2 = .ok (.bipush 12, 2) := by decide +kernel
theorem dX10_nest_4 : decode cX10_nest 4 = .ok (.invokestatic 135, 3) := by decide +kernel
theorem dX10_nest_7 : decode cX10_nest 7 = .ok (.ifCond .eq 16, 3) := by decide +kernel
theorem dX10_nest_10 : decode cX10_nest 10 = .ok (.aload_n 0, 1) := by decide +kernel
theorem dX10_nest_11 : decode cX10_nest 11 = .ok (.getfield 10, 3) := by decide +kernel
theorem dX10_nest_14 : decode cX10_nest 14 = .ok (.iconst 2, 1) := by decide +kernel
theorem dX10_nest_15 : decode cX10_nest 15 = .ok (.iload_n 1, 1) := by decide +kernel
theorem dX10_nest_16 : decode cX10_nest 16 = .ok (.imul, 1) := by decide +kernel
theorem dX10_nest_17 : decode cX10_nest 17 = .ok (.invokevirtual 139, 3) := by decide +kernel
theorem dX10_nest_20 : decode cX10_nest 20 = .ok (.ifCond .ne 5, 3) := by decide +kernel
theorem dX10_nest_23 : decode cX10_nest 23 = .ok (.iconst (-1), 1) := by decide +kernel
theorem dX10_nest_24 : decode cX10_nest 24 = .ok (.ireturn, 1) := by decide +kernel
theorem dX10_nest_25 : decode cX10_nest 25 = .ok (.aload_n 0, 1) := by decide +kernel
theorem dX10_nest_26 : decode cX10_nest 26 = .ok (.getfield 51, 3) := by decide +kernel
theorem dX10_nest_29 : decode cX10_nest 29 = .ok (.iload_n 1, 1) := by decide +kernel
theorem dX10_nest_30 : decode cX10_nest 30 = .ok (.invokevirtual 231, 3) := by decide +kernel
theorem dX10_nest_33 : decode cX10_nest 33 = .ok (.istore_n 2, 1) := by decide +kernel
theorem dX10_nest_34 : decode cX10_nest 34 = .ok (.aload_n 0, 1) := by decide +kernel
theorem dX10_nest_35 : decode cX10_nest 35 = .ok (.getfield 10, 3) := by decide +kernel
theorem dX10_nest_38 : decode cX10_nest 38 = .ok (.invokevirtual 146, 3) := by decide +kernel
theorem dX10_nest_41 : decode cX10_nest 41 = .ok (.iload_n 2, 1) := by decide +kernel
theorem dX10_nest_42 : decode cX10_nest 42 = .ok (.ireturn, 1) := by decide +kernel
theorem dX10_dusted_0 : decode cX10_dusted 0 = .ok (.iload_n 1, 1) := by decide +kernel
theorem dX10_dusted_1 : decode cX10_dusted 1 = .ok (.iconst 1, 1) := by decide +kernel
theorem dX10_dusted_2 : decode cX10_dusted 2 = .ok (.bipush 20, 2) := by decide +kernel
theorem dX10_dusted_4 : decode cX10_dusted 4 = .ok (.invokestatic 135, 3) := by decide +kernel
theorem dX10_dusted_7 : decode cX10_dusted 7 = .ok (.ifCond .eq 14, 3) := by decide +kernel
theorem dX10_dusted_10 : decode cX10_dusted 10 = .ok (.aload_n 0, 1) := by decide +kernel
theorem dX10_dusted_11 : decode cX10_dusted 11 = .ok (.getfield 10, 3) := by decide +kernel
theorem dX10_dusted_14 : decode cX10_dusted 14 = .ok (.iload_n 1, 1) := by decide +kernel
theorem dX10_dusted_15 : decode cX10_dusted 15 = .ok (.invokevirtual 139, 3) := by decide +kernel
theorem dX10_dusted_18 : decode cX10_dusted 18 = .ok (.ifCond .ne 5, 3) := by decide +kernel
theorem dX10_dusted_21 : decode cX10_dusted 21 = .ok (.iconst (-1), 1) := by decide +kernel
theorem dX10_dusted_22 : decode cX10_dusted 22 = .ok (.ireturn, 1) := by decide +kernel
theorem dX10_dusted_23 : decode cX10_dusted 23 = .ok (.iload_n 1, 1) := by decide +kernel
theorem dX10_dusted_24 : decode cX10_dusted 24 = .ok (.aload_n 0, 1) := by decide +kernel
theorem dX10_dusted_25 : decode cX10_dusted 25 = .ok (.getfield 51, 3) := by decide +kernel
theorem dX10_dusted_28 : decode cX10_dusted 28 = .ok (.iload_n 1, 1) := by decide +kernel
theorem dX10_dusted_29 : decode cX10_dusted 29 = .ok (.invokevirtual 234, 3) := by decide +kernel
theorem dX10_dusted_32 : decode cX10_dusted 32 = .ok (.isub, 1) := by decide +kernel
theorem dX10_dusted_33 : decode cX10_dusted 33 = .ok (.istore_n 2, 1) := by decide +kernel
theorem dX10_dusted_34 : decode cX10_dusted 34 = .ok (.aload_n 0, 1) := by decide +kernel
theorem dX10_dusted_35 : decode cX10_dusted 35 = .ok (.getfield 10, 3) := by decide +kernel
theorem dX10_dusted_38 : decode cX10_dusted 38 = .ok (.invokevirtual 146, 3) := by decide +kernel
theorem dX10_dusted_41 : decode cX10_dusted 41 = .ok (.iload_n 2, 1) := by decide +kernel
theorem dX10_dusted_42 : decode cX10_dusted 42 = .ok (.ireturn, 1) := by decide +kernel
theorem dX10_balanced_0 : decode cX10_balanced 0 = .ok (.iload_n 1, 1) := by decide +kernel
theorem dX10_balanced_1 : decode cX10_balanced 1 = .ok (.iconst 1, 1) := by decide +kernel
theorem dX10_balanced_2 : decode cX10_balanced 2 = .ok (.bipush 12, 2) := by decide +kernel
theorem dX10_balanced_4 : decode cX10_balanced 4 = .ok (.invokestatic 135, 3) := by decide +kernel
theorem dX10_balanced_7 : decode cX10_balanced 7 = .ok (.ifCond .eq 16, 3) := by decide +kernel
theorem dX10_balanced_10 : decode cX10_balanced 10 = .ok (.aload_n 0, 1) := by decide +kernel
theorem dX10_balanced_11 : decode cX10_balanced 11 = .ok (.getfield 10, 3) := by decide +kernel
theorem dX10_balanced_14 : decode cX10_balanced 14 = .ok (.iconst 2, 1) := by decide +kernel
theorem dX10_balanced_15 : decode cX10_balanced 15 = .ok (.iload_n 1, 1) := by decide +kernel
theorem dX10_balanced_16 : decode cX10_balanced 16 = .ok (.imul, 1) := by decide +kernel
theorem dX10_balanced_17 : decode cX10_balanced 17 = .ok (.invokevirtual 139, 3) := by decide +kernel
theorem dX10_balanced_20 : decode cX10_balanced 20 = .ok (.ifCond .ne 5, 3) := by decide +kernel
theorem dX10_balanced_23 : decode cX10_balanced 23 = .ok (.iconst (-1), 1) := by decide +kernel
theorem dX10_balanced_24 : decode cX10_balanced 24 = .ok (.ireturn, 1) := by decide +kernel
theorem dX10_balanced_25 : decode cX10_balanced 25 = .ok (.aload_n 0, 1) := by decide +kernel
theorem dX10_balanced_26 : decode cX10_balanced 26 = .ok (.getfield 51, 3) := by decide +kernel
theorem dX10_balanced_29 : decode cX10_balanced 29 = .ok (.iload_n 1, 1) := by decide +kernel
theorem dX10_balanced_30 : decode cX10_balanced 30 = .ok (.invokevirtual 237, 3) := by decide +kernel
theorem dX10_balanced_33 : decode cX10_balanced 33 = .ok (.istore_n 2, 1) := by decide +kernel
theorem dX10_balanced_34 : decode cX10_balanced 34 = .ok (.aload_n 0, 1) := by decide +kernel
theorem dX10_balanced_35 : decode cX10_balanced 35 = .ok (.getfield 10, 3) := by decide +kernel
theorem dX10_balanced_38 : decode cX10_balanced 38 = .ok (.invokevirtual 146, 3) := by decide +kernel
theorem dX10_balanced_41 : decode cX10_balanced 41 = .ok (.iload_n 2, 1) := by decide +kernel
theorem dX10_balanced_42 : decode cX10_balanced 42 = .ok (.ireturn, 1) := by decide +kernel
theorem dX10_pigeonholes_0 : decode cX10_pigeonholes 0 = .ok (.iload_n 1, 1) := by decide +kernel
theorem dX10_pigeonholes_1 : decode cX10_pigeonholes 1 = .ok (.iconst 2, 1) := by decide +kernel
theorem dX10_pigeonholes_2 : decode cX10_pigeonholes 2 = .ok (.bipush 16, 2) := by decide +kernel
theorem dX10_pigeonholes_4 : decode cX10_pigeonholes 4 = .ok (.invokestatic 135, 3) := by decide +kernel
theorem dX10_pigeonholes_7 : decode cX10_pigeonholes 7 = .ok (.ifCond .eq 25, 3) := by decide +kernel
theorem dX10_pigeonholes_10 : decode cX10_pigeonholes 10 = .ok (.iload_n 2, 1) := by decide +kernel
theorem dX10_pigeonholes_11 : decode cX10_pigeonholes 11 = .ok (.iconst 1, 1) := by decide +kernel
theorem dX10_pigeonholes_12 : decode cX10_pigeonholes 12 = .ok (.iload_n 1, 1) := by decide +kernel
theorem dX10_pigeonholes_13 : decode cX10_pigeonholes 13 = .ok (.invokestatic 135, 3) := by decide +kernel
theorem dX10_pigeonholes_16 : decode cX10_pigeonholes 16 = .ok (.ifCond .eq 16, 3) := by decide +kernel
theorem dX10_pigeonholes_19 : decode cX10_pigeonholes 19 = .ok (.iload_n 3, 1) := by decide +kernel
theorem dX10_pigeonholes_20 : decode cX10_pigeonholes 20 = .ok (.iconst 0, 1) := by decide +kernel
theorem dX10_pigeonholes_21 : decode cX10_pigeonholes 21 = .ok (.iconst 2, 1) := by decide +kernel
theorem dX10_pigeonholes_22 : decode cX10_pigeonholes 22 = .ok (.invokestatic 135, 3) := by decide +kernel
theorem dX10_pigeonholes_25 : decode cX10_pigeonholes 25 = .ok (.ifCond .eq 7, 3) := by decide +kernel
theorem dX10_pigeonholes_28 : decode cX10_pigeonholes 28 = .ok (.iconst 1, 1) := by decide +kernel
theorem dX10_pigeonholes_29 : decode cX10_pigeonholes 29 = .ok (.goto 4, 3) := by decide +kernel
theorem dX10_pigeonholes_32 : decode cX10_pigeonholes 32 = .ok (.iconst 0, 1) := by decide +kernel
theorem dX10_pigeonholes_33 : decode cX10_pigeonholes 33 = .ok (.istore 4, 2) := by decide +kernel
theorem dX10_pigeonholes_35 : decode cX10_pigeonholes 35 = .ok (.iload 4, 2) := by decide +kernel
theorem dX10_pigeonholes_37 : decode cX10_pigeonholes 37 = .ok (.ifCond .eq 14, 3) := by decide +kernel
theorem dX10_pigeonholes_40 : decode cX10_pigeonholes 40 = .ok (.aload_n 0, 1) := by decide +kernel
theorem dX10_pigeonholes_41 : decode cX10_pigeonholes 41 = .ok (.getfield 10, 3) := by decide +kernel
theorem dX10_pigeonholes_44 : decode cX10_pigeonholes 44 = .ok (.iload_n 2, 1) := by decide +kernel
theorem dX10_pigeonholes_45 : decode cX10_pigeonholes 45 = .ok (.invokevirtual 139, 3) := by decide +kernel
theorem dX10_pigeonholes_48 : decode cX10_pigeonholes 48 = .ok (.ifCond .ne 5, 3) := by decide +kernel
theorem dX10_pigeonholes_51 : decode cX10_pigeonholes 51 = .ok (.iconst (-1), 1) := by decide +kernel
theorem dX10_pigeonholes_52 : decode cX10_pigeonholes 52 = .ok (.ireturn, 1) := by decide +kernel
theorem dX10_pigeonholes_53 : decode cX10_pigeonholes 53 = .ok (.aload_n 0, 1) := by decide +kernel
theorem dX10_pigeonholes_54 : decode cX10_pigeonholes 54 = .ok (.getfield 51, 3) := by decide +kernel
theorem dX10_pigeonholes_57 : decode cX10_pigeonholes 57 = .ok (.iload_n 1, 1) := by decide +kernel
theorem dX10_pigeonholes_58 : decode cX10_pigeonholes 58 = .ok (.iload_n 2, 1) := by decide +kernel
theorem dX10_pigeonholes_59 : decode cX10_pigeonholes 59 = .ok (.iload_n 3, 1) := by decide +kernel
theorem dX10_pigeonholes_60 : decode cX10_pigeonholes 60 = .ok (.invokevirtual 240, 3) := by decide +kernel
theorem dX10_pigeonholes_63 : decode cX10_pigeonholes 63 = .ok (.istore 5, 2) := by decide +kernel
theorem dX10_pigeonholes_65 : decode cX10_pigeonholes 65 = .ok (.aload_n 0, 1) := by decide +kernel
theorem dX10_pigeonholes_66 : decode cX10_pigeonholes 66 = .ok (.getfield 10, 3) := by decide +kernel
theorem dX10_pigeonholes_69 : decode cX10_pigeonholes 69 = .ok (.invokevirtual 146, 3) := by decide +kernel
theorem dX10_pigeonholes_72 : decode cX10_pigeonholes 72 = .ok (.iload 5, 2) := by decide +kernel
theorem dX10_pigeonholes_74 : decode cX10_pigeonholes 74 = .ok (.ireturn, 1) := by decide +kernel
theorem dX10_planked_0 : decode cX10_planked 0 = .ok (.iload_n 1, 1) := by decide +kernel
theorem dX10_planked_1 : decode cX10_planked 1 = .ok (.iconst 1, 1) := by decide +kernel
theorem dX10_planked_2 : decode cX10_planked 2 = .ok (.bipush 8, 2) := by decide +kernel
theorem dX10_planked_4 : decode cX10_planked 4 = .ok (.invokestatic 135, 3) := by decide +kernel
theorem dX10_planked_7 : decode cX10_planked 7 = .ok (.ifCond .eq 13, 3) := by decide +kernel
theorem dX10_planked_10 : decode cX10_planked 10 = .ok (.iload_n 2, 1) := by decide +kernel
theorem dX10_planked_11 : decode cX10_planked 11 = .ok (.iconst 1, 1) := by decide +kernel
theorem dX10_planked_12 : decode cX10_planked 12 = .ok (.bipush 8, 2) := by decide +kernel
theorem dX10_planked_14 : decode cX10_planked 14 = .ok (.invokestatic 135, 3) := by decide +kernel
theorem dX10_planked_17 : decode cX10_planked 17 = .ok (.ifCond .ne 5, 3) := by decide +kernel
theorem dX10_planked_20 : decode cX10_planked 20 = .ok (.iconst (-1), 1) := by decide +kernel
theorem dX10_planked_21 : decode cX10_planked 21 = .ok (.ireturn, 1) := by decide +kernel
theorem dX10_planked_22 : decode cX10_planked 22 = .ok (.aload_n 0, 1) := by decide +kernel
theorem dX10_planked_23 : decode cX10_planked 23 = .ok (.getfield 51, 3) := by decide +kernel
theorem dX10_planked_26 : decode cX10_planked 26 = .ok (.iload_n 1, 1) := by decide +kernel
theorem dX10_planked_27 : decode cX10_planked 27 = .ok (.iload_n 2, 1) := by decide +kernel
theorem dX10_planked_28 : decode cX10_planked 28 = .ok (.invokevirtual 243, 3) := by decide +kernel
theorem dX10_planked_31 : decode cX10_planked 31 = .ok (.ireturn, 1) := by decide +kernel
theorem dX10_unions_0 : decode cX10_unions 0 = .ok (.iload_n 1, 1) := by decide +kernel
theorem dX10_unions_1 : decode cX10_unions 1 = .ok (.iconst 2, 1) := by decide +kernel
theorem dX10_unions_2 : decode cX10_unions 2 = .ok (.bipush 16, 2) := by decide +kernel
theorem dX10_unions_4 : decode cX10_unions 4 = .ok (.invokestatic 135, 3) := by decide +kernel
theorem dX10_unions_7 : decode cX10_unions 7 = .ok (.ifCond .eq 26, 3) := by decide +kernel
theorem dX10_unions_10 : decode cX10_unions 10 = .ok (.iload_n 2, 1) := by decide +kernel
theorem dX10_unions_11 : decode cX10_unions 11 = .ok (.iconst 1, 1) := by decide +kernel
theorem dX10_unions_12 : decode cX10_unions 12 = .ok (.bipush 20, 2) := by decide +kernel
theorem dX10_unions_14 : decode cX10_unions 14 = .ok (.invokestatic 135, 3) := by decide +kernel
theorem dX10_unions_17 : decode cX10_unions 17 = .ok (.ifCond .eq 16, 3) := by decide +kernel
theorem dX10_unions_20 : decode cX10_unions 20 = .ok (.iload_n 3, 1) := by decide +kernel
theorem dX10_unions_21 : decode cX10_unions 21 = .ok (.iconst 0, 1) := by decide +kernel
theorem dX10_unions_22 : decode cX10_unions 22 = .ok (.iconst 2, 1) := by decide +kernel
theorem dX10_unions_23 : decode cX10_unions 23 = .ok (.invokestatic 135, 3) := by decide +kernel
theorem dX10_unions_26 : decode cX10_unions 26 = .ok (.ifCond .eq 7, 3) := by decide +kernel
theorem dX10_unions_29 : decode cX10_unions 29 = .ok (.iconst 1, 1) := by decide +kernel
theorem dX10_unions_30 : decode cX10_unions 30 = .ok (.goto 4, 3) := by decide +kernel
theorem dX10_unions_33 : decode cX10_unions 33 = .ok (.iconst 0, 1) := by decide +kernel
theorem dX10_unions_34 : decode cX10_unions 34 = .ok (.istore 4, 2) := by decide +kernel
theorem dX10_unions_36 : decode cX10_unions 36 = .ok (.iload 4, 2) := by decide +kernel
theorem dX10_unions_38 : decode cX10_unions 38 = .ok (.ifCond .eq 16, 3) := by decide +kernel
theorem dX10_unions_41 : decode cX10_unions 41 = .ok (.aload_n 0, 1) := by decide +kernel
theorem dX10_unions_42 : decode cX10_unions 42 = .ok (.getfield 10, 3) := by decide +kernel
theorem dX10_unions_45 : decode cX10_unions 45 = .ok (.iconst 2, 1) := by decide +kernel
theorem dX10_unions_46 : decode cX10_unions 46 = .ok (.iload_n 2, 1) := by decide +kernel
theorem dX10_unions_47 : decode cX10_unions 47 = .ok (.imul, 1) := by decide +kernel
theorem dX10_unions_48 : decode cX10_unions 48 = .ok (.invokevirtual 139, 3) := by decide +kernel
theorem dX10_unions_51 : decode cX10_unions 51 = .ok (.ifCond .ne 5, 3) := by decide +kernel
theorem dX10_unions_54 : decode cX10_unions 54 = .ok (.iconst (-1), 1) := by decide +kernel
theorem dX10_unions_55 : decode cX10_unions 55 = .ok (.ireturn, 1) := by decide +kernel
theorem dX10_unions_56 : decode cX10_unions 56 = .ok (.aload_n 0, 1) := by decide +kernel
theorem dX10_unions_57 : decode cX10_unions 57 = .ok (.getfield 51, 3) := by decide +kernel
theorem dX10_unions_60 : decode cX10_unions 60 = .ok (.iload_n 1, 1) := by decide +kernel
theorem dX10_unions_61 : decode cX10_unions 61 = .ok (.iload_n 2, 1) := by decide +kernel
theorem dX10_unions_62 : decode cX10_unions 62 = .ok (.iload_n 3, 1) := by decide +kernel
theorem dX10_unions_63 : decode cX10_unions 63 = .ok (.invokevirtual 247, 3) := by decide +kernel
theorem dX10_unions_66 : decode cX10_unions 66 = .ok (.istore 5, 2) := by decide +kernel
theorem dX10_unions_68 : decode cX10_unions 68 = .ok (.aload_n 0, 1) := by decide +kernel
theorem dX10_unions_69 : decode cX10_unions 69 = .ok (.getfield 10, 3) := by decide +kernel
theorem dX10_unions_72 : decode cX10_unions 72 = .ok (.invokevirtual 146, 3) := by decide +kernel
theorem dX10_unions_75 : decode cX10_unions 75 = .ok (.iload 5, 2) := by decide +kernel
theorem dX10_unions_77 : decode cX10_unions 77 = .ok (.ireturn, 1) := by decide +kernel
theorem dX10_heirs_0 : decode cX10_heirs 0 = .ok (.iload_n 1, 1) := by decide +kernel
theorem dX10_heirs_1 : decode cX10_heirs 1 = .ok (.iconst 1, 1) := by decide +kernel
theorem dX10_heirs_2 : decode cX10_heirs 2 = .ok (.bipush 16, 2) := by decide +kernel
theorem dX10_heirs_4 : decode cX10_heirs 4 = .ok (.invokestatic 135, 3) := by decide +kernel
theorem dX10_heirs_7 : decode cX10_heirs 7 = .ok (.ifCond .eq 26, 3) := by decide +kernel
theorem dX10_heirs_10 : decode cX10_heirs 10 = .ok (.iload_n 2, 1) := by decide +kernel
theorem dX10_heirs_11 : decode cX10_heirs 11 = .ok (.iconst 0, 1) := by decide +kernel
theorem dX10_heirs_12 : decode cX10_heirs 12 = .ok (.bipush 15, 2) := by decide +kernel
theorem dX10_heirs_14 : decode cX10_heirs 14 = .ok (.invokestatic 135, 3) := by decide +kernel
theorem dX10_heirs_17 : decode cX10_heirs 17 = .ok (.ifCond .eq 16, 3) := by decide +kernel
theorem dX10_heirs_20 : decode cX10_heirs 20 = .ok (.aload_n 0, 1) := by decide +kernel
theorem dX10_heirs_21 : decode cX10_heirs 21 = .ok (.getfield 10, 3) := by decide +kernel
theorem dX10_heirs_24 : decode cX10_heirs 24 = .ok (.iload_n 1, 1) := by decide +kernel
theorem dX10_heirs_25 : decode cX10_heirs 25 = .ok (.iconst 2, 1) := by decide +kernel
theorem dX10_heirs_26 : decode cX10_heirs 26 = .ok (.iadd, 1) := by decide +kernel
theorem dX10_heirs_27 : decode cX10_heirs 27 = .ok (.invokevirtual 139, 3) := by decide +kernel
theorem dX10_heirs_30 : decode cX10_heirs 30 = .ok (.ifCond .ne 5, 3) := by decide +kernel
theorem dX10_heirs_33 : decode cX10_heirs 33 = .ok (.iconst (-1), 1) := by decide +kernel
theorem dX10_heirs_34 : decode cX10_heirs 34 = .ok (.ireturn, 1) := by decide +kernel
theorem dX10_heirs_35 : decode cX10_heirs 35 = .ok (.aload_n 0, 1) := by decide +kernel
theorem dX10_heirs_36 : decode cX10_heirs 36 = .ok (.getfield 51, 3) := by decide +kernel
theorem dX10_heirs_39 : decode cX10_heirs 39 = .ok (.iload_n 1, 1) := by decide +kernel
theorem dX10_heirs_40 : decode cX10_heirs 40 = .ok (.iload_n 2, 1) := by decide +kernel
theorem dX10_heirs_41 : decode cX10_heirs 41 = .ok (.invokevirtual 250, 3) := by decide +kernel
theorem dX10_heirs_44 : decode cX10_heirs 44 = .ok (.istore_n 3, 1) := by decide +kernel
theorem dX10_heirs_45 : decode cX10_heirs 45 = .ok (.aload_n 0, 1) := by decide +kernel
theorem dX10_heirs_46 : decode cX10_heirs 46 = .ok (.getfield 10, 3) := by decide +kernel
theorem dX10_heirs_49 : decode cX10_heirs 49 = .ok (.invokevirtual 146, 3) := by decide +kernel
theorem dX10_heirs_52 : decode cX10_heirs 52 = .ok (.iload_n 3, 1) := by decide +kernel
theorem dX10_heirs_53 : decode cX10_heirs 53 = .ok (.ireturn, 1) := by decide +kernel
theorem dX10_heard_0 : decode cX10_heard 0 = .ok (.iload_n 1, 1) := by decide +kernel
theorem dX10_heard_1 : decode cX10_heard 1 = .ok (.iconst 1, 1) := by decide +kernel
theorem dX10_heard_2 : decode cX10_heard 2 = .ok (.bipush 10, 2) := by decide +kernel
theorem dX10_heard_4 : decode cX10_heard 4 = .ok (.invokestatic 135, 3) := by decide +kernel
theorem dX10_heard_7 : decode cX10_heard 7 = .ok (.ifCond .eq 24, 3) := by decide +kernel
theorem dX10_heard_10 : decode cX10_heard 10 = .ok (.iload_n 2, 1) := by decide +kernel
theorem dX10_heard_11 : decode cX10_heard 11 = .ok (.iconst 0, 1) := by decide +kernel
theorem dX10_heard_12 : decode cX10_heard 12 = .ok (.iload_n 1, 1) := by decide +kernel
theorem dX10_heard_13 : decode cX10_heard 13 = .ok (.iconst 1, 1) := by decide +kernel
theorem dX10_heard_14 : decode cX10_heard 14 = .ok (.isub, 1) := by decide +kernel
theorem dX10_heard_15 : decode cX10_heard 15 = .ok (.invokestatic 135, 3) := by decide +kernel
theorem dX10_heard_18 : decode cX10_heard 18 = .ok (.ifCond .ne 9, 3) := by decide +kernel
theorem dX10_heard_21 : decode cX10_heard 21 = .ok (.iload_n 2, 1) := by decide +kernel
theorem dX10_heard_22 : decode cX10_heard 22 = .ok (.bipush 100, 2) := by decide +kernel
theorem dX10_heard_24 : decode cX10_heard 24 = .ok (.if_icmp .ne 7, 3) := by decide +kernel
theorem dX10_heard_27 : decode cX10_heard 27 = .ok (.iconst 1, 1) := by decide +kernel
theorem dX10_heard_28 : decode cX10_heard 28 = .ok (.goto 4, 3) := by decide +kernel
theorem dX10_heard_31 : decode cX10_heard 31 = .ok (.iconst 0, 1) := by decide +kernel
theorem dX10_heard_32 : decode cX10_heard 32 = .ok (.istore_n 3, 1) := by decide +kernel
theorem dX10_heard_33 : decode cX10_heard 33 = .ok (.iload_n 3, 1) := by decide +kernel
theorem dX10_heard_34 : decode cX10_heard 34 = .ok (.ifCond .eq 16, 3) := by decide +kernel
theorem dX10_heard_37 : decode cX10_heard 37 = .ok (.aload_n 0, 1) := by decide +kernel
theorem dX10_heard_38 : decode cX10_heard 38 = .ok (.getfield 10, 3) := by decide +kernel
theorem dX10_heard_41 : decode cX10_heard 41 = .ok (.iconst 2, 1) := by decide +kernel
theorem dX10_heard_42 : decode cX10_heard 42 = .ok (.iload_n 1, 1) := by decide +kernel
theorem dX10_heard_43 : decode cX10_heard 43 = .ok (.imul, 1) := by decide +kernel
theorem dX10_heard_44 : decode cX10_heard 44 = .ok (.invokevirtual 139, 3) := by decide +kernel
theorem dX10_heard_47 : decode cX10_heard 47 = .ok (.ifCond .ne 5, 3) := by decide +kernel
theorem dX10_heard_50 : decode cX10_heard 50 = .ok (.iconst (-1), 1) := by decide +kernel
theorem dX10_heard_51 : decode cX10_heard 51 = .ok (.ireturn, 1) := by decide +kernel
theorem dX10_heard_52 : decode cX10_heard 52 = .ok (.iload_n 2, 1) := by decide +kernel
theorem dX10_heard_53 : decode cX10_heard 53 = .ok (.bipush 100, 2) := by decide +kernel
theorem dX10_heard_55 : decode cX10_heard 55 = .ok (.if_icmp .ne 14, 3) := by decide +kernel
theorem dX10_heard_58 : decode cX10_heard 58 = .ok (.aload_n 0, 1) := by decide +kernel
theorem dX10_heard_59 : decode cX10_heard 59 = .ok (.getfield 51, 3) := by decide +kernel
theorem dX10_heard_62 : decode cX10_heard 62 = .ok (.iload_n 1, 1) := by decide +kernel
theorem dX10_heard_63 : decode cX10_heard 63 = .ok (.invokevirtual 253, 3) := by decide +kernel
theorem dX10_heard_66 : decode cX10_heard 66 = .ok (.goto 12, 3) := by decide +kernel
theorem dX10_heard_69 : decode cX10_heard 69 = .ok (.aload_n 0, 1) := by decide +kernel
theorem dX10_heard_70 : decode cX10_heard 70 = .ok (.getfield 51, 3) := by decide +kernel
theorem dX10_heard_73 : decode cX10_heard 73 = .ok (.iload_n 1, 1) := by decide +kernel
theorem dX10_heard_74 : decode cX10_heard 74 = .ok (.iload_n 2, 1) := by decide +kernel
theorem dX10_heard_75 : decode cX10_heard 75 = .ok (.invokevirtual 256, 3) := by decide +kernel
theorem dX10_heard_78 : decode cX10_heard 78 = .ok (.istore 4, 2) := by decide +kernel
theorem dX10_heard_80 : decode cX10_heard 80 = .ok (.aload_n 0, 1) := by decide +kernel
theorem dX10_heard_81 : decode cX10_heard 81 = .ok (.getfield 10, 3) := by decide +kernel
theorem dX10_heard_84 : decode cX10_heard 84 = .ok (.invokevirtual 146, 3) := by decide +kernel
theorem dX10_heard_87 : decode cX10_heard 87 = .ok (.iload 4, 2) := by decide +kernel
theorem dX10_heard_89 : decode cX10_heard 89 = .ok (.ireturn, 1) := by decide +kernel
theorem dX10_ticks_0 : decode cX10_ticks 0 = .ok (.iload_n 1, 1) := by decide +kernel
theorem dX10_ticks_1 : decode cX10_ticks 1 = .ok (.iconst 0, 1) := by decide +kernel
theorem dX10_ticks_2 : decode cX10_ticks 2 = .ok (.sipush 1439, 3) := by decide +kernel
theorem dX10_ticks_5 : decode cX10_ticks 5 = .ok (.invokestatic 135, 3) := by decide +kernel
theorem dX10_ticks_8 : decode cX10_ticks 8 = .ok (.ifCond .eq 14, 3) := by decide +kernel
theorem dX10_ticks_11 : decode cX10_ticks 11 = .ok (.iload_n 2, 1) := by decide +kernel
theorem dX10_ticks_12 : decode cX10_ticks 12 = .ok (.iload_n 1, 1) := by decide +kernel
theorem dX10_ticks_13 : decode cX10_ticks 13 = .ok (.sipush 1439, 3) := by decide +kernel
theorem dX10_ticks_16 : decode cX10_ticks 16 = .ok (.invokestatic 135, 3) := by decide +kernel
theorem dX10_ticks_19 : decode cX10_ticks 19 = .ok (.ifCond .ne 5, 3) := by decide +kernel
theorem dX10_ticks_22 : decode cX10_ticks 22 = .ok (.iconst (-1), 1) := by decide +kernel
theorem dX10_ticks_23 : decode cX10_ticks 23 = .ok (.ireturn, 1) := by decide +kernel
theorem dX10_ticks_24 : decode cX10_ticks 24 = .ok (.iload_n 1, 1) := by decide +kernel
theorem dX10_ticks_25 : decode cX10_ticks 25 = .ok (.iload_n 2, 1) := by decide +kernel
theorem dX10_ticks_26 : decode cX10_ticks 26 = .ok (.invokestatic 259, 3) := by decide +kernel
theorem dX10_ticks_29 : decode cX10_ticks 29 = .ok (.ireturn, 1) := by decide +kernel
theorem dX10_seed_0 : decode cX10_seed 0 = .ok (.iload_n 1, 1) := by decide +kernel
theorem dX10_seed_1 : decode cX10_seed 1 = .ok (.iconst 0, 1) := by decide +kernel
theorem dX10_seed_2 : decode cX10_seed 2 = .ok (.ldc_w 262, 3) := by decide +kernel
theorem dX10_seed_5 : decode cX10_seed 5 = .ok (.invokestatic 135, 3) := by decide +kernel
theorem dX10_seed_8 : decode cX10_seed 8 = .ok (.ifCond .ne 5, 3) := by decide +kernel
theorem dX10_seed_11 : decode cX10_seed 11 = .ok (.iconst 0, 1) := by decide +kernel
theorem dX10_seed_12 : decode cX10_seed 12 = .ok (.ireturn, 1) := by decide +kernel
theorem dX10_seed_13 : decode cX10_seed 13 = .ok (.aload_n 0, 1) := by decide +kernel
theorem dX10_seed_14 : decode cX10_seed 14 = .ok (.getfield 72, 3) := by decide +kernel
theorem dX10_seed_17 : decode cX10_seed 17 = .ok (.iload_n 1, 1) := by decide +kernel
theorem dX10_seed_18 : decode cX10_seed 18 = .ok (.putfield 263, 3) := by decide +kernel
theorem dX10_seed_21 : decode cX10_seed 21 = .ok (.iconst 1, 1) := by decide +kernel
theorem dX10_seed_22 : decode cX10_seed 22 = .ok (.ireturn, 1) := by decide +kernel
theorem dX10_keep_0 : decode cX10_keep 0 = .ok (.aload_n 0, 1) := by decide +kernel
theorem dX10_keep_1 : decode cX10_keep 1 = .ok (.getfield 69, 3) := by decide +kernel
theorem dX10_keep_4 : decode cX10_keep 4 = .ok (.aload_n 0, 1) := by decide +kernel
theorem dX10_keep_5 : decode cX10_keep 5 = .ok (.getfield 72, 3) := by decide +kernel
theorem dX10_keep_8 : decode cX10_keep 8 = .ok (.invokevirtual 166, 3) := by decide +kernel
theorem dX10_keep_11 : decode cX10_keep 11 = .ok (.aload_n 0, 1) := by decide +kernel
theorem dX10_keep_12 : decode cX10_keep 12 = .ok (.iconst 1, 1) := by decide +kernel
theorem dX10_keep_13 : decode cX10_keep 13 = .ok (.putfield 97, 3) := by decide +kernel
theorem dX10_keep_16 : decode cX10_keep 16 = .ok (.aload_n 0, 1) := by decide +kernel
theorem dX10_keep_17 : decode cX10_keep 17 = .ok (.getfield 72, 3) := by decide +kernel
theorem dX10_keep_20 : decode cX10_keep 20 = .ok (.getfield 266, 3) := by decide +kernel
theorem dX10_keep_23 : decode cX10_keep 23 = .ok (.ireturn, 1) := by decide +kernel
theorem dX10_undo_0 : decode cX10_undo 0 = .ok (.aload_n 0, 1) := by decide +kernel
theorem dX10_undo_1 : decode cX10_undo 1 = .ok (.getfield 97, 3) := by decide +kernel
theorem dX10_undo_4 : decode cX10_undo 4 = .ok (.ifCond .ne 5, 3) := by decide +kernel
theorem dX10_undo_7 : decode cX10_undo 7 = .ok (.iconst 0, 1) := by decide +kernel
theorem dX10_undo_8 : decode cX10_undo 8 = .ok (.ireturn, 1) := by decide +kernel
theorem dX10_undo_9 : decode cX10_undo 9 = .ok (.aload_n 0, 1) := by decide +kernel
theorem dX10_undo_10 : decode cX10_undo 10 = .ok (.getfield 72, 3) := by decide +kernel
theorem dX10_undo_13 : decode cX10_undo 13 = .ok (.aload_n 0, 1) := by decide +kernel
theorem dX10_undo_14 : decode cX10_undo 14 = .ok (.getfield 69, 3) := by decide +kernel
theorem dX10_undo_17 : decode cX10_undo 17 = .ok (.invokevirtual 269, 3) := by decide +kernel
theorem dX10_undo_20 : decode cX10_undo 20 = .ok (.aload_n 0, 1) := by decide +kernel
theorem dX10_undo_21 : decode cX10_undo 21 = .ok (.getfield 72, 3) := by decide +kernel
theorem dX10_undo_24 : decode cX10_undo 24 = .ok (.aload_n 0, 1) := by decide +kernel
theorem dX10_undo_25 : decode cX10_undo 25 = .ok (.getfield 69, 3) := by decide +kernel
theorem dX10_undo_28 : decode cX10_undo 28 = .ok (.invokevirtual 152, 3) := by decide +kernel
theorem dX10_undo_31 : decode cX10_undo 31 = .ok (.iconst 1, 1) := by decide +kernel
theorem dX10_undo_32 : decode cX10_undo 32 = .ok (.ireturn, 1) := by decide +kernel
theorem dX10_check_0 : decode cX10_check 0 = .ok (.iload_n 1, 1) := by decide +kernel
theorem dX10_check_1 : decode cX10_check 1 = .ok (.iconst 0, 1) := by decide +kernel
theorem dX10_check_2 : decode cX10_check 2 = .ok (.bipush 12, 2) := by decide +kernel
theorem dX10_check_4 : decode cX10_check 4 = .ok (.invokestatic 135, 3) := by decide +kernel
theorem dX10_check_7 : decode cX10_check 7 = .ok (.ifCond .eq 14, 3) := by decide +kernel
theorem dX10_check_10 : decode cX10_check 10 = .ok (.aload_n 0, 1) := by decide +kernel
theorem dX10_check_11 : decode cX10_check 11 = .ok (.getfield 10, 3) := by decide +kernel
theorem dX10_check_14 : decode cX10_check 14 = .ok (.iload_n 1, 1) := by decide +kernel
theorem dX10_check_15 : decode cX10_check 15 = .ok (.invokevirtual 139, 3) := by decide +kernel
theorem dX10_check_18 : decode cX10_check 18 = .ok (.ifCond .ne 6, 3) := by decide +kernel
theorem dX10_check_21 : decode cX10_check 21 = .ok (.bipush (-2), 2) := by decide +kernel
theorem dX10_check_23 : decode cX10_check 23 = .ok (.ireturn, 1) := by decide +kernel
theorem dX10_check_24 : decode cX10_check 24 = .ok (.aload_n 0, 1) := by decide +kernel
theorem dX10_check_25 : decode cX10_check 25 = .ok (.iload_n 1, 1) := by decide +kernel
theorem dX10_check_26 : decode cX10_check 26 = .ok (.invokevirtual 272, 3) := by decide +kernel
theorem dX10_check_29 : decode cX10_check 29 = .ok (.istore_n 2, 1) := by decide +kernel
theorem dX10_check_30 : decode cX10_check 30 = .ok (.aload_n 0, 1) := by decide +kernel
theorem dX10_check_31 : decode cX10_check 31 = .ok (.getfield 10, 3) := by decide +kernel
theorem dX10_check_34 : decode cX10_check 34 = .ok (.invokevirtual 146, 3) := by decide +kernel
theorem dX10_check_37 : decode cX10_check 37 = .ok (.iload_n 2, 1) := by decide +kernel
theorem dX10_check_38 : decode cX10_check 38 = .ok (.ireturn, 1) := by decide +kernel
theorem dX10_firstUnlike_0 : decode cX10_firstUnlike 0 = .ok (.iconst 0, 1) := by decide +kernel
theorem dX10_firstUnlike_1 : decode cX10_firstUnlike 1 = .ok (.istore_n 2, 1) := by decide +kernel
theorem dX10_firstUnlike_2 : decode cX10_firstUnlike 2 = .ok (.iload_n 2, 1) := by decide +kernel
theorem dX10_firstUnlike_3 : decode cX10_firstUnlike 3 = .ok (.iload_n 1, 1) := by decide +kernel
theorem dX10_firstUnlike_4 : decode cX10_firstUnlike 4 = .ok (.if_icmp .ge 50, 3) := by decide +kernel
theorem dX10_firstUnlike_7 : decode cX10_firstUnlike 7 = .ok (.aload_n 0, 1) := by decide +kernel
theorem dX10_firstUnlike_8 : decode cX10_firstUnlike 8 = .ok (.getfield 72, 3) := by decide +kernel
theorem dX10_firstUnlike_11 : decode cX10_firstUnlike 11 = .ok (.iload_n 2, 1) := by decide +kernel
theorem dX10_firstUnlike_12 : decode cX10_firstUnlike 12 = .ok (.invokevirtual 109, 3) := by decide +kernel
theorem dX10_firstUnlike_15 : decode cX10_firstUnlike 15 = .ok (.ifCond .eq 15, 3) := by decide +kernel
theorem dX10_firstUnlike_18 : decode cX10_firstUnlike 18 = .ok (.aload_n 0, 1) := by decide +kernel
theorem dX10_firstUnlike_19 : decode cX10_firstUnlike 19 = .ok (.getfield 72, 3) := by decide +kernel
theorem dX10_firstUnlike_22 : decode cX10_firstUnlike 22 = .ok (.getfield 169, 3) := by decide +kernel
theorem dX10_firstUnlike_25 : decode cX10_firstUnlike 25 = .ok (.iload_n 2, 1) := by decide +kernel
theorem dX10_firstUnlike_26 : decode cX10_firstUnlike 26 = .ok (.iaload, 1) := by decide +kernel
theorem dX10_firstUnlike_27 : decode cX10_firstUnlike 27 = .ok (.goto 6, 3) := by decide +kernel
theorem dX10_firstUnlike_30 : decode cX10_firstUnlike 30 = .ok (.sipush 255, 3) := by decide +kernel
theorem dX10_firstUnlike_33 : decode cX10_firstUnlike 33 = .ok (.istore_n 3, 1) := by decide +kernel
theorem dX10_firstUnlike_34 : decode cX10_firstUnlike 34 = .ok (.aload_n 0, 1) := by decide +kernel
theorem dX10_firstUnlike_35 : decode cX10_firstUnlike 35 = .ok (.getfield 10, 3) := by decide +kernel
theorem dX10_firstUnlike_38 : decode cX10_firstUnlike 38 = .ok (.iload_n 2, 1) := by decide +kernel
theorem dX10_firstUnlike_39 : decode cX10_firstUnlike 39 = .ok (.invokevirtual 275, 3) := by decide +kernel
theorem dX10_firstUnlike_42 : decode cX10_firstUnlike 42 = .ok (.iload_n 3, 1) := by decide +kernel
theorem dX10_firstUnlike_43 : decode cX10_firstUnlike 43 = .ok (.if_icmp .eq 5, 3) := by decide +kernel
theorem dX10_firstUnlike_46 : decode cX10_firstUnlike 46 = .ok (.iload_n 2, 1) := by decide +kernel
theorem dX10_firstUnlike_47 : decode cX10_firstUnlike 47 = .ok (.ireturn, 1) := by decide +kernel
theorem dX10_firstUnlike_48 : decode cX10_firstUnlike 48 = .ok (.iinc 2 1, 3) := by decide +kernel
theorem dX10_firstUnlike_51 : decode cX10_firstUnlike 51 = .ok (.goto (-49), 3) := by decide +kernel
theorem dX10_firstUnlike_54 : decode cX10_firstUnlike 54 = .ok (.iconst (-1), 1) := by decide +kernel
theorem dX10_firstUnlike_55 : decode cX10_firstUnlike 55 = .ok (.ireturn, 1) := by decide +kernel
theorem dX10_count_0 : decode cX10_count 0 = .ok (.iload_n 1, 1) := by decide +kernel
theorem dX10_count_1 : decode cX10_count 1 = .ok (.tableswitch 135 0 9 #[55, 63, 71, 79, 87, 95, 103, 111, 119, 127], 55) := by decide +kernel
theorem dX10_count_56 : decode cX10_count 56 = .ok (.aload_n 0, 1) := by decide +kernel
theorem dX10_count_57 : decode cX10_count 57 = .ok (.getfield 72, 3) := by decide +kernel
theorem dX10_count_60 : decode cX10_count 60 = .ok (.getfield 266, 3) := by decide +kernel
theorem dX10_count_63 : decode cX10_count 63 = .ok (.ireturn, 1) := by decide +kernel
theorem dX10_count_64 : decode cX10_count 64 = .ok (.aload_n 0, 1) := by decide +kernel
theorem dX10_count_65 : decode cX10_count 65 = .ok (.getfield 72, 3) := by decide +kernel
theorem dX10_count_68 : decode cX10_count 68 = .ok (.invokevirtual 278, 3) := by decide +kernel
theorem dX10_count_71 : decode cX10_count 71 = .ok (.ireturn, 1) := by decide +kernel
theorem dX10_count_72 : decode cX10_count 72 = .ok (.aload_n 0, 1) := by decide +kernel
theorem dX10_count_73 : decode cX10_count 73 = .ok (.getfield 72, 3) := by decide +kernel
theorem dX10_count_76 : decode cX10_count 76 = .ok (.getfield 200, 3) := by decide +kernel
theorem dX10_count_79 : decode cX10_count 79 = .ok (.ireturn, 1) := by decide +kernel
theorem dX10_count_80 : decode cX10_count 80 = .ok (.aload_n 0, 1) := by decide +kernel
theorem dX10_count_81 : decode cX10_count 81 = .ok (.getfield 72, 3) := by decide +kernel
theorem dX10_count_84 : decode cX10_count 84 = .ok (.invokevirtual 175, 3) := by decide +kernel
theorem dX10_count_87 : decode cX10_count 87 = .ok (.ireturn, 1) := by decide +kernel
theorem dX10_count_88 : decode cX10_count 88 = .ok (.aload_n 0, 1) := by decide +kernel
theorem dX10_count_89 : decode cX10_count 89 = .ok (.getfield 72, 3) := by decide +kernel
theorem dX10_count_92 : decode cX10_count 92 = .ok (.invokevirtual 179, 3) := by decide +kernel
theorem dX10_count_95 : decode cX10_count 95 = .ok (.ireturn, 1) := by decide +kernel
theorem dX10_count_96 : decode cX10_count 96 = .ok (.aload_n 0, 1) := by decide +kernel
theorem dX10_count_97 : decode cX10_count 97 = .ok (.getfield 81, 3) := by decide +kernel
theorem dX10_count_100 : decode cX10_count 100 = .ok (.getfield 281, 3) := by decide +kernel
theorem dX10_count_103 : decode cX10_count 103 = .ok (.ireturn, 1) := by decide +kernel
theorem dX10_count_104 : decode cX10_count 104 = .ok (.aload_n 0, 1) := by decide +kernel
theorem dX10_count_105 : decode cX10_count 105 = .ok (.getfield 10, 3) := by decide +kernel
theorem dX10_count_108 : decode cX10_count 108 = .ok (.getfield 131, 3) := by decide +kernel
theorem dX10_count_111 : decode cX10_count 111 = .ok (.ireturn, 1) := by decide +kernel
theorem dX10_count_112 : decode cX10_count 112 = .ok (.aload_n 0, 1) := by decide +kernel
theorem dX10_count_113 : decode cX10_count 113 = .ok (.getfield 72, 3) := by decide +kernel
theorem dX10_count_116 : decode cX10_count 116 = .ok (.getfield 263, 3) := by decide +kernel
theorem dX10_count_119 : decode cX10_count 119 = .ok (.ireturn, 1) := by decide +kernel
theorem dX10_count_120 : decode cX10_count 120 = .ok (.aload_n 0, 1) := by decide +kernel
theorem dX10_count_121 : decode cX10_count 121 = .ok (.getfield 72, 3) := by decide +kernel
theorem dX10_count_124 : decode cX10_count 124 = .ok (.invokevirtual 284, 3) := by decide +kernel
theorem dX10_count_127 : decode cX10_count 127 = .ok (.ireturn, 1) := by decide +kernel
theorem dX10_count_128 : decode cX10_count 128 = .ok (.aload_n 0, 1) := by decide +kernel
theorem dX10_count_129 : decode cX10_count 129 = .ok (.getfield 72, 3) := by decide +kernel
theorem dX10_count_132 : decode cX10_count 132 = .ok (.invokevirtual 287, 3) := by decide +kernel
theorem dX10_count_135 : decode cX10_count 135 = .ok (.ireturn, 1) := by decide +kernel
theorem dX10_count_136 : decode cX10_count 136 = .ok (.iconst (-1), 1) := by decide +kernel
theorem dX10_count_137 : decode cX10_count 137 = .ok (.ireturn, 1) := by decide +kernel
theorem dX10_isFromTo_0 : decode cX10_isFromTo 0 = .ok (.iload_n 0, 1) := by decide +kernel
theorem dX10_isFromTo_1 : decode cX10_isFromTo 1 = .ok (.iload_n 1, 1) := by decide +kernel
theorem dX10_isFromTo_2 : decode cX10_isFromTo 2 = .ok (.if_icmp .lt 12, 3) := by decide +kernel
theorem dX10_isFromTo_5 : decode cX10_isFromTo 5 = .ok (.iload_n 0, 1) := by decide +kernel
theorem dX10_isFromTo_6 : decode cX10_isFromTo 6 = .ok (.iload_n 2, 1) := by decide +kernel
theorem dX10_isFromTo_7 : decode cX10_isFromTo 7 = .ok (.if_icmp .gt 7, 3) := by decide +kernel
theorem dX10_isFromTo_10 : decode cX10_isFromTo 10 = .ok (.iconst 1, 1) := by decide +kernel
theorem dX10_isFromTo_11 : decode cX10_isFromTo 11 = .ok (.goto 4, 3) := by decide +kernel
theorem dX10_isFromTo_14 : decode cX10_isFromTo 14 = .ok (.iconst 0, 1) := by decide +kernel
theorem dX10_isFromTo_15 : decode cX10_isFromTo 15 = .ok (.ireturn, 1) := by decide +kernel
theorem dL_law_0 : decode cL_law 0 = .ok (.new 7, 3) := by decide +kernel
theorem dL_law_3 : decode cL_law 3 = .ok (.dup, 1) := by decide +kernel
theorem dL_law_4 : decode cL_law 4 = .ok (.invokespecial 9, 3) := by decide +kernel
theorem dL_law_7 : decode cL_law 7 = .ok (.astore_n 1, 1) := by decide +kernel
theorem dL_law_8 : decode cL_law 8 = .ok (.new 10, 3) := by decide +kernel
theorem dL_law_11 : decode cL_law 11 = .ok (.dup, 1) := by decide +kernel
theorem dL_law_12 : decode cL_law 12 = .ok (.invokespecial 12, 3) := by decide +kernel
theorem dL_law_15 : decode cL_law 15 = .ok (.astore_n 2, 1) := by decide +kernel
theorem dL_law_16 : decode cL_law 16 = .ok (.iconst 0, 1) := by decide +kernel
theorem dL_law_17 : decode cL_law 17 = .ok (.istore_n 3, 1) := by decide +kernel
theorem dL_law_18 : decode cL_law 18 = .ok (.iload_n 3, 1) := by decide +kernel
theorem dL_law_19 : decode cL_law 19 = .ok (.aload_n 0, 1) := by decide +kernel
theorem dL_law_20 : decode cL_law 20 = .ok (.arraylength, 1) := by decide +kernel
theorem dL_law_21 : decode cL_law 21 = .ok (.bipush 6, 2) := by decide +kernel
theorem dL_law_23 : decode cL_law 23 = .ok (.isub, 1) := by decide +kernel
theorem dL_law_24 : decode cL_law 24 = .ok (.if_icmp .gt 973, 3) := by decide +kernel
theorem dL_law_27 : decode cL_law 27 = .ok (.aload_n 0, 1) := by decide +kernel
theorem dL_law_28 : decode cL_law 28 = .ok (.iload_n 3, 1) := by decide +kernel
theorem dL_law_29 : decode cL_law 29 = .ok (.iaload, 1) := by decide +kernel
theorem dL_law_30 : decode cL_law 30 = .ok (.bipush 31, 2) := by decide +kernel
theorem dL_law_32 : decode cL_law 32 = .ok (.iand, 1) := by decide +kernel
theorem dL_law_33 : decode cL_law 33 = .ok (.tableswitch 958 0 28 #[131, 164, 227, 250, 273, 296, 329, 362, 395, 418, 431, 454, 487, 500, 533, 576, 599, 622, 645, 688, 721, 764, 797, 830, 863, 886, 899, 912, 935], 131) := by decide +kernel
theorem dL_law_164 : decode cL_law 164 = .ok (.aload_n 1, 1) := by decide +kernel
theorem dL_law_165 : decode cL_law 165 = .ok (.aload_n 0, 1) := by decide +kernel
theorem dL_law_166 : decode cL_law 166 = .ok (.iload_n 3, 1) := by decide +kernel
theorem dL_law_167 : decode cL_law 167 = .ok (.iconst 1, 1) := by decide +kernel
theorem dL_law_168 : decode cL_law 168 = .ok (.iadd, 1) := by decide +kernel
theorem dL_law_169 : decode cL_law 169 = .ok (.iaload, 1) := by decide +kernel
theorem dL_law_170 : decode cL_law 170 = .ok (.aload_n 0, 1) := by decide +kernel
theorem dL_law_171 : decode cL_law 171 = .ok (.iload_n 3, 1) := by decide +kernel
theorem dL_law_172 : decode cL_law 172 = .ok (.iconst 2, 1) := by decide +kernel
theorem dL_law_173 : decode cL_law 173 = .ok (.iadd, 1) := by decide +kernel
theorem dL_law_174 : decode cL_law 174 = .ok (.iaload, 1) := by decide +kernel
theorem dL_law_175 : decode cL_law 175 = .ok (.invokevirtual 13, 3) := by decide +kernel
theorem dL_law_178 : decode cL_law 178 = .ok (.aload_n 2, 1) := by decide +kernel
theorem dL_law_179 : decode cL_law 179 = .ok (.aload_n 0, 1) := by decide +kernel
theorem dL_law_180 : decode cL_law 180 = .ok (.iload_n 3, 1) := by decide +kernel
theorem dL_law_181 : decode cL_law 181 = .ok (.iconst 1, 1) := by decide +kernel
theorem dL_law_182 : decode cL_law 182 = .ok (.iadd, 1) := by decide +kernel
theorem dL_law_183 : decode cL_law 183 = .ok (.iaload, 1) := by decide +kernel
theorem dL_law_184 : decode cL_law 184 = .ok (.aload_n 0, 1) := by decide +kernel
theorem dL_law_185 : decode cL_law 185 = .ok (.iload_n 3, 1) := by decide +kernel
theorem dL_law_186 : decode cL_law 186 = .ok (.iconst 2, 1) := by decide +kernel
theorem dL_law_187 : decode cL_law 187 = .ok (.iadd, 1) := by decide +kernel
theorem dL_law_188 : decode cL_law 188 = .ok (.iaload, 1) := by decide +kernel
theorem dL_law_189 : decode cL_law 189 = .ok (.invokevirtual 17, 3) := by decide +kernel
theorem dL_law_192 : decode cL_law 192 = .ok (.if_icmp .eq 799, 3) := by decide +kernel
theorem dL_law_195 : decode cL_law 195 = .ok (.iconst 0, 1) := by decide +kernel
theorem dL_law_196 : decode cL_law 196 = .ok (.ireturn, 1) := by decide +kernel
theorem dL_law_197 : decode cL_law 197 = .ok (.aload_n 1, 1) := by decide +kernel
theorem dL_law_198 : decode cL_law 198 = .ok (.aload_n 0, 1) := by decide +kernel
theorem dL_law_199 : decode cL_law 199 = .ok (.iload_n 3, 1) := by decide +kernel
theorem dL_law_200 : decode cL_law 200 = .ok (.iconst 1, 1) := by decide +kernel
theorem dL_law_201 : decode cL_law 201 = .ok (.iadd, 1) := by decide +kernel
theorem dL_law_202 : decode cL_law 202 = .ok (.iaload, 1) := by decide +kernel
theorem dL_law_203 : decode cL_law 203 = .ok (.aload_n 0, 1) := by decide +kernel
theorem dL_law_204 : decode cL_law 204 = .ok (.iload_n 3, 1) := by decide +kernel
theorem dL_law_205 : decode cL_law 205 = .ok (.iconst 2, 1) := by decide +kernel
theorem dL_law_206 : decode cL_law 206 = .ok (.iadd, 1) := by decide +kernel
theorem dL_law_207 : decode cL_law 207 = .ok (.iaload, 1) := by decide +kernel
theorem dL_law_208 : decode cL_law 208 = .ok (.aload_n 0, 1) := by decide +kernel
theorem dL_law_209 : decode cL_law 209 = .ok (.iload_n 3, 1) := by decide +kernel
theorem dL_law_210 : decode cL_law 210 = .ok (.iconst 3, 1) := by decide +kernel
theorem dL_law_211 : decode cL_law 211 = .ok (.iadd, 1) := by decide +kernel
theorem dL_law_212 : decode cL_law 212 = .ok (.iaload, 1) := by decide +kernel
theorem dL_law_213 : decode cL_law 213 = .ok (.aload_n 0, 1) := by decide +kernel
theorem dL_law_214 : decode cL_law 214 = .ok (.iload_n 3, 1) := by decide +kernel
theorem dL_law_215 : decode cL_law 215 = .ok (.iconst 4, 1) := by decide +kernel
theorem dL_law_216 : decode cL_law 216 = .ok (.iadd, 1) := by decide +kernel
theorem dL_law_217 : decode cL_law 217 = .ok (.iaload, 1) := by decide +kernel
theorem dL_law_218 : decode cL_law 218 = .ok (.aload_n 0, 1) := by decide +kernel
theorem dL_law_219 : decode cL_law 219 = .ok (.iload_n 3, 1) := by decide +kernel
theorem dL_law_220 : decode cL_law 220 = .ok (.iconst 5, 1) := by decide +kernel
theorem dL_law_221 : decode cL_law 221 = .ok (.iadd, 1) := by decide +kernel
theorem dL_law_222 : decode cL_law 222 = .ok (.iaload, 1) := by decide +kernel
theorem dL_law_223 : decode cL_law 223 = .ok (.invokevirtual 18, 3) := by decide +kernel
theorem dL_law_226 : decode cL_law 226 = .ok (.aload_n 2, 1) := by decide +kernel
theorem dL_law_227 : decode cL_law 227 = .ok (.aload_n 0, 1) := by decide +kernel
theorem dL_law_228 : decode cL_law 228 = .ok (.iload_n 3, 1) := by decide +kernel
theorem dL_law_229 : decode cL_law 229 = .ok (.iconst 1, 1) := by decide +kernel
theorem dL_law_230 : decode cL_law 230 = .ok (.iadd, 1) := by decide +kernel
theorem dL_law_231 : decode cL_law 231 = .ok (.iaload, 1) := by decide +kernel
theorem dL_law_232 : decode cL_law 232 = .ok (.aload_n 0, 1) := by decide +kernel
theorem dL_law_233 : decode cL_law 233 = .ok (.iload_n 3, 1) := by decide +kernel
theorem dL_law_234 : decode cL_law 234 = .ok (.iconst 2, 1) := by decide +kernel
theorem dL_law_235 : decode cL_law 235 = .ok (.iadd, 1) := by decide +kernel
theorem dL_law_236 : decode cL_law 236 = .ok (.iaload, 1) := by decide +kernel
theorem dL_law_237 : decode cL_law 237 = .ok (.aload_n 0, 1) := by decide +kernel
theorem dL_law_238 : decode cL_law 238 = .ok (.iload_n 3, 1) := by decide +kernel
theorem dL_law_239 : decode cL_law 239 = .ok (.iconst 3, 1) := by decide +kernel
theorem dL_law_240 : decode cL_law 240 = .ok (.iadd, 1) := by decide +kernel
theorem dL_law_241 : decode cL_law 241 = .ok (.iaload, 1) := by decide +kernel
theorem dL_law_242 : decode cL_law 242 = .ok (.aload_n 0, 1) := by decide +kernel
theorem dL_law_243 : decode cL_law 243 = .ok (.iload_n 3, 1) := by decide +kernel
theorem dL_law_244 : decode cL_law 244 = .ok (.iconst 4, 1) := by decide +kernel
theorem dL_law_245 : decode cL_law 245 = .ok (.iadd, 1) := by decide +kernel
theorem dL_law_246 : decode cL_law 246 = .ok (.iaload, 1) := by decide +kernel
theorem dL_law_247 : decode cL_law 247 = .ok (.aload_n 0, 1) := by decide +kernel
theorem dL_law_248 : decode cL_law 248 = .ok (.iload_n 3, 1) := by decide +kernel
theorem dL_law_249 : decode cL_law 249 = .ok (.iconst 5, 1) := by decide +kernel
theorem dL_law_250 : decode cL_law 250 = .ok (.iadd, 1) := by decide +kernel
theorem dL_law_251 : decode cL_law 251 = .ok (.iaload, 1) := by decide +kernel
theorem dL_law_252 : decode cL_law 252 = .ok (.invokevirtual 22, 3) := by decide +kernel
theorem dL_law_255 : decode cL_law 255 = .ok (.if_icmp .eq 736, 3) := by decide +kernel
theorem dL_law_258 : decode cL_law 258 = .ok (.iconst 0, 1) := by decide +kernel
theorem dL_law_259 : decode cL_law 259 = .ok (.ireturn, 1) := by decide +kernel
theorem dL_law_260 : decode cL_law 260 = .ok (.aload_n 1, 1) := by decide +kernel
theorem dL_law_261 : decode cL_law 261 = .ok (.aload_n 0, 1) := by decide +kernel
theorem dL_law_262 : decode cL_law 262 = .ok (.iload_n 3, 1) := by decide +kernel
theorem dL_law_263 : decode cL_law 263 = .ok (.iconst 1, 1) := by decide +kernel
theorem dL_law_264 : decode cL_law 264 = .ok (.iadd, 1) := by decide +kernel
theorem dL_law_265 : decode cL_law 265 = .ok (.iaload, 1) := by decide +kernel
theorem dL_law_266 : decode cL_law 266 = .ok (.invokevirtual 23, 3) := by decide +kernel
theorem dL_law_269 : decode cL_law 269 = .ok (.aload_n 2, 1) := by decide +kernel
theorem dL_law_270 : decode cL_law 270 = .ok (.aload_n 0, 1) := by decide +kernel
theorem dL_law_271 : decode cL_law 271 = .ok (.iload_n 3, 1) := by decide +kernel
theorem dL_law_272 : decode cL_law 272 = .ok (.iconst 1, 1) := by decide +kernel
theorem dL_law_273 : decode cL_law 273 = .ok (.iadd, 1) := by decide +kernel
theorem dL_law_274 : decode cL_law 274 = .ok (.iaload, 1) := by decide +kernel
theorem dL_law_275 : decode cL_law 275 = .ok (.invokevirtual 27, 3) := by decide +kernel
theorem dL_law_278 : decode cL_law 278 = .ok (.if_icmp .eq 713, 3) := by decide +kernel
theorem dL_law_281 : decode cL_law 281 = .ok (.iconst 0, 1) := by decide +kernel
theorem dL_law_282 : decode cL_law 282 = .ok (.ireturn, 1) := by decide +kernel
theorem dL_law_283 : decode cL_law 283 = .ok (.aload_n 1, 1) := by decide +kernel
theorem dL_law_284 : decode cL_law 284 = .ok (.aload_n 0, 1) := by decide +kernel
theorem dL_law_285 : decode cL_law 285 = .ok (.iload_n 3, 1) := by decide +kernel
theorem dL_law_286 : decode cL_law 286 = .ok (.iconst 1, 1) := by decide +kernel
theorem dL_law_287 : decode cL_law 287 = .ok (.iadd, 1) := by decide +kernel
theorem dL_law_288 : decode cL_law 288 = .ok (.iaload, 1) := by decide +kernel
theorem dL_law_289 : decode cL_law 289 = .ok (.invokevirtual 28, 3) := by decide +kernel
theorem dL_law_292 : decode cL_law 292 = .ok (.aload_n 2, 1) := by decide +kernel
theorem dL_law_293 : decode cL_law 293 = .ok (.aload_n 0, 1) := by decide +kernel
theorem dL_law_294 : decode cL_law 294 = .ok (.iload_n 3, 1) := by decide +kernel
theorem dL_law_295 : decode cL_law 295 = .ok (.iconst 1, 1) := by decide +kernel
theorem dL_law_296 : decode cL_law 296 = .ok (.iadd, 1) := by decide +kernel
theorem dL_law_297 : decode cL_law 297 = .ok (.iaload, 1) := by decide +kernel
theorem dL_law_298 : decode cL_law 298 = .ok (.invokevirtual 31, 3) := by decide +kernel
theorem dL_law_301 : decode cL_law 301 = .ok (.if_icmp .eq 690, 3) := by decide +kernel
theorem dL_law_304 : decode cL_law 304 = .ok (.iconst 0, 1) := by decide +kernel
theorem dL_law_305 : decode cL_law 305 = .ok (.ireturn, 1) := by decide +kernel
theorem dL_law_306 : decode cL_law 306 = .ok (.aload_n 1, 1) := by decide +kernel
theorem dL_law_307 : decode cL_law 307 = .ok (.aload_n 0, 1) := by decide +kernel
theorem dL_law_308 : decode cL_law 308 = .ok (.iload_n 3, 1) := by decide +kernel
theorem dL_law_309 : decode cL_law 309 = .ok (.iconst 1, 1) := by decide +kernel
theorem dL_law_310 : decode cL_law 310 = .ok (.iadd, 1) := by decide +kernel
theorem dL_law_311 : decode cL_law 311 = .ok (.iaload, 1) := by decide +kernel
theorem dL_law_312 : decode cL_law 312 = .ok (.invokevirtual 32, 3) := by decide +kernel
theorem dL_law_315 : decode cL_law 315 = .ok (.aload_n 2, 1) := by decide +kernel
theorem dL_law_316 : decode cL_law 316 = .ok (.aload_n 0, 1) := by decide +kernel
theorem dL_law_317 : decode cL_law 317 = .ok (.iload_n 3, 1) := by decide +kernel
theorem dL_law_318 : decode cL_law 318 = .ok (.iconst 1, 1) := by decide +kernel
theorem dL_law_319 : decode cL_law 319 = .ok (.iadd, 1) := by decide +kernel
theorem dL_law_320 : decode cL_law 320 = .ok (.iaload, 1) := by decide +kernel
theorem dL_law_321 : decode cL_law 321 = .ok (.invokevirtual 35, 3) := by decide +kernel
theorem dL_law_324 : decode cL_law 324 = .ok (.if_icmp .eq 667, 3) := by decide +kernel
theorem dL_law_327 : decode cL_law 327 = .ok (.iconst 0, 1) := by decide +kernel
theorem dL_law_328 : decode cL_law 328 = .ok (.ireturn, 1) := by decide +kernel
theorem dL_law_329 : decode cL_law 329 = .ok (.aload_n 1, 1) := by decide +kernel
theorem dL_law_330 : decode cL_law 330 = .ok (.aload_n 0, 1) := by decide +kernel
theorem dL_law_331 : decode cL_law 331 = .ok (.iload_n 3, 1) := by decide +kernel
theorem dL_law_332 : decode cL_law 332 = .ok (.iconst 1, 1) := by decide +kernel
theorem dL_law_333 : decode cL_law 333 = .ok (.iadd, 1) := by decide +kernel
theorem dL_law_334 : decode cL_law 334 = .ok (.iaload, 1) := by decide +kernel
theorem dL_law_335 : decode cL_law 335 = .ok (.aload_n 0, 1) := by decide +kernel
theorem dL_law_336 : decode cL_law 336 = .ok (.iload_n 3, 1) := by decide +kernel
theorem dL_law_337 : decode cL_law 337 = .ok (.iconst 2, 1) := by decide +kernel
theorem dL_law_338 : decode cL_law 338 = .ok (.iadd, 1) := by decide +kernel
theorem dL_law_339 : decode cL_law 339 = .ok (.iaload, 1) := by decide +kernel
theorem dL_law_340 : decode cL_law 340 = .ok (.invokevirtual 36, 3) := by decide +kernel
theorem dL_law_343 : decode cL_law 343 = .ok (.aload_n 2, 1) := by decide +kernel
theorem dL_law_344 : decode cL_law 344 = .ok (.aload_n 0, 1) := by decide +kernel
theorem dL_law_345 : decode cL_law 345 = .ok (.iload_n 3, 1) := by decide +kernel
theorem dL_law_346 : decode cL_law 346 = .ok (.iconst 1, 1) := by decide +kernel
theorem dL_law_347 : decode cL_law 347 = .ok (.iadd, 1) := by decide +kernel
theorem dL_law_348 : decode cL_law 348 = .ok (.iaload, 1) := by decide +kernel
theorem dL_law_349 : decode cL_law 349 = .ok (.aload_n 0, 1) := by decide +kernel
theorem dL_law_350 : decode cL_law 350 = .ok (.iload_n 3, 1) := by decide +kernel
theorem dL_law_351 : decode cL_law 351 = .ok (.iconst 2, 1) := by decide +kernel
theorem dL_law_352 : decode cL_law 352 = .ok (.iadd, 1) := by decide +kernel
theorem dL_law_353 : decode cL_law 353 = .ok (.iaload, 1) := by decide +kernel
theorem dL_law_354 : decode cL_law 354 = .ok (.invokevirtual 40, 3) := by decide +kernel
theorem dL_law_357 : decode cL_law 357 = .ok (.if_icmp .eq 634, 3) := by decide +kernel
theorem dL_law_360 : decode cL_law 360 = .ok (.iconst 0, 1) := by decide +kernel
theorem dL_law_361 : decode cL_law 361 = .ok (.ireturn, 1) := by decide +kernel
theorem dL_law_362 : decode cL_law 362 = .ok (.aload_n 1, 1) := by decide +kernel
theorem dL_law_363 : decode cL_law 363 = .ok (.aload_n 0, 1) := by decide +kernel
theorem dL_law_364 : decode cL_law 364 = .ok (.iload_n 3, 1) := by decide +kernel
theorem dL_law_365 : decode cL_law 365 = .ok (.iconst 1, 1) := by decide +kernel
theorem dL_law_366 : decode cL_law 366 = .ok (.iadd, 1) := by decide +kernel
theorem dL_law_367 : decode cL_law 367 = .ok (.iaload, 1) := by decide +kernel
theorem dL_law_368 : decode cL_law 368 = .ok (.aload_n 0, 1) := by decide +kernel
theorem dL_law_369 : decode cL_law 369 = .ok (.iload_n 3, 1) := by decide +kernel
theorem dL_law_370 : decode cL_law 370 = .ok (.iconst 2, 1) := by decide +kernel
theorem dL_law_371 : decode cL_law 371 = .ok (.iadd, 1) := by decide +kernel
theorem dL_law_372 : decode cL_law 372 = .ok (.iaload, 1) := by decide +kernel
theorem dL_law_373 : decode cL_law 373 = .ok (.invokevirtual 41, 3) := by decide +kernel
theorem dL_law_376 : decode cL_law 376 = .ok (.aload_n 2, 1) := by decide +kernel
theorem dL_law_377 : decode cL_law 377 = .ok (.aload_n 0, 1) := by decide +kernel
theorem dL_law_378 : decode cL_law 378 = .ok (.iload_n 3, 1) := by decide +kernel
theorem dL_law_379 : decode cL_law 379 = .ok (.iconst 1, 1) := by decide +kernel
theorem dL_law_380 : decode cL_law 380 = .ok (.iadd, 1) := by decide +kernel
theorem dL_law_381 : decode cL_law 381 = .ok (.iaload, 1) := by decide +kernel
theorem dL_law_382 : decode cL_law 382 = .ok (.aload_n 0, 1) := by decide +kernel
theorem dL_law_383 : decode cL_law 383 = .ok (.iload_n 3, 1) := by decide +kernel
theorem dL_law_384 : decode cL_law 384 = .ok (.iconst 2, 1) := by decide +kernel
theorem dL_law_385 : decode cL_law 385 = .ok (.iadd, 1) := by decide +kernel
theorem dL_law_386 : decode cL_law 386 = .ok (.iaload, 1) := by decide +kernel
theorem dL_law_387 : decode cL_law 387 = .ok (.invokevirtual 44, 3) := by decide +kernel
theorem dL_law_390 : decode cL_law 390 = .ok (.if_icmp .eq 601, 3) := by decide +kernel
theorem dL_law_393 : decode cL_law 393 = .ok (.iconst 0, 1) := by decide +kernel
theorem dL_law_394 : decode cL_law 394 = .ok (.ireturn, 1) := by decide +kernel
theorem dL_law_395 : decode cL_law 395 = .ok (.aload_n 1, 1) := by decide +kernel
theorem dL_law_396 : decode cL_law 396 = .ok (.aload_n 0, 1) := by decide +kernel
theorem dL_law_397 : decode cL_law 397 = .ok (.iload_n 3, 1) := by decide +kernel
theorem dL_law_398 : decode cL_law 398 = .ok (.iconst 1, 1) := by decide +kernel
theorem dL_law_399 : decode cL_law 399 = .ok (.iadd, 1) := by decide +kernel
theorem dL_law_400 : decode cL_law 400 = .ok (.iaload, 1) := by decide +kernel
theorem dL_law_401 : decode cL_law 401 = .ok (.aload_n 0, 1) := by decide +kernel
theorem dL_law_402 : decode cL_law 402 = .ok (.iload_n 3, 1) := by decide +kernel
theorem dL_law_403 : decode cL_law 403 = .ok (.iconst 2, 1) := by decide +kernel
theorem dL_law_404 : decode cL_law 404 = .ok (.iadd, 1) := by decide +kernel
theorem dL_law_405 : decode cL_law 405 = .ok (.iaload, 1) := by decide +kernel
theorem dL_law_406 : decode cL_law 406 = .ok (.invokevirtual 45, 3) := by decide +kernel
theorem dL_law_409 : decode cL_law 409 = .ok (.aload_n 2, 1) := by decide +kernel
theorem dL_law_410 : decode cL_law 410 = .ok (.aload_n 0, 1) := by decide +kernel
theorem dL_law_411 : decode cL_law 411 = .ok (.iload_n 3, 1) := by decide +kernel
theorem dL_law_412 : decode cL_law 412 = .ok (.iconst 1, 1) := by decide +kernel
theorem dL_law_413 : decode cL_law 413 = .ok (.iadd, 1) := by decide +kernel
theorem dL_law_414 : decode cL_law 414 = .ok (.iaload, 1) := by decide +kernel
theorem dL_law_415 : decode cL_law 415 = .ok (.aload_n 0, 1) := by decide +kernel
theorem dL_law_416 : decode cL_law 416 = .ok (.iload_n 3, 1) := by decide +kernel
theorem dL_law_417 : decode cL_law 417 = .ok (.iconst 2, 1) := by decide +kernel
theorem dL_law_418 : decode cL_law 418 = .ok (.iadd, 1) := by decide +kernel
theorem dL_law_419 : decode cL_law 419 = .ok (.iaload, 1) := by decide +kernel
theorem dL_law_420 : decode cL_law 420 = .ok (.invokevirtual 48, 3) := by decide +kernel
theorem dL_law_423 : decode cL_law 423 = .ok (.if_icmp .eq 568, 3) := by decide +kernel
theorem dL_law_426 : decode cL_law 426 = .ok (.iconst 0, 1) := by decide +kernel
theorem dL_law_427 : decode cL_law 427 = .ok (.ireturn, 1) := by decide +kernel
theorem dL_law_428 : decode cL_law 428 = .ok (.aload_n 1, 1) := by decide +kernel
theorem dL_law_429 : decode cL_law 429 = .ok (.aload_n 0, 1) := by decide +kernel
theorem dL_law_430 : decode cL_law 430 = .ok (.iload_n 3, 1) := by decide +kernel
theorem dL_law_431 : decode cL_law 431 = .ok (.iconst 1, 1) := by decide +kernel
theorem dL_law_432 : decode cL_law 432 = .ok (.iadd, 1) := by decide +kernel
theorem dL_law_433 : decode cL_law 433 = .ok (.iaload, 1) := by decide +kernel
theorem dL_law_434 : decode cL_law 434 = .ok (.invokevirtual 49, 3) := by decide +kernel
theorem dL_law_437 : decode cL_law 437 = .ok (.aload_n 2, 1) := by decide +kernel
theorem dL_law_438 : decode cL_law 438 = .ok (.aload_n 0, 1) := by decide +kernel
theorem dL_law_439 : decode cL_law 439 = .ok (.iload_n 3, 1) := by decide +kernel
theorem dL_law_440 : decode cL_law 440 = .ok (.iconst 1, 1) := by decide +kernel
theorem dL_law_441 : decode cL_law 441 = .ok (.iadd, 1) := by decide +kernel
theorem dL_law_442 : decode cL_law 442 = .ok (.iaload, 1) := by decide +kernel
theorem dL_law_443 : decode cL_law 443 = .ok (.invokevirtual 52, 3) := by decide +kernel
theorem dL_law_446 : decode cL_law 446 = .ok (.if_icmp .eq 545, 3) := by decide +kernel
theorem dL_law_449 : decode cL_law 449 = .ok (.iconst 0, 1) := by decide +kernel
theorem dL_law_450 : decode cL_law 450 = .ok (.ireturn, 1) := by decide +kernel
theorem dL_law_451 : decode cL_law 451 = .ok (.aload_n 1, 1) := by decide +kernel
theorem dL_law_452 : decode cL_law 452 = .ok (.invokevirtual 53, 3) := by decide +kernel
theorem dL_law_455 : decode cL_law 455 = .ok (.aload_n 2, 1) := by decide +kernel
theorem dL_law_456 : decode cL_law 456 = .ok (.invokevirtual 57, 3) := by decide +kernel
theorem dL_law_459 : decode cL_law 459 = .ok (.if_icmp .eq 532, 3) := by decide +kernel
theorem dL_law_462 : decode cL_law 462 = .ok (.iconst 0, 1) := by decide +kernel
theorem dL_law_463 : decode cL_law 463 = .ok (.ireturn, 1) := by decide +kernel
theorem dL_law_464 : decode cL_law 464 = .ok (.aload_n 1, 1) := by decide +kernel
theorem dL_law_465 : decode cL_law 465 = .ok (.aload_n 0, 1) := by decide +kernel
theorem dL_law_466 : decode cL_law 466 = .ok (.iload_n 3, 1) := by decide +kernel
theorem dL_law_467 : decode cL_law 467 = .ok (.iconst 1, 1) := by decide +kernel
theorem dL_law_468 : decode cL_law 468 = .ok (.iadd, 1) := by decide +kernel
theorem dL_law_469 : decode cL_law 469 = .ok (.iaload, 1) := by decide +kernel
theorem dL_law_470 : decode cL_law 470 = .ok (.invokevirtual 58, 3) := by decide +kernel
theorem dL_law_473 : decode cL_law 473 = .ok (.aload_n 2, 1) := by decide +kernel
theorem dL_law_474 : decode cL_law 474 = .ok (.aload_n 0, 1) := by decide +kernel
theorem dL_law_475 : decode cL_law 475 = .ok (.iload_n 3, 1) := by decide +kernel
theorem dL_law_476 : decode cL_law 476 = .ok (.iconst 1, 1) := by decide +kernel
theorem dL_law_477 : decode cL_law 477 = .ok (.iadd, 1) := by decide +kernel
theorem dL_law_478 : decode cL_law 478 = .ok (.iaload, 1) := by decide +kernel
theorem dL_law_479 : decode cL_law 479 = .ok (.invokevirtual 61, 3) := by decide +kernel
theorem dL_law_482 : decode cL_law 482 = .ok (.if_icmp .eq 509, 3) := by decide +kernel
theorem dL_law_485 : decode cL_law 485 = .ok (.iconst 0, 1) := by decide +kernel
theorem dL_law_486 : decode cL_law 486 = .ok (.ireturn, 1) := by decide +kernel
theorem dL_law_487 : decode cL_law 487 = .ok (.aload_n 1, 1) := by decide +kernel
theorem dL_law_488 : decode cL_law 488 = .ok (.aload_n 0, 1) := by decide +kernel
theorem dL_law_489 : decode cL_law 489 = .ok (.iload_n 3, 1) := by decide +kernel
theorem dL_law_490 : decode cL_law 490 = .ok (.iconst 1, 1) := by decide +kernel
theorem dL_law_491 : decode cL_law 491 = .ok (.iadd, 1) := by decide +kernel
theorem dL_law_492 : decode cL_law 492 = .ok (.iaload, 1) := by decide +kernel
theorem dL_law_493 : decode cL_law 493 = .ok (.aload_n 0, 1) := by decide +kernel
theorem dL_law_494 : decode cL_law 494 = .ok (.iload_n 3, 1) := by decide +kernel
theorem dL_law_495 : decode cL_law 495 = .ok (.iconst 2, 1) := by decide +kernel
theorem dL_law_496 : decode cL_law 496 = .ok (.iadd, 1) := by decide +kernel
theorem dL_law_497 : decode cL_law 497 = .ok (.iaload, 1) := by decide +kernel
theorem dL_law_498 : decode cL_law 498 = .ok (.invokevirtual 62, 3) := by decide +kernel
theorem dL_law_501 : decode cL_law 501 = .ok (.aload_n 2, 1) := by decide +kernel
theorem dL_law_502 : decode cL_law 502 = .ok (.aload_n 0, 1) := by decide +kernel
theorem dL_law_503 : decode cL_law 503 = .ok (.iload_n 3, 1) := by decide +kernel
theorem dL_law_504 : decode cL_law 504 = .ok (.iconst 1, 1) := by decide +kernel
theorem dL_law_505 : decode cL_law 505 = .ok (.iadd, 1) := by decide +kernel
theorem dL_law_506 : decode cL_law 506 = .ok (.iaload, 1) := by decide +kernel
theorem dL_law_507 : decode cL_law 507 = .ok (.aload_n 0, 1) := by decide +kernel
theorem dL_law_508 : decode cL_law 508 = .ok (.iload_n 3, 1) := by decide +kernel
theorem dL_law_509 : decode cL_law 509 = .ok (.iconst 2, 1) := by decide +kernel
theorem dL_law_510 : decode cL_law 510 = .ok (.iadd, 1) := by decide +kernel
theorem dL_law_511 : decode cL_law 511 = .ok (.iaload, 1) := by decide +kernel
theorem dL_law_512 : decode cL_law 512 = .ok (.invokevirtual 65, 3) := by decide +kernel
theorem dL_law_515 : decode cL_law 515 = .ok (.if_icmp .eq 476, 3) := by decide +kernel
theorem dL_law_518 : decode cL_law 518 = .ok (.iconst 0, 1) := by decide +kernel
theorem dL_law_519 : decode cL_law 519 = .ok (.ireturn, 1) := by decide +kernel
theorem dL_law_520 : decode cL_law 520 = .ok (.aload_n 1, 1) := by decide +kernel
theorem dL_law_521 : decode cL_law 521 = .ok (.invokevirtual 66, 3) := by decide +kernel
theorem dL_law_524 : decode cL_law 524 = .ok (.aload_n 2, 1) := by decide +kernel
theorem dL_law_525 : decode cL_law 525 = .ok (.invokevirtual 69, 3) := by decide +kernel
theorem dL_law_528 : decode cL_law 528 = .ok (.if_icmp .eq 463, 3) := by decide +kernel
theorem dL_law_531 : decode cL_law 531 = .ok (.iconst 0, 1) := by decide +kernel
theorem dL_law_532 : decode cL_law 532 = .ok (.ireturn, 1) := by decide +kernel
theorem dL_law_533 : decode cL_law 533 = .ok (.aload_n 1, 1) := by decide +kernel
theorem dL_law_534 : decode cL_law 534 = .ok (.aload_n 0, 1) := by decide +kernel
theorem dL_law_535 : decode cL_law 535 = .ok (.iload_n 3, 1) := by decide +kernel
theorem dL_law_536 : decode cL_law 536 = .ok (.iconst 1, 1) := by decide +kernel
theorem dL_law_537 : decode cL_law 537 = .ok (.iadd, 1) := by decide +kernel
theorem dL_law_538 : decode cL_law 538 = .ok (.iaload, 1) := by decide +kernel
theorem dL_law_539 : decode cL_law 539 = .ok (.aload_n 0, 1) := by decide +kernel
theorem dL_law_540 : decode cL_law 540 = .ok (.iload_n 3, 1) := by decide +kernel
theorem dL_law_541 : decode cL_law 541 = .ok (.iconst 2, 1) := by decide +kernel
theorem dL_law_542 : decode cL_law 542 = .ok (.iadd, 1) := by decide +kernel
theorem dL_law_543 : decode cL_law 543 = .ok (.iaload, 1) := by decide +kernel
theorem dL_law_544 : decode cL_law 544 = .ok (.invokevirtual 70, 3) := by decide +kernel
theorem dL_law_547 : decode cL_law 547 = .ok (.aload_n 2, 1) := by decide +kernel
theorem dL_law_548 : decode cL_law 548 = .ok (.aload_n 0, 1) := by decide +kernel
theorem dL_law_549 : decode cL_law 549 = .ok (.iload_n 3, 1) := by decide +kernel
theorem dL_law_550 : decode cL_law 550 = .ok (.iconst 1, 1) := by decide +kernel
theorem dL_law_551 : decode cL_law 551 = .ok (.iadd, 1) := by decide +kernel
theorem dL_law_552 : decode cL_law 552 = .ok (.iaload, 1) := by decide +kernel
theorem dL_law_553 : decode cL_law 553 = .ok (.aload_n 0, 1) := by decide +kernel
theorem dL_law_554 : decode cL_law 554 = .ok (.iload_n 3, 1) := by decide +kernel
theorem dL_law_555 : decode cL_law 555 = .ok (.iconst 2, 1) := by decide +kernel
theorem dL_law_556 : decode cL_law 556 = .ok (.iadd, 1) := by decide +kernel
theorem dL_law_557 : decode cL_law 557 = .ok (.iaload, 1) := by decide +kernel
theorem dL_law_558 : decode cL_law 558 = .ok (.invokevirtual 73, 3) := by decide +kernel
theorem dL_law_561 : decode cL_law 561 = .ok (.if_icmp .eq 430, 3) := by decide +kernel
theorem dL_law_564 : decode cL_law 564 = .ok (.iconst 0, 1) := by decide +kernel
theorem dL_law_565 : decode cL_law 565 = .ok (.ireturn, 1) := by decide +kernel
theorem dL_law_566 : decode cL_law 566 = .ok (.aload_n 1, 1) := by decide +kernel
theorem dL_law_567 : decode cL_law 567 = .ok (.aload_n 0, 1) := by decide +kernel
theorem dL_law_568 : decode cL_law 568 = .ok (.iload_n 3, 1) := by decide +kernel
theorem dL_law_569 : decode cL_law 569 = .ok (.iconst 1, 1) := by decide +kernel
theorem dL_law_570 : decode cL_law 570 = .ok (.iadd, 1) := by decide +kernel
theorem dL_law_571 : decode cL_law 571 = .ok (.iaload, 1) := by decide +kernel
theorem dL_law_572 : decode cL_law 572 = .ok (.aload_n 0, 1) := by decide +kernel
theorem dL_law_573 : decode cL_law 573 = .ok (.iload_n 3, 1) := by decide +kernel
theorem dL_law_574 : decode cL_law 574 = .ok (.iconst 2, 1) := by decide +kernel
theorem dL_law_575 : decode cL_law 575 = .ok (.iadd, 1) := by decide +kernel
theorem dL_law_576 : decode cL_law 576 = .ok (.iaload, 1) := by decide +kernel
theorem dL_law_577 : decode cL_law 577 = .ok (.aload_n 0, 1) := by decide +kernel
theorem dL_law_578 : decode cL_law 578 = .ok (.iload_n 3, 1) := by decide +kernel
theorem dL_law_579 : decode cL_law 579 = .ok (.iconst 3, 1) := by decide +kernel
theorem dL_law_580 : decode cL_law 580 = .ok (.iadd, 1) := by decide +kernel
theorem dL_law_581 : decode cL_law 581 = .ok (.iaload, 1) := by decide +kernel
theorem dL_law_582 : decode cL_law 582 = .ok (.invokevirtual 74, 3) := by decide +kernel
theorem dL_law_585 : decode cL_law 585 = .ok (.aload_n 2, 1) := by decide +kernel
theorem dL_law_586 : decode cL_law 586 = .ok (.aload_n 0, 1) := by decide +kernel
theorem dL_law_587 : decode cL_law 587 = .ok (.iload_n 3, 1) := by decide +kernel
theorem dL_law_588 : decode cL_law 588 = .ok (.iconst 1, 1) := by decide +kernel
theorem dL_law_589 : decode cL_law 589 = .ok (.iadd, 1) := by decide +kernel
theorem dL_law_590 : decode cL_law 590 = .ok (.iaload, 1) := by decide +kernel
theorem dL_law_591 : decode cL_law 591 = .ok (.aload_n 0, 1) := by decide +kernel
theorem dL_law_592 : decode cL_law 592 = .ok (.iload_n 3, 1) := by decide +kernel
theorem dL_law_593 : decode cL_law 593 = .ok (.iconst 2, 1) := by decide +kernel
theorem dL_law_594 : decode cL_law 594 = .ok (.iadd, 1) := by decide +kernel
theorem dL_law_595 : decode cL_law 595 = .ok (.iaload, 1) := by decide +kernel
theorem dL_law_596 : decode cL_law 596 = .ok (.aload_n 0, 1) := by decide +kernel
theorem dL_law_597 : decode cL_law 597 = .ok (.iload_n 3, 1) := by decide +kernel
theorem dL_law_598 : decode cL_law 598 = .ok (.iconst 3, 1) := by decide +kernel
theorem dL_law_599 : decode cL_law 599 = .ok (.iadd, 1) := by decide +kernel
theorem dL_law_600 : decode cL_law 600 = .ok (.iaload, 1) := by decide +kernel
theorem dL_law_601 : decode cL_law 601 = .ok (.invokevirtual 78, 3) := by decide +kernel
theorem dL_law_604 : decode cL_law 604 = .ok (.if_icmp .eq 387, 3) := by decide +kernel
theorem dL_law_607 : decode cL_law 607 = .ok (.iconst 0, 1) := by decide +kernel
theorem dL_law_608 : decode cL_law 608 = .ok (.ireturn, 1) := by decide +kernel
theorem dL_law_609 : decode cL_law 609 = .ok (.aload_n 1, 1) := by decide +kernel
theorem dL_law_610 : decode cL_law 610 = .ok (.aload_n 0, 1) := by decide +kernel
theorem dL_law_611 : decode cL_law 611 = .ok (.iload_n 3, 1) := by decide +kernel
theorem dL_law_612 : decode cL_law 612 = .ok (.iconst 1, 1) := by decide +kernel
theorem dL_law_613 : decode cL_law 613 = .ok (.iadd, 1) := by decide +kernel
theorem dL_law_614 : decode cL_law 614 = .ok (.iaload, 1) := by decide +kernel
theorem dL_law_615 : decode cL_law 615 = .ok (.invokevirtual 79, 3) := by decide +kernel
theorem dL_law_618 : decode cL_law 618 = .ok (.aload_n 2, 1) := by decide +kernel
theorem dL_law_619 : decode cL_law 619 = .ok (.aload_n 0, 1) := by decide +kernel
theorem dL_law_620 : decode cL_law 620 = .ok (.iload_n 3, 1) := by decide +kernel
theorem dL_law_621 : decode cL_law 621 = .ok (.iconst 1, 1) := by decide +kernel
theorem dL_law_622 : decode cL_law 622 = .ok (.iadd, 1) := by decide +kernel
theorem dL_law_623 : decode cL_law 623 = .ok (.iaload, 1) := by decide +kernel
theorem dL_law_624 : decode cL_law 624 = .ok (.invokevirtual 82, 3) := by decide +kernel
theorem dL_law_627 : decode cL_law 627 = .ok (.if_icmp .eq 364, 3) := by decide +kernel
theorem dL_law_630 : decode cL_law 630 = .ok (.iconst 0, 1) := by decide +kernel
theorem dL_law_631 : decode cL_law 631 = .ok (.ireturn, 1) := by decide +kernel
theorem dL_law_632 : decode cL_law 632 = .ok (.aload_n 1, 1) := by decide +kernel
theorem dL_law_633 : decode cL_law 633 = .ok (.aload_n 0, 1) := by decide +kernel
theorem dL_law_634 : decode cL_law 634 = .ok (.iload_n 3, 1) := by decide +kernel
theorem dL_law_635 : decode cL_law 635 = .ok (.iconst 1, 1) := by decide +kernel
theorem dL_law_636 : decode cL_law 636 = .ok (.iadd, 1) := by decide +kernel
theorem dL_law_637 : decode cL_law 637 = .ok (.iaload, 1) := by decide +kernel
theorem dL_law_638 : decode cL_law 638 = .ok (.invokevirtual 83, 3) := by decide +kernel
theorem dL_law_641 : decode cL_law 641 = .ok (.aload_n 2, 1) := by decide +kernel
theorem dL_law_642 : decode cL_law 642 = .ok (.aload_n 0, 1) := by decide +kernel
theorem dL_law_643 : decode cL_law 643 = .ok (.iload_n 3, 1) := by decide +kernel
theorem dL_law_644 : decode cL_law 644 = .ok (.iconst 1, 1) := by decide +kernel
theorem dL_law_645 : decode cL_law 645 = .ok (.iadd, 1) := by decide +kernel
theorem dL_law_646 : decode cL_law 646 = .ok (.iaload, 1) := by decide +kernel
theorem dL_law_647 : decode cL_law 647 = .ok (.invokevirtual 86, 3) := by decide +kernel
theorem dL_law_650 : decode cL_law 650 = .ok (.if_icmp .eq 341, 3) := by decide +kernel
theorem dL_law_653 : decode cL_law 653 = .ok (.iconst 0, 1) := by decide +kernel
theorem dL_law_654 : decode cL_law 654 = .ok (.ireturn, 1) := by decide +kernel
theorem dL_law_655 : decode cL_law 655 = .ok (.aload_n 1, 1) := by decide +kernel
theorem dL_law_656 : decode cL_law 656 = .ok (.aload_n 0, 1) := by decide +kernel
theorem dL_law_657 : decode cL_law 657 = .ok (.iload_n 3, 1) := by decide +kernel
theorem dL_law_658 : decode cL_law 658 = .ok (.iconst 1, 1) := by decide +kernel
theorem dL_law_659 : decode cL_law 659 = .ok (.iadd, 1) := by decide +kernel
theorem dL_law_660 : decode cL_law 660 = .ok (.iaload, 1) := by decide +kernel
theorem dL_law_661 : decode cL_law 661 = .ok (.invokevirtual 87, 3) := by decide +kernel
theorem dL_law_664 : decode cL_law 664 = .ok (.aload_n 2, 1) := by decide +kernel
theorem dL_law_665 : decode cL_law 665 = .ok (.aload_n 0, 1) := by decide +kernel
theorem dL_law_666 : decode cL_law 666 = .ok (.iload_n 3, 1) := by decide +kernel
theorem dL_law_667 : decode cL_law 667 = .ok (.iconst 1, 1) := by decide +kernel
theorem dL_law_668 : decode cL_law 668 = .ok (.iadd, 1) := by decide +kernel
theorem dL_law_669 : decode cL_law 669 = .ok (.iaload, 1) := by decide +kernel
theorem dL_law_670 : decode cL_law 670 = .ok (.invokevirtual 90, 3) := by decide +kernel
theorem dL_law_673 : decode cL_law 673 = .ok (.if_icmp .eq 318, 3) := by decide +kernel
theorem dL_law_676 : decode cL_law 676 = .ok (.iconst 0, 1) := by decide +kernel
theorem dL_law_677 : decode cL_law 677 = .ok (.ireturn, 1) := by decide +kernel
theorem dL_law_678 : decode cL_law 678 = .ok (.aload_n 1, 1) := by decide +kernel
theorem dL_law_679 : decode cL_law 679 = .ok (.aload_n 0, 1) := by decide +kernel
theorem dL_law_680 : decode cL_law 680 = .ok (.iload_n 3, 1) := by decide +kernel
theorem dL_law_681 : decode cL_law 681 = .ok (.iconst 1, 1) := by decide +kernel
theorem dL_law_682 : decode cL_law 682 = .ok (.iadd, 1) := by decide +kernel
theorem dL_law_683 : decode cL_law 683 = .ok (.iaload, 1) := by decide +kernel
theorem dL_law_684 : decode cL_law 684 = .ok (.aload_n 0, 1) := by decide +kernel
theorem dL_law_685 : decode cL_law 685 = .ok (.iload_n 3, 1) := by decide +kernel
theorem dL_law_686 : decode cL_law 686 = .ok (.iconst 2, 1) := by decide +kernel
theorem dL_law_687 : decode cL_law 687 = .ok (.iadd, 1) := by decide +kernel
theorem dL_law_688 : decode cL_law 688 = .ok (.iaload, 1) := by decide +kernel
theorem dL_law_689 : decode cL_law 689 = .ok (.aload_n 0, 1) := by decide +kernel
theorem dL_law_690 : decode cL_law 690 = .ok (.iload_n 3, 1) := by decide +kernel
theorem dL_law_691 : decode cL_law 691 = .ok (.iconst 3, 1) := by decide +kernel
theorem dL_law_692 : decode cL_law 692 = .ok (.iadd, 1) := by decide +kernel
theorem dL_law_693 : decode cL_law 693 = .ok (.iaload, 1) := by decide +kernel
theorem dL_law_694 : decode cL_law 694 = .ok (.invokevirtual 91, 3) := by decide +kernel
theorem dL_law_697 : decode cL_law 697 = .ok (.aload_n 2, 1) := by decide +kernel
theorem dL_law_698 : decode cL_law 698 = .ok (.aload_n 0, 1) := by decide +kernel
theorem dL_law_699 : decode cL_law 699 = .ok (.iload_n 3, 1) := by decide +kernel
theorem dL_law_700 : decode cL_law 700 = .ok (.iconst 1, 1) := by decide +kernel
theorem dL_law_701 : decode cL_law 701 = .ok (.iadd, 1) := by decide +kernel
theorem dL_law_702 : decode cL_law 702 = .ok (.iaload, 1) := by decide +kernel
theorem dL_law_703 : decode cL_law 703 = .ok (.aload_n 0, 1) := by decide +kernel
theorem dL_law_704 : decode cL_law 704 = .ok (.iload_n 3, 1) := by decide +kernel
theorem dL_law_705 : decode cL_law 705 = .ok (.iconst 2, 1) := by decide +kernel
theorem dL_law_706 : decode cL_law 706 = .ok (.iadd, 1) := by decide +kernel
theorem dL_law_707 : decode cL_law 707 = .ok (.iaload, 1) := by decide +kernel
theorem dL_law_708 : decode cL_law 708 = .ok (.aload_n 0, 1) := by decide +kernel
theorem dL_law_709 : decode cL_law 709 = .ok (.iload_n 3, 1) := by decide +kernel
theorem dL_law_710 : decode cL_law 710 = .ok (.iconst 3, 1) := by decide +kernel
theorem dL_law_711 : decode cL_law 711 = .ok (.iadd, 1) := by decide +kernel
theorem dL_law_712 : decode cL_law 712 = .ok (.iaload, 1) := by decide +kernel
theorem dL_law_713 : decode cL_law 713 = .ok (.invokevirtual 94, 3) := by decide +kernel
theorem dL_law_716 : decode cL_law 716 = .ok (.if_icmp .eq 275, 3) := by decide +kernel
theorem dL_law_719 : decode cL_law 719 = .ok (.iconst 0, 1) := by decide +kernel
theorem dL_law_720 : decode cL_law 720 = .ok (.ireturn, 1) := by decide +kernel
theorem dL_law_721 : decode cL_law 721 = .ok (.aload_n 1, 1) := by decide +kernel
theorem dL_law_722 : decode cL_law 722 = .ok (.aload_n 0, 1) := by decide +kernel
theorem dL_law_723 : decode cL_law 723 = .ok (.iload_n 3, 1) := by decide +kernel
theorem dL_law_724 : decode cL_law 724 = .ok (.iconst 1, 1) := by decide +kernel
theorem dL_law_725 : decode cL_law 725 = .ok (.iadd, 1) := by decide +kernel
theorem dL_law_726 : decode cL_law 726 = .ok (.iaload, 1) := by decide +kernel
theorem dL_law_727 : decode cL_law 727 = .ok (.aload_n 0, 1) := by decide +kernel
theorem dL_law_728 : decode cL_law 728 = .ok (.iload_n 3, 1) := by decide +kernel
theorem dL_law_729 : decode cL_law 729 = .ok (.iconst 2, 1) := by decide +kernel
theorem dL_law_730 : decode cL_law 730 = .ok (.iadd, 1) := by decide +kernel
theorem dL_law_731 : decode cL_law 731 = .ok (.iaload, 1) := by decide +kernel
theorem dL_law_732 : decode cL_law 732 = .ok (.invokevirtual 95, 3) := by decide +kernel
theorem dL_law_735 : decode cL_law 735 = .ok (.aload_n 2, 1) := by decide +kernel
theorem dL_law_736 : decode cL_law 736 = .ok (.aload_n 0, 1) := by decide +kernel
theorem dL_law_737 : decode cL_law 737 = .ok (.iload_n 3, 1) := by decide +kernel
theorem dL_law_738 : decode cL_law 738 = .ok (.iconst 1, 1) := by decide +kernel
theorem dL_law_739 : decode cL_law 739 = .ok (.iadd, 1) := by decide +kernel
theorem dL_law_740 : decode cL_law 740 = .ok (.iaload, 1) := by decide +kernel
theorem dL_law_741 : decode cL_law 741 = .ok (.aload_n 0, 1) := by decide +kernel
theorem dL_law_742 : decode cL_law 742 = .ok (.iload_n 3, 1) := by decide +kernel
theorem dL_law_743 : decode cL_law 743 = .ok (.iconst 2, 1) := by decide +kernel
theorem dL_law_744 : decode cL_law 744 = .ok (.iadd, 1) := by decide +kernel
theorem dL_law_745 : decode cL_law 745 = .ok (.iaload, 1) := by decide +kernel
theorem dL_law_746 : decode cL_law 746 = .ok (.invokevirtual 98, 3) := by decide +kernel
theorem dL_law_749 : decode cL_law 749 = .ok (.if_icmp .eq 242, 3) := by decide +kernel
theorem dL_law_752 : decode cL_law 752 = .ok (.iconst 0, 1) := by decide +kernel
theorem dL_law_753 : decode cL_law 753 = .ok (.ireturn, 1) := by decide +kernel
theorem dL_law_754 : decode cL_law 754 = .ok (.aload_n 1, 1) := by decide +kernel
theorem dL_law_755 : decode cL_law 755 = .ok (.aload_n 0, 1) := by decide +kernel
theorem dL_law_756 : decode cL_law 756 = .ok (.iload_n 3, 1) := by decide +kernel
theorem dL_law_757 : decode cL_law 757 = .ok (.iconst 1, 1) := by decide +kernel
theorem dL_law_758 : decode cL_law 758 = .ok (.iadd, 1) := by decide +kernel
theorem dL_law_759 : decode cL_law 759 = .ok (.iaload, 1) := by decide +kernel
theorem dL_law_760 : decode cL_law 760 = .ok (.aload_n 0, 1) := by decide +kernel
theorem dL_law_761 : decode cL_law 761 = .ok (.iload_n 3, 1) := by decide +kernel
theorem dL_law_762 : decode cL_law 762 = .ok (.iconst 2, 1) := by decide +kernel
theorem dL_law_763 : decode cL_law 763 = .ok (.iadd, 1) := by decide +kernel
theorem dL_law_764 : decode cL_law 764 = .ok (.iaload, 1) := by decide +kernel
theorem dL_law_765 : decode cL_law 765 = .ok (.aload_n 0, 1) := by decide +kernel
theorem dL_law_766 : decode cL_law 766 = .ok (.iload_n 3, 1) := by decide +kernel
theorem dL_law_767 : decode cL_law 767 = .ok (.iconst 3, 1) := by decide +kernel
theorem dL_law_768 : decode cL_law 768 = .ok (.iadd, 1) := by decide +kernel
theorem dL_law_769 : decode cL_law 769 = .ok (.iaload, 1) := by decide +kernel
theorem dL_law_770 : decode cL_law 770 = .ok (.invokevirtual 99, 3) := by decide +kernel
theorem dL_law_773 : decode cL_law 773 = .ok (.aload_n 2, 1) := by decide +kernel
theorem dL_law_774 : decode cL_law 774 = .ok (.aload_n 0, 1) := by decide +kernel
theorem dL_law_775 : decode cL_law 775 = .ok (.iload_n 3, 1) := by decide +kernel
theorem dL_law_776 : decode cL_law 776 = .ok (.iconst 1, 1) := by decide +kernel
theorem dL_law_777 : decode cL_law 777 = .ok (.iadd, 1) := by decide +kernel
theorem dL_law_778 : decode cL_law 778 = .ok (.iaload, 1) := by decide +kernel
theorem dL_law_779 : decode cL_law 779 = .ok (.aload_n 0, 1) := by decide +kernel
theorem dL_law_780 : decode cL_law 780 = .ok (.iload_n 3, 1) := by decide +kernel
theorem dL_law_781 : decode cL_law 781 = .ok (.iconst 2, 1) := by decide +kernel
theorem dL_law_782 : decode cL_law 782 = .ok (.iadd, 1) := by decide +kernel
theorem dL_law_783 : decode cL_law 783 = .ok (.iaload, 1) := by decide +kernel
theorem dL_law_784 : decode cL_law 784 = .ok (.aload_n 0, 1) := by decide +kernel
theorem dL_law_785 : decode cL_law 785 = .ok (.iload_n 3, 1) := by decide +kernel
theorem dL_law_786 : decode cL_law 786 = .ok (.iconst 3, 1) := by decide +kernel
theorem dL_law_787 : decode cL_law 787 = .ok (.iadd, 1) := by decide +kernel
theorem dL_law_788 : decode cL_law 788 = .ok (.iaload, 1) := by decide +kernel
theorem dL_law_789 : decode cL_law 789 = .ok (.invokevirtual 102, 3) := by decide +kernel
theorem dL_law_792 : decode cL_law 792 = .ok (.if_icmp .eq 199, 3) := by decide +kernel
theorem dL_law_795 : decode cL_law 795 = .ok (.iconst 0, 1) := by decide +kernel
theorem dL_law_796 : decode cL_law 796 = .ok (.ireturn, 1) := by decide +kernel
theorem dL_law_797 : decode cL_law 797 = .ok (.aload_n 1, 1) := by decide +kernel
theorem dL_law_798 : decode cL_law 798 = .ok (.aload_n 0, 1) := by decide +kernel
theorem dL_law_799 : decode cL_law 799 = .ok (.iload_n 3, 1) := by decide +kernel
theorem dL_law_800 : decode cL_law 800 = .ok (.iconst 1, 1) := by decide +kernel
theorem dL_law_801 : decode cL_law 801 = .ok (.iadd, 1) := by decide +kernel
theorem dL_law_802 : decode cL_law 802 = .ok (.iaload, 1) := by decide +kernel
theorem dL_law_803 : decode cL_law 803 = .ok (.aload_n 0, 1) := by decide +kernel
theorem dL_law_804 : decode cL_law 804 = .ok (.iload_n 3, 1) := by decide +kernel
theorem dL_law_805 : decode cL_law 805 = .ok (.iconst 2, 1) := by decide +kernel
theorem dL_law_806 : decode cL_law 806 = .ok (.iadd, 1) := by decide +kernel
theorem dL_law_807 : decode cL_law 807 = .ok (.iaload, 1) := by decide +kernel
theorem dL_law_808 : decode cL_law 808 = .ok (.invokevirtual 103, 3) := by decide +kernel
theorem dL_law_811 : decode cL_law 811 = .ok (.aload_n 2, 1) := by decide +kernel
theorem dL_law_812 : decode cL_law 812 = .ok (.aload_n 0, 1) := by decide +kernel
theorem dL_law_813 : decode cL_law 813 = .ok (.iload_n 3, 1) := by decide +kernel
theorem dL_law_814 : decode cL_law 814 = .ok (.iconst 1, 1) := by decide +kernel
theorem dL_law_815 : decode cL_law 815 = .ok (.iadd, 1) := by decide +kernel
theorem dL_law_816 : decode cL_law 816 = .ok (.iaload, 1) := by decide +kernel
theorem dL_law_817 : decode cL_law 817 = .ok (.aload_n 0, 1) := by decide +kernel
theorem dL_law_818 : decode cL_law 818 = .ok (.iload_n 3, 1) := by decide +kernel
theorem dL_law_819 : decode cL_law 819 = .ok (.iconst 2, 1) := by decide +kernel
theorem dL_law_820 : decode cL_law 820 = .ok (.iadd, 1) := by decide +kernel
theorem dL_law_821 : decode cL_law 821 = .ok (.iaload, 1) := by decide +kernel
theorem dL_law_822 : decode cL_law 822 = .ok (.invokevirtual 106, 3) := by decide +kernel
theorem dL_law_825 : decode cL_law 825 = .ok (.if_icmp .eq 166, 3) := by decide +kernel
theorem dL_law_828 : decode cL_law 828 = .ok (.iconst 0, 1) := by decide +kernel
theorem dL_law_829 : decode cL_law 829 = .ok (.ireturn, 1) := by decide +kernel
theorem dL_law_830 : decode cL_law 830 = .ok (.aload_n 1, 1) := by decide +kernel
theorem dL_law_831 : decode cL_law 831 = .ok (.aload_n 0, 1) := by decide +kernel
theorem dL_law_832 : decode cL_law 832 = .ok (.iload_n 3, 1) := by decide +kernel
theorem dL_law_833 : decode cL_law 833 = .ok (.iconst 1, 1) := by decide +kernel
theorem dL_law_834 : decode cL_law 834 = .ok (.iadd, 1) := by decide +kernel
theorem dL_law_835 : decode cL_law 835 = .ok (.iaload, 1) := by decide +kernel
theorem dL_law_836 : decode cL_law 836 = .ok (.aload_n 0, 1) := by decide +kernel
theorem dL_law_837 : decode cL_law 837 = .ok (.iload_n 3, 1) := by decide +kernel
theorem dL_law_838 : decode cL_law 838 = .ok (.iconst 2, 1) := by decide +kernel
theorem dL_law_839 : decode cL_law 839 = .ok (.iadd, 1) := by decide +kernel
theorem dL_law_840 : decode cL_law 840 = .ok (.iaload, 1) := by decide +kernel
theorem dL_law_841 : decode cL_law 841 = .ok (.invokevirtual 107, 3) := by decide +kernel
theorem dL_law_844 : decode cL_law 844 = .ok (.aload_n 2, 1) := by decide +kernel
theorem dL_law_845 : decode cL_law 845 = .ok (.aload_n 0, 1) := by decide +kernel
theorem dL_law_846 : decode cL_law 846 = .ok (.iload_n 3, 1) := by decide +kernel
theorem dL_law_847 : decode cL_law 847 = .ok (.iconst 1, 1) := by decide +kernel
theorem dL_law_848 : decode cL_law 848 = .ok (.iadd, 1) := by decide +kernel
theorem dL_law_849 : decode cL_law 849 = .ok (.iaload, 1) := by decide +kernel
theorem dL_law_850 : decode cL_law 850 = .ok (.aload_n 0, 1) := by decide +kernel
theorem dL_law_851 : decode cL_law 851 = .ok (.iload_n 3, 1) := by decide +kernel
theorem dL_law_852 : decode cL_law 852 = .ok (.iconst 2, 1) := by decide +kernel
theorem dL_law_853 : decode cL_law 853 = .ok (.iadd, 1) := by decide +kernel
theorem dL_law_854 : decode cL_law 854 = .ok (.iaload, 1) := by decide +kernel
theorem dL_law_855 : decode cL_law 855 = .ok (.invokevirtual 110, 3) := by decide +kernel
theorem dL_law_858 : decode cL_law 858 = .ok (.if_icmp .eq 133, 3) := by decide +kernel
theorem dL_law_861 : decode cL_law 861 = .ok (.iconst 0, 1) := by decide +kernel
theorem dL_law_862 : decode cL_law 862 = .ok (.ireturn, 1) := by decide +kernel
theorem dL_law_863 : decode cL_law 863 = .ok (.aload_n 1, 1) := by decide +kernel
theorem dL_law_864 : decode cL_law 864 = .ok (.aload_n 0, 1) := by decide +kernel
theorem dL_law_865 : decode cL_law 865 = .ok (.iload_n 3, 1) := by decide +kernel
theorem dL_law_866 : decode cL_law 866 = .ok (.iconst 1, 1) := by decide +kernel
theorem dL_law_867 : decode cL_law 867 = .ok (.iadd, 1) := by decide +kernel
theorem dL_law_868 : decode cL_law 868 = .ok (.iaload, 1) := by decide +kernel
theorem dL_law_869 : decode cL_law 869 = .ok (.aload_n 0, 1) := by decide +kernel
theorem dL_law_870 : decode cL_law 870 = .ok (.iload_n 3, 1) := by decide +kernel
theorem dL_law_871 : decode cL_law 871 = .ok (.iconst 2, 1) := by decide +kernel
theorem dL_law_872 : decode cL_law 872 = .ok (.iadd, 1) := by decide +kernel
theorem dL_law_873 : decode cL_law 873 = .ok (.iaload, 1) := by decide +kernel
theorem dL_law_874 : decode cL_law 874 = .ok (.invokevirtual 111, 3) := by decide +kernel
theorem dL_law_877 : decode cL_law 877 = .ok (.aload_n 2, 1) := by decide +kernel
theorem dL_law_878 : decode cL_law 878 = .ok (.aload_n 0, 1) := by decide +kernel
theorem dL_law_879 : decode cL_law 879 = .ok (.iload_n 3, 1) := by decide +kernel
theorem dL_law_880 : decode cL_law 880 = .ok (.iconst 1, 1) := by decide +kernel
theorem dL_law_881 : decode cL_law 881 = .ok (.iadd, 1) := by decide +kernel
theorem dL_law_882 : decode cL_law 882 = .ok (.iaload, 1) := by decide +kernel
theorem dL_law_883 : decode cL_law 883 = .ok (.aload_n 0, 1) := by decide +kernel
theorem dL_law_884 : decode cL_law 884 = .ok (.iload_n 3, 1) := by decide +kernel
theorem dL_law_885 : decode cL_law 885 = .ok (.iconst 2, 1) := by decide +kernel
theorem dL_law_886 : decode cL_law 886 = .ok (.iadd, 1) := by decide +kernel
theorem dL_law_887 : decode cL_law 887 = .ok (.iaload, 1) := by decide +kernel
theorem dL_law_888 : decode cL_law 888 = .ok (.invokevirtual 114, 3) := by decide +kernel
theorem dL_law_891 : decode cL_law 891 = .ok (.if_icmp .eq 100, 3) := by decide +kernel
theorem dL_law_894 : decode cL_law 894 = .ok (.iconst 0, 1) := by decide +kernel
theorem dL_law_895 : decode cL_law 895 = .ok (.ireturn, 1) := by decide +kernel
theorem dL_law_896 : decode cL_law 896 = .ok (.aload_n 1, 1) := by decide +kernel
theorem dL_law_897 : decode cL_law 897 = .ok (.aload_n 0, 1) := by decide +kernel
theorem dL_law_898 : decode cL_law 898 = .ok (.iload_n 3, 1) := by decide +kernel
theorem dL_law_899 : decode cL_law 899 = .ok (.iconst 1, 1) := by decide +kernel
theorem dL_law_900 : decode cL_law 900 = .ok (.iadd, 1) := by decide +kernel
theorem dL_law_901 : decode cL_law 901 = .ok (.iaload, 1) := by decide +kernel
theorem dL_law_902 : decode cL_law 902 = .ok (.invokevirtual 115, 3) := by decide +kernel
theorem dL_law_905 : decode cL_law 905 = .ok (.aload_n 2, 1) := by decide +kernel
theorem dL_law_906 : decode cL_law 906 = .ok (.aload_n 0, 1) := by decide +kernel
theorem dL_law_907 : decode cL_law 907 = .ok (.iload_n 3, 1) := by decide +kernel
theorem dL_law_908 : decode cL_law 908 = .ok (.iconst 1, 1) := by decide +kernel
theorem dL_law_909 : decode cL_law 909 = .ok (.iadd, 1) := by decide +kernel
theorem dL_law_910 : decode cL_law 910 = .ok (.iaload, 1) := by decide +kernel
theorem dL_law_911 : decode cL_law 911 = .ok (.invokevirtual 119, 3) := by decide +kernel
theorem dL_law_914 : decode cL_law 914 = .ok (.if_icmp .eq 77, 3) := by decide +kernel
theorem dL_law_917 : decode cL_law 917 = .ok (.iconst 0, 1) := by decide +kernel
theorem dL_law_918 : decode cL_law 918 = .ok (.ireturn, 1) := by decide +kernel
theorem dL_law_919 : decode cL_law 919 = .ok (.aload_n 1, 1) := by decide +kernel
theorem dL_law_920 : decode cL_law 920 = .ok (.invokevirtual 120, 3) := by decide +kernel
theorem dL_law_923 : decode cL_law 923 = .ok (.aload_n 2, 1) := by decide +kernel
theorem dL_law_924 : decode cL_law 924 = .ok (.invokevirtual 123, 3) := by decide +kernel
theorem dL_law_927 : decode cL_law 927 = .ok (.if_icmp .eq 64, 3) := by decide +kernel
theorem dL_law_930 : decode cL_law 930 = .ok (.iconst 0, 1) := by decide +kernel
theorem dL_law_931 : decode cL_law 931 = .ok (.ireturn, 1) := by decide +kernel
theorem dL_law_932 : decode cL_law 932 = .ok (.aload_n 1, 1) := by decide +kernel
theorem dL_law_933 : decode cL_law 933 = .ok (.invokevirtual 124, 3) := by decide +kernel
theorem dL_law_936 : decode cL_law 936 = .ok (.aload_n 2, 1) := by decide +kernel
theorem dL_law_937 : decode cL_law 937 = .ok (.invokevirtual 128, 3) := by decide +kernel
theorem dL_law_940 : decode cL_law 940 = .ok (.if_icmp .eq 51, 3) := by decide +kernel
theorem dL_law_943 : decode cL_law 943 = .ok (.iconst 0, 1) := by decide +kernel
theorem dL_law_944 : decode cL_law 944 = .ok (.ireturn, 1) := by decide +kernel
theorem dL_law_945 : decode cL_law 945 = .ok (.aload_n 1, 1) := by decide +kernel
theorem dL_law_946 : decode cL_law 946 = .ok (.aload_n 0, 1) := by decide +kernel
theorem dL_law_947 : decode cL_law 947 = .ok (.iload_n 3, 1) := by decide +kernel
theorem dL_law_948 : decode cL_law 948 = .ok (.iconst 1, 1) := by decide +kernel
theorem dL_law_949 : decode cL_law 949 = .ok (.iadd, 1) := by decide +kernel
theorem dL_law_950 : decode cL_law 950 = .ok (.iaload, 1) := by decide +kernel
theorem dL_law_951 : decode cL_law 951 = .ok (.invokevirtual 129, 3) := by decide +kernel
theorem dL_law_954 : decode cL_law 954 = .ok (.aload_n 2, 1) := by decide +kernel
theorem dL_law_955 : decode cL_law 955 = .ok (.aload_n 0, 1) := by decide +kernel
theorem dL_law_956 : decode cL_law 956 = .ok (.iload_n 3, 1) := by decide +kernel
theorem dL_law_957 : decode cL_law 957 = .ok (.iconst 1, 1) := by decide +kernel
theorem dL_law_958 : decode cL_law 958 = .ok (.iadd, 1) := by decide +kernel
theorem dL_law_959 : decode cL_law 959 = .ok (.iaload, 1) := by decide +kernel
theorem dL_law_960 : decode cL_law 960 = .ok (.invokevirtual 132, 3) := by decide +kernel
theorem dL_law_963 : decode cL_law 963 = .ok (.if_icmp .eq 28, 3) := by decide +kernel
theorem dL_law_966 : decode cL_law 966 = .ok (.iconst 0, 1) := by decide +kernel
theorem dL_law_967 : decode cL_law 967 = .ok (.ireturn, 1) := by decide +kernel
theorem dL_law_968 : decode cL_law 968 = .ok (.aload_n 1, 1) := by decide +kernel
theorem dL_law_969 : decode cL_law 969 = .ok (.aload_n 0, 1) := by decide +kernel
theorem dL_law_970 : decode cL_law 970 = .ok (.iload_n 3, 1) := by decide +kernel
theorem dL_law_971 : decode cL_law 971 = .ok (.iconst 1, 1) := by decide +kernel
theorem dL_law_972 : decode cL_law 972 = .ok (.iadd, 1) := by decide +kernel
theorem dL_law_973 : decode cL_law 973 = .ok (.iaload, 1) := by decide +kernel
theorem dL_law_974 : decode cL_law 974 = .ok (.invokevirtual 133, 3) := by decide +kernel
theorem dL_law_977 : decode cL_law 977 = .ok (.aload_n 2, 1) := by decide +kernel
theorem dL_law_978 : decode cL_law 978 = .ok (.aload_n 0, 1) := by decide +kernel
theorem dL_law_979 : decode cL_law 979 = .ok (.iload_n 3, 1) := by decide +kernel
theorem dL_law_980 : decode cL_law 980 = .ok (.iconst 1, 1) := by decide +kernel
theorem dL_law_981 : decode cL_law 981 = .ok (.iadd, 1) := by decide +kernel
theorem dL_law_982 : decode cL_law 982 = .ok (.iaload, 1) := by decide +kernel
theorem dL_law_983 : decode cL_law 983 = .ok (.invokevirtual 136, 3) := by decide +kernel
theorem dL_law_986 : decode cL_law 986 = .ok (.if_icmp .eq 5, 3) := by decide +kernel
theorem dL_law_989 : decode cL_law 989 = .ok (.iconst 0, 1) := by decide +kernel
theorem dL_law_990 : decode cL_law 990 = .ok (.ireturn, 1) := by decide +kernel
theorem dL_law_991 : decode cL_law 991 = .ok (.iinc 3 6, 3) := by decide +kernel
theorem dL_law_994 : decode cL_law 994 = .ok (.goto (-976), 3) := by decide +kernel
theorem dL_law_997 : decode cL_law 997 = .ok (.iconst 1, 1) := by decide +kernel
theorem dL_law_998 : decode cL_law 998 = .ok (.ireturn, 1) := by decide +kernel
theorem dJ0_length_8abf5_0 : decode cJ0_length_8abf5 0 = .ok (.aload_n 0, 1) := by decide +kernel
theorem dJ0_length_8abf5_1 : decode cJ0_length_8abf5 1 = .ok (.getfield 9, 3) := by decide +kernel
theorem dJ0_length_8abf5_4 : decode cJ0_length_8abf5 4 = .ok (.arraylength, 1) := by decide +kernel
theorem dJ0_length_8abf5_5 : decode cJ0_length_8abf5 5 = .ok (.aload_n 0, 1) := by decide +kernel
theorem dJ0_length_8abf5_6 : decode cJ0_length_8abf5 6 = .ok (.invokevirtual 335, 3) := by decide +kernel
theorem dJ0_length_8abf5_9 : decode cJ0_length_8abf5 9 = .ok (.ishr, 1) := by decide +kernel
theorem dJ0_length_8abf5_10 : decode cJ0_length_8abf5 10 = .ok (.ireturn, 1) := by decide +kernel
theorem dJ0_indexOf_0f7a4_0 : decode cJ0_indexOf_0f7a4 0 = .ok (.aload_n 0, 1) := by decide +kernel
theorem dJ0_indexOf_0f7a4_1 : decode cJ0_indexOf_0f7a4 1 = .ok (.iload_n 1, 1) := by decide +kernel
theorem dJ0_indexOf_0f7a4_2 : decode cJ0_indexOf_0f7a4 2 = .ok (.iconst 0, 1) := by decide +kernel
theorem dJ0_indexOf_0f7a4_3 : decode cJ0_indexOf_0f7a4 3 = .ok (.invokevirtual 633, 3) := by decide +kernel
theorem dJ0_indexOf_0f7a4_6 : decode cJ0_indexOf_0f7a4 6 = .ok (.ireturn, 1) := by decide +kernel
theorem dJ0_indexOf_7cf53_0 : decode cJ0_indexOf_7cf53 0 = .ok (.aload_n 0, 1) := by decide +kernel
theorem dJ0_indexOf_7cf53_1 : decode cJ0_indexOf_7cf53 1 = .ok (.invokevirtual 492, 3) := by decide +kernel
theorem dJ0_indexOf_7cf53_4 : decode cJ0_indexOf_7cf53 4 = .ok (.ifCond .eq 19, 3) := by decide +kernel
theorem dJ0_indexOf_7cf53_7 : decode cJ0_indexOf_7cf53 7 = .ok (.aload_n 0, 1) := by decide +kernel
theorem dJ0_indexOf_7cf53_8 : decode cJ0_indexOf_7cf53 8 = .ok (.getfield 9, 3) := by decide +kernel
theorem dJ0_indexOf_7cf53_11 : decode cJ0_indexOf_7cf53 11 = .ok (.iload_n 1, 1) := by decide +kernel
theorem dJ0_indexOf_7cf53_12 : decode cJ0_indexOf_7cf53 12 = .ok (.iload_n 2, 1) := by decide +kernel
theorem dJ0_indexOf_7cf53_13 : decode cJ0_indexOf_7cf53 13 = .ok (.aload_n 0, 1) := by decide +kernel
theorem dJ0_indexOf_7cf53_14 : decode cJ0_indexOf_7cf53 14 = .ok (.invokevirtual 505, 3) := by decide +kernel
theorem dJ0_indexOf_7cf53_17 : decode cJ0_indexOf_7cf53 17 = .ok (.invokestatic 637, 3) := by decide +kernel
theorem dJ0_indexOf_7cf53_20 : decode cJ0_indexOf_7cf53 20 = .ok (.goto 16, 3) := by decide +kernel
theorem dJ0_indexOf_7cf53_23 : decode cJ0_indexOf_7cf53 23 = .ok (.aload_n 0, 1) := by decide +kernel
theorem dJ0_indexOf_7cf53_24 : decode cJ0_indexOf_7cf53 24 = .ok (.getfield 9, 3) := by decide +kernel
theorem dJ0_indexOf_7cf53_27 : decode cJ0_indexOf_7cf53 27 = .ok (.iload_n 1, 1) := by decide +kernel
theorem dJ0_indexOf_7cf53_28 : decode cJ0_indexOf_7cf53 28 = .ok (.iload_n 2, 1) := by decide +kernel
theorem dJ0_indexOf_7cf53_29 : decode cJ0_indexOf_7cf53 29 = .ok (.aload_n 0, 1) := by decide +kernel
theorem dJ0_indexOf_7cf53_30 : decode cJ0_indexOf_7cf53 30 = .ok (.invokevirtual 505, 3) := by decide +kernel
theorem dJ0_indexOf_7cf53_33 : decode cJ0_indexOf_7cf53 33 = .ok (.invokestatic 640, 3) := by decide +kernel
theorem dJ0_indexOf_7cf53_36 : decode cJ0_indexOf_7cf53 36 = .ok (.ireturn, 1) := by decide +kernel
theorem dJ0_coder_7d493_0 : decode cJ0_coder_7d493 0 = .ok (.getstatic 38, 3) := by decide +kernel
theorem dJ0_coder_7d493_3 : decode cJ0_coder_7d493 3 = .ok (.ifCond .eq 10, 3) := by decide +kernel
theorem dJ0_coder_7d493_6 : decode cJ0_coder_7d493 6 = .ok (.aload_n 0, 1) := by decide +kernel
theorem dJ0_coder_7d493_7 : decode cJ0_coder_7d493 7 = .ok (.getfield 15, 3) := by decide +kernel
theorem dJ0_coder_7d493_10 : decode cJ0_coder_7d493 10 = .ok (.goto 4, 3) := by decide +kernel
theorem dJ0_coder_7d493_13 : decode cJ0_coder_7d493 13 = .ok (.iconst 1, 1) := by decide +kernel
theorem dJ0_coder_7d493_14 : decode cJ0_coder_7d493 14 = .ok (.ireturn, 1) := by decide +kernel
theorem dJ0_isLatin1_aae02_0 : decode cJ0_isLatin1_aae02 0 = .ok (.getstatic 38, 3) := by decide +kernel
theorem dJ0_isLatin1_aae02_3 : decode cJ0_isLatin1_aae02 3 = .ok (.ifCond .eq 14, 3) := by decide +kernel
theorem dJ0_isLatin1_aae02_6 : decode cJ0_isLatin1_aae02 6 = .ok (.aload_n 0, 1) := by decide +kernel
theorem dJ0_isLatin1_aae02_7 : decode cJ0_isLatin1_aae02 7 = .ok (.getfield 15, 3) := by decide +kernel
theorem dJ0_isLatin1_aae02_10 : decode cJ0_isLatin1_aae02 10 = .ok (.ifCond .ne 7, 3) := by decide +kernel
theorem dJ0_isLatin1_aae02_13 : decode cJ0_isLatin1_aae02 13 = .ok (.iconst 1, 1) := by decide +kernel
theorem dJ0_isLatin1_aae02_14 : decode cJ0_isLatin1_aae02 14 = .ok (.goto 4, 3) := by decide +kernel
theorem dJ0_isLatin1_aae02_17 : decode cJ0_isLatin1_aae02 17 = .ok (.iconst 0, 1) := by decide +kernel
theorem dJ0_isLatin1_aae02_18 : decode cJ0_isLatin1_aae02 18 = .ok (.ireturn, 1) := by decide +kernel
theorem dJ0_checkBoundsBeginEnd_23922_0 : decode cJ0_checkBoundsBeginEnd_23922 0 = .ok (.iload_n 0, 1) := by decide +kernel
theorem dJ0_checkBoundsBeginEnd_23922_1 : decode cJ0_checkBoundsBeginEnd_23922 1 = .ok (.iload_n 1, 1) := by decide +kernel
theorem dJ0_checkBoundsBeginEnd_23922_2 : decode cJ0_checkBoundsBeginEnd_23922 2 = .ok (.iload_n 2, 1) := by decide +kernel
theorem dJ0_checkBoundsBeginEnd_23922_3 : decode cJ0_checkBoundsBeginEnd_23922 3 = .ok (.getstatic 1053, 3) := by decide +kernel
theorem dJ0_checkBoundsBeginEnd_23922_6 : decode cJ0_checkBoundsBeginEnd_23922 6 = .ok (.invokestatic 1062, 3) := by decide +kernel
theorem dJ0_checkBoundsBeginEnd_23922_9 : decode cJ0_checkBoundsBeginEnd_23922 9 = .ok (.pop, 1) := by decide +kernel
theorem dJ0_checkBoundsBeginEnd_23922_10 : decode cJ0_checkBoundsBeginEnd_23922 10 = .ok (.return_, 1) := by decide +kernel
theorem dJ1_canEncode_9a6ad_0 : decode cJ1_canEncode_9a6ad 0 = .ok (.iload_n 0, 1) := by decide +kernel
theorem dJ1_canEncode_9a6ad_1 : decode cJ1_canEncode_9a6ad 1 = .ok (.ifCond .lt 14, 3) := by decide +kernel
theorem dJ1_canEncode_9a6ad_4 : decode cJ1_canEncode_9a6ad 4 = .ok (.iload_n 0, 1) := by decide +kernel
theorem dJ1_canEncode_9a6ad_5 : decode cJ1_canEncode_9a6ad 5 = .ok (.sipush 255, 3) := by decide +kernel
theorem dJ1_canEncode_9a6ad_8 : decode cJ1_canEncode_9a6ad 8 = .ok (.if_icmp .gt 7, 3) := by decide +kernel
theorem dJ1_canEncode_9a6ad_11 : decode cJ1_canEncode_9a6ad 11 = .ok (.iconst 1, 1) := by decide +kernel
theorem dJ1_canEncode_9a6ad_12 : decode cJ1_canEncode_9a6ad 12 = .ok (.goto 4, 3) := by decide +kernel
theorem dJ1_canEncode_9a6ad_15 : decode cJ1_canEncode_9a6ad 15 = .ok (.iconst 0, 1) := by decide +kernel
theorem dJ1_canEncode_9a6ad_16 : decode cJ1_canEncode_9a6ad 16 = .ok (.ireturn, 1) := by decide +kernel
theorem dJ1_indexOf_4cfef_0 : decode cJ1_indexOf_4cfef 0 = .ok (.iload_n 1, 1) := by decide +kernel
theorem dJ1_indexOf_4cfef_1 : decode cJ1_indexOf_4cfef 1 = .ok (.invokestatic 88, 3) := by decide +kernel
theorem dJ1_indexOf_4cfef_4 : decode cJ1_indexOf_4cfef 4 = .ok (.ifCond .ne 5, 3) := by decide +kernel
theorem dJ1_indexOf_4cfef_7 : decode cJ1_indexOf_4cfef 7 = .ok (.iconst (-1), 1) := by decide +kernel
theorem dJ1_indexOf_4cfef_8 : decode cJ1_indexOf_4cfef 8 = .ok (.ireturn, 1) := by decide +kernel
theorem dJ1_indexOf_4cfef_9 : decode cJ1_indexOf_4cfef 9 = .ok (.iload_n 2, 1) := by decide +kernel
theorem dJ1_indexOf_4cfef_10 : decode cJ1_indexOf_4cfef 10 = .ok (.iconst 0, 1) := by decide +kernel
theorem dJ1_indexOf_4cfef_11 : decode cJ1_indexOf_4cfef 11 = .ok (.invokestatic 92, 3) := by decide +kernel
theorem dJ1_indexOf_4cfef_14 : decode cJ1_indexOf_4cfef 14 = .ok (.istore_n 2, 1) := by decide +kernel
theorem dJ1_indexOf_4cfef_15 : decode cJ1_indexOf_4cfef 15 = .ok (.iload_n 3, 1) := by decide +kernel
theorem dJ1_indexOf_4cfef_16 : decode cJ1_indexOf_4cfef 16 = .ok (.aload_n 0, 1) := by decide +kernel
theorem dJ1_indexOf_4cfef_17 : decode cJ1_indexOf_4cfef 17 = .ok (.arraylength, 1) := by decide +kernel
theorem dJ1_indexOf_4cfef_18 : decode cJ1_indexOf_4cfef 18 = .ok (.invokestatic 38, 3) := by decide +kernel
theorem dJ1_indexOf_4cfef_21 : decode cJ1_indexOf_4cfef 21 = .ok (.istore_n 3, 1) := by decide +kernel
theorem dJ1_indexOf_4cfef_22 : decode cJ1_indexOf_4cfef 22 = .ok (.iload_n 2, 1) := by decide +kernel
theorem dJ1_indexOf_4cfef_23 : decode cJ1_indexOf_4cfef 23 = .ok (.iload_n 3, 1) := by decide +kernel
theorem dJ1_indexOf_4cfef_24 : decode cJ1_indexOf_4cfef 24 = .ok (.if_icmp .lt 5, 3) := by decide +kernel
theorem dJ1_indexOf_4cfef_27 : decode cJ1_indexOf_4cfef 27 = .ok (.iconst (-1), 1) := by decide +kernel
theorem dJ1_indexOf_4cfef_28 : decode cJ1_indexOf_4cfef 28 = .ok (.ireturn, 1) := by decide +kernel
theorem dJ1_indexOf_4cfef_29 : decode cJ1_indexOf_4cfef 29 = .ok (.aload_n 0, 1) := by decide +kernel
theorem dJ1_indexOf_4cfef_30 : decode cJ1_indexOf_4cfef 30 = .ok (.iload_n 1, 1) := by decide +kernel
theorem dJ1_indexOf_4cfef_31 : decode cJ1_indexOf_4cfef 31 = .ok (.iload_n 2, 1) := by decide +kernel
theorem dJ1_indexOf_4cfef_32 : decode cJ1_indexOf_4cfef 32 = .ok (.iload_n 3, 1) := by decide +kernel
theorem dJ1_indexOf_4cfef_33 : decode cJ1_indexOf_4cfef 33 = .ok (.invokestatic 95, 3) := by decide +kernel
theorem dJ1_indexOf_4cfef_36 : decode cJ1_indexOf_4cfef 36 = .ok (.ireturn, 1) := by decide +kernel
theorem dJ1_indexOfChar_4cfef_0 : decode cJ1_indexOfChar_4cfef 0 = .ok (.iload_n 1, 1) := by decide +kernel
theorem dJ1_indexOfChar_4cfef_1 : decode cJ1_indexOfChar_4cfef 1 = .ok (.i2b, 1) := by decide +kernel
theorem dJ1_indexOfChar_4cfef_2 : decode cJ1_indexOfChar_4cfef 2 = .ok (.istore 4, 2) := by decide +kernel
theorem dJ1_indexOfChar_4cfef_4 : decode cJ1_indexOfChar_4cfef 4 = .ok (.iload_n 2, 1) := by decide +kernel
theorem dJ1_indexOfChar_4cfef_5 : decode cJ1_indexOfChar_4cfef 5 = .ok (.istore 5, 2) := by decide +kernel
theorem dJ1_indexOfChar_4cfef_7 : decode cJ1_indexOfChar_4cfef 7 = .ok (.iload 5, 2) := by decide +kernel
theorem dJ1_indexOfChar_4cfef_9 : decode cJ1_indexOfChar_4cfef 9 = .ok (.iload_n 3, 1) := by decide +kernel
theorem dJ1_indexOfChar_4cfef_10 : decode cJ1_indexOfChar_4cfef 10 = .ok (.if_icmp .ge 21, 3) := by decide +kernel
theorem dJ1_indexOfChar_4cfef_13 : decode cJ1_indexOfChar_4cfef 13 = .ok (.aload_n 0, 1) := by decide +kernel
theorem dJ1_indexOfChar_4cfef_14 : decode cJ1_indexOfChar_4cfef 14 = .ok (.iload 5, 2) := by decide +kernel
theorem dJ1_indexOfChar_4cfef_16 : decode cJ1_indexOfChar_4cfef 16 = .ok (.baload, 1) := by decide +kernel
theorem dJ1_indexOfChar_4cfef_17 : decode cJ1_indexOfChar_4cfef 17 = .ok (.iload 4, 2) := by decide +kernel
theorem dJ1_indexOfChar_4cfef_19 : decode cJ1_indexOfChar_4cfef 19 = .ok (.if_icmp .ne 6, 3) := by decide +kernel
theorem dJ1_indexOfChar_4cfef_22 : decode cJ1_indexOfChar_4cfef 22 = .ok (.iload 5, 2) := by decide +kernel
theorem dJ1_indexOfChar_4cfef_24 : decode cJ1_indexOfChar_4cfef 24 = .ok (.ireturn, 1) := by decide +kernel
theorem dJ1_indexOfChar_4cfef_25 : decode cJ1_indexOfChar_4cfef 25 = .ok (.iinc 5 1, 3) := by decide +kernel
theorem dJ1_indexOfChar_4cfef_28 : decode cJ1_indexOfChar_4cfef 28 = .ok (.goto (-21), 3) := by decide +kernel
theorem dJ1_indexOfChar_4cfef_31 : decode cJ1_indexOfChar_4cfef 31 = .ok (.iconst (-1), 1) := by decide +kernel
theorem dJ1_indexOfChar_4cfef_32 : decode cJ1_indexOfChar_4cfef 32 = .ok (.ireturn, 1) := by decide +kernel
theorem dJ11_isValidCodePoint_9a6ad_0 : decode cJ11_isValidCodePoint_9a6ad 0 = .ok (.iload_n 0, 1) := by decide +kernel
theorem dJ11_isValidCodePoint_9a6ad_1 : decode cJ11_isValidCodePoint_9a6ad 1 = .ok (.bipush 16, 2) := by decide +kernel
theorem dJ11_isValidCodePoint_9a6ad_3 : decode cJ11_isValidCodePoint_9a6ad 3 = .ok (.iushr, 1) := by decide +kernel
theorem dJ11_isValidCodePoint_9a6ad_4 : decode cJ11_isValidCodePoint_9a6ad 4 = .ok (.istore_n 1, 1) := by decide +kernel
theorem dJ11_isValidCodePoint_9a6ad_5 : decode cJ11_isValidCodePoint_9a6ad 5 = .ok (.iload_n 1, 1) := by decide +kernel
theorem dJ11_isValidCodePoint_9a6ad_6 : decode cJ11_isValidCodePoint_9a6ad 6 = .ok (.bipush 17, 2) := by decide +kernel
theorem dJ11_isValidCodePoint_9a6ad_8 : decode cJ11_isValidCodePoint_9a6ad 8 = .ok (.if_icmp .ge 7, 3) := by decide +kernel
theorem dJ11_isValidCodePoint_9a6ad_11 : decode cJ11_isValidCodePoint_9a6ad 11 = .ok (.iconst 1, 1) := by decide +kernel
theorem dJ11_isValidCodePoint_9a6ad_12 : decode cJ11_isValidCodePoint_9a6ad 12 = .ok (.goto 4, 3) := by decide +kernel
theorem dJ11_isValidCodePoint_9a6ad_15 : decode cJ11_isValidCodePoint_9a6ad 15 = .ok (.iconst 0, 1) := by decide +kernel
theorem dJ11_isValidCodePoint_9a6ad_16 : decode cJ11_isValidCodePoint_9a6ad 16 = .ok (.ireturn, 1) := by decide +kernel
theorem dJ11_highSurrogate_5068e_0 : decode cJ11_highSurrogate_5068e 0 = .ok (.iload_n 0, 1) := by decide +kernel
theorem dJ11_highSurrogate_5068e_1 : decode cJ11_highSurrogate_5068e 1 = .ok (.bipush 10, 2) := by decide +kernel
theorem dJ11_highSurrogate_5068e_3 : decode cJ11_highSurrogate_5068e 3 = .ok (.iushr, 1) := by decide +kernel
theorem dJ11_highSurrogate_5068e_4 : decode cJ11_highSurrogate_5068e 4 = .ok (.ldc 110, 2) := by decide +kernel
theorem dJ11_highSurrogate_5068e_6 : decode cJ11_highSurrogate_5068e 6 = .ok (.iadd, 1) := by decide +kernel
theorem dJ11_highSurrogate_5068e_7 : decode cJ11_highSurrogate_5068e 7 = .ok (.i2c, 1) := by decide +kernel
theorem dJ11_highSurrogate_5068e_8 : decode cJ11_highSurrogate_5068e 8 = .ok (.ireturn, 1) := by decide +kernel
theorem dJ11_lowSurrogate_5068e_0 : decode cJ11_lowSurrogate_5068e 0 = .ok (.iload_n 0, 1) := by decide +kernel
theorem dJ11_lowSurrogate_5068e_1 : decode cJ11_lowSurrogate_5068e 1 = .ok (.sipush 1023, 3) := by decide +kernel
theorem dJ11_lowSurrogate_5068e_4 : decode cJ11_lowSurrogate_5068e 4 = .ok (.iand, 1) := by decide +kernel
theorem dJ11_lowSurrogate_5068e_5 : decode cJ11_lowSurrogate_5068e 5 = .ok (.ldc 76, 2) := by decide +kernel
theorem dJ11_lowSurrogate_5068e_7 : decode cJ11_lowSurrogate_5068e 7 = .ok (.iadd, 1) := by decide +kernel
theorem dJ11_lowSurrogate_5068e_8 : decode cJ11_lowSurrogate_5068e 8 = .ok (.i2c, 1) := by decide +kernel
theorem dJ11_lowSurrogate_5068e_9 : decode cJ11_lowSurrogate_5068e 9 = .ok (.ireturn, 1) := by decide +kernel
theorem dJ2_getChar_3b067_0 : decode cJ2_getChar_3b067 0 = .ok (.getstatic 44, 3) := by decide +kernel
theorem dJ2_getChar_3b067_3 : decode cJ2_getChar_3b067 3 = .ok (.ifCond .ne 25, 3) := by decide +kernel
theorem dJ2_getChar_3b067_6 : decode cJ2_getChar_3b067 6 = .ok (.iload_n 1, 1) := by decide +kernel
theorem dJ2_getChar_3b067_7 : decode cJ2_getChar_3b067 7 = .ok (.ifCond .lt 11, 3) := by decide +kernel
theorem dJ2_getChar_3b067_10 : decode cJ2_getChar_3b067 10 = .ok (.iload_n 1, 1) := by decide +kernel
theorem dJ2_getChar_3b067_11 : decode cJ2_getChar_3b067 11 = .ok (.aload_n 0, 1) := by decide +kernel
theorem dJ2_getChar_3b067_12 : decode cJ2_getChar_3b067 12 = .ok (.invokestatic 48, 3) := by decide +kernel
theorem dJ2_getChar_3b067_15 : decode cJ2_getChar_3b067 15 = .ok (.if_icmp .lt 13, 3) := by decide +kernel
theorem dJ2_getChar_3b067_18 : decode cJ2_getChar_3b067 18 = .ok (.new 52, 3) := by decide +kernel
theorem dJ2_getChar_3b067_21 : decode cJ2_getChar_3b067 21 = .ok (.dup, 1) := by decide +kernel
theorem dJ2_getChar_3b067_22 : decode cJ2_getChar_3b067 22 = .ok (.ldc 54, 2) := by decide +kernel
theorem dJ2_getChar_3b067_24 : decode cJ2_getChar_3b067 24 = .ok (.invokespecial 56, 3) := by decide +kernel
theorem dJ2_getChar_3b067_27 : decode cJ2_getChar_3b067 27 = .ok (.athrow, 1) := by decide +kernel
theorem dJ2_getChar_3b067_28 : decode cJ2_getChar_3b067 28 = .ok (.iload_n 1, 1) := by decide +kernel
theorem dJ2_getChar_3b067_29 : decode cJ2_getChar_3b067 29 = .ok (.iconst 1, 1) := by decide +kernel
theorem dJ2_getChar_3b067_30 : decode cJ2_getChar_3b067 30 = .ok (.ishl, 1) := by decide +kernel
theorem dJ2_getChar_3b067_31 : decode cJ2_getChar_3b067 31 = .ok (.istore_n 1, 1) := by decide +kernel
theorem dJ2_getChar_3b067_32 : decode cJ2_getChar_3b067 32 = .ok (.aload_n 0, 1) := by decide +kernel
theorem dJ2_getChar_3b067_33 : decode cJ2_getChar_3b067 33 = .ok (.iload_n 1, 1) := by decide +kernel
theorem dJ2_getChar_3b067_34 : decode cJ2_getChar_3b067 34 = .ok (.iinc 1 1, 3) := by decide +kernel
theorem dJ2_getChar_3b067_37 : decode cJ2_getChar_3b067 37 = .ok (.baload, 1) := by decide +kernel
theorem dJ2_getChar_3b067_38 : decode cJ2_getChar_3b067 38 = .ok (.sipush 255, 3) := by decide +kernel
theorem dJ2_getChar_3b067_41 : decode cJ2_getChar_3b067 41 = .ok (.iand, 1) := by decide +kernel
theorem dJ2_getChar_3b067_42 : decode cJ2_getChar_3b067 42 = .ok (.getstatic 59, 3) := by decide +kernel
theorem dJ2_getChar_3b067_45 : decode cJ2_getChar_3b067 45 = .ok (.ishl, 1) := by decide +kernel
theorem dJ2_getChar_3b067_46 : decode cJ2_getChar_3b067 46 = .ok (.aload_n 0, 1) := by decide +kernel
theorem dJ2_getChar_3b067_47 : decode cJ2_getChar_3b067 47 = .ok (.iload_n 1, 1) := by decide +kernel
theorem dJ2_getChar_3b067_48 : decode cJ2_getChar_3b067 48 = .ok (.baload, 1) := by decide +kernel
theorem dJ2_getChar_3b067_49 : decode cJ2_getChar_3b067 49 = .ok (.sipush 255, 3) := by decide +kernel
theorem dJ2_getChar_3b067_52 : decode cJ2_getChar_3b067 52 = .ok (.iand, 1) := by decide +kernel
theorem dJ2_getChar_3b067_53 : decode cJ2_getChar_3b067 53 = .ok (.getstatic 63, 3) := by decide +kernel
theorem dJ2_getChar_3b067_56 : decode cJ2_getChar_3b067 56 = .ok (.ishl, 1) := by decide +kernel
theorem dJ2_getChar_3b067_57 : decode cJ2_getChar_3b067 57 = .ok (.ior, 1) := by decide +kernel
theorem dJ2_getChar_3b067_58 : decode cJ2_getChar_3b067 58 = .ok (.i2c, 1) := by decide +kernel
theorem dJ2_getChar_3b067_59 : decode cJ2_getChar_3b067 59 = .ok (.ireturn, 1) := by decide +kernel
theorem dJ2_length_9d52b_0 : decode cJ2_length_9d52b 0 = .ok (.aload_n 0, 1) := by decide +kernel
theorem dJ2_length_9d52b_1 : decode cJ2_length_9d52b 1 = .ok (.arraylength, 1) := by decide +kernel
theorem dJ2_length_9d52b_2 : decode cJ2_length_9d52b 2 = .ok (.iconst 1, 1) := by decide +kernel
theorem dJ2_length_9d52b_3 : decode cJ2_length_9d52b 3 = .ok (.ishr, 1) := by decide +kernel
theorem dJ2_length_9d52b_4 : decode cJ2_length_9d52b 4 = .ok (.ireturn, 1) := by decide +kernel
theorem dJ2_indexOf_4cfef_0 : decode cJ2_indexOf_4cfef 0 = .ok (.iload_n 2, 1) := by decide +kernel
theorem dJ2_indexOf_4cfef_1 : decode cJ2_indexOf_4cfef 1 = .ok (.iconst 0, 1) := by decide +kernel
theorem dJ2_indexOf_4cfef_2 : decode cJ2_indexOf_4cfef 2 = .ok (.invokestatic 224, 3) := by decide +kernel
theorem dJ2_indexOf_4cfef_5 : decode cJ2_indexOf_4cfef 5 = .ok (.istore_n 2, 1) := by decide +kernel
theorem dJ2_indexOf_4cfef_6 : decode cJ2_indexOf_4cfef 6 = .ok (.iload_n 3, 1) := by decide +kernel
theorem dJ2_indexOf_4cfef_7 : decode cJ2_indexOf_4cfef 7 = .ok (.aload_n 0, 1) := by decide +kernel
theorem dJ2_indexOf_4cfef_8 : decode cJ2_indexOf_4cfef 8 = .ok (.arraylength, 1) := by decide +kernel
theorem dJ2_indexOf_4cfef_9 : decode cJ2_indexOf_4cfef 9 = .ok (.iconst 1, 1) := by decide +kernel
theorem dJ2_indexOf_4cfef_10 : decode cJ2_indexOf_4cfef 10 = .ok (.ishr, 1) := by decide +kernel
theorem dJ2_indexOf_4cfef_11 : decode cJ2_indexOf_4cfef 11 = .ok (.invokestatic 183, 3) := by decide +kernel
theorem dJ2_indexOf_4cfef_14 : decode cJ2_indexOf_4cfef 14 = .ok (.istore_n 3, 1) := by decide +kernel
theorem dJ2_indexOf_4cfef_15 : decode cJ2_indexOf_4cfef 15 = .ok (.iload_n 2, 1) := by decide +kernel
theorem dJ2_indexOf_4cfef_16 : decode cJ2_indexOf_4cfef 16 = .ok (.iload_n 3, 1) := by decide +kernel
theorem dJ2_indexOf_4cfef_17 : decode cJ2_indexOf_4cfef 17 = .ok (.if_icmp .lt 5, 3) := by decide +kernel
theorem dJ2_indexOf_4cfef_20 : decode cJ2_indexOf_4cfef 20 = .ok (.iconst (-1), 1) := by decide +kernel
theorem dJ2_indexOf_4cfef_21 : decode cJ2_indexOf_4cfef 21 = .ok (.ireturn, 1) := by decide +kernel
theorem dJ2_indexOf_4cfef_22 : decode cJ2_indexOf_4cfef 22 = .ok (.iload_n 1, 1) := by decide +kernel
theorem dJ2_indexOf_4cfef_23 : decode cJ2_indexOf_4cfef 23 = .ok (.ldc 227, 2) := by decide +kernel
theorem dJ2_indexOf_4cfef_25 : decode cJ2_indexOf_4cfef 25 = .ok (.if_icmp .ge 11, 3) := by decide +kernel
theorem dJ2_indexOf_4cfef_28 : decode cJ2_indexOf_4cfef 28 = .ok (.aload_n 0, 1) := by decide +kernel
theorem dJ2_indexOf_4cfef_29 : decode cJ2_indexOf_4cfef 29 = .ok (.iload_n 1, 1) := by decide +kernel
theorem dJ2_indexOf_4cfef_30 : decode cJ2_indexOf_4cfef 30 = .ok (.iload_n 2, 1) := by decide +kernel
theorem dJ2_indexOf_4cfef_31 : decode cJ2_indexOf_4cfef 31 = .ok (.iload_n 3, 1) := by decide +kernel
theorem dJ2_indexOf_4cfef_32 : decode cJ2_indexOf_4cfef 32 = .ok (.invokestatic 228, 3) := by decide +kernel
theorem dJ2_indexOf_4cfef_35 : decode cJ2_indexOf_4cfef 35 = .ok (.ireturn, 1) := by decide +kernel
theorem dJ2_indexOf_4cfef_36 : decode cJ2_indexOf_4cfef 36 = .ok (.aload_n 0, 1) := by decide +kernel
theorem dJ2_indexOf_4cfef_37 : decode cJ2_indexOf_4cfef 37 = .ok (.iload_n 1, 1) := by decide +kernel
theorem dJ2_indexOf_4cfef_38 : decode cJ2_indexOf_4cfef 38 = .ok (.iload_n 2, 1) := by decide +kernel
theorem dJ2_indexOf_4cfef_39 : decode cJ2_indexOf_4cfef 39 = .ok (.iload_n 3, 1) := by decide +kernel
theorem dJ2_indexOf_4cfef_40 : decode cJ2_indexOf_4cfef 40 = .ok (.invokestatic 232, 3) := by decide +kernel
theorem dJ2_indexOf_4cfef_43 : decode cJ2_indexOf_4cfef 43 = .ok (.ireturn, 1) := by decide +kernel
theorem dJ2_indexOfChar_4cfef_0 : decode cJ2_indexOfChar_4cfef 0 = .ok (.iload_n 2, 1) := by decide +kernel
theorem dJ2_indexOfChar_4cfef_1 : decode cJ2_indexOfChar_4cfef 1 = .ok (.iload_n 3, 1) := by decide +kernel
theorem dJ2_indexOfChar_4cfef_2 : decode cJ2_indexOfChar_4cfef 2 = .ok (.aload_n 0, 1) := by decide +kernel
theorem dJ2_indexOfChar_4cfef_3 : decode cJ2_indexOfChar_4cfef 3 = .ok (.invokestatic 96, 3) := by decide +kernel
theorem dJ2_indexOfChar_4cfef_6 : decode cJ2_indexOfChar_4cfef 6 = .ok (.aload_n 0, 1) := by decide +kernel
theorem dJ2_indexOfChar_4cfef_7 : decode cJ2_indexOfChar_4cfef 7 = .ok (.iload_n 1, 1) := by decide +kernel
theorem dJ2_indexOfChar_4cfef_8 : decode cJ2_indexOfChar_4cfef 8 = .ok (.iload_n 2, 1) := by decide +kernel
theorem dJ2_indexOfChar_4cfef_9 : decode cJ2_indexOfChar_4cfef 9 = .ok (.iload_n 3, 1) := by decide +kernel
theorem dJ2_indexOfChar_4cfef_10 : decode cJ2_indexOfChar_4cfef 10 = .ok (.invokestatic 244, 3) := by decide +kernel
theorem dJ2_indexOfChar_4cfef_13 : decode cJ2_indexOfChar_4cfef 13 = .ok (.ireturn, 1) := by decide +kernel
theorem dJ2_indexOfCharUnsafe_4cfef_0 : decode cJ2_indexOfCharUnsafe_4cfef 0 = .ok (.iload_n 2, 1) := by decide +kernel
theorem dJ2_indexOfCharUnsafe_4cfef_1 : decode cJ2_indexOfCharUnsafe_4cfef 1 = .ok (.istore 4, 2) := by decide +kernel
theorem dJ2_indexOfCharUnsafe_4cfef_3 : decode cJ2_indexOfCharUnsafe_4cfef 3 = .ok (.iload 4, 2) := by decide +kernel
theorem dJ2_indexOfCharUnsafe_4cfef_5 : decode cJ2_indexOfCharUnsafe_4cfef 5 = .ok (.iload_n 3, 1) := by decide +kernel
theorem dJ2_indexOfCharUnsafe_4cfef_6 : decode cJ2_indexOfCharUnsafe_4cfef 6 = .ok (.if_icmp .ge 22, 3) := by decide +kernel
theorem dJ2_indexOfCharUnsafe_4cfef_9 : decode cJ2_indexOfCharUnsafe_4cfef 9 = .ok (.aload_n 0, 1) := by decide +kernel
theorem dJ2_indexOfCharUnsafe_4cfef_10 : decode cJ2_indexOfCharUnsafe_4cfef 10 = .ok (.iload 4, 2) := by decide +kernel
theorem dJ2_indexOfCharUnsafe_4cfef_12 : decode cJ2_indexOfCharUnsafe_4cfef 12 = .ok (.invokestatic 71, 3) := by decide +kernel
theorem dJ2_indexOfCharUnsafe_4cfef_15 : decode cJ2_indexOfCharUnsafe_4cfef 15 = .ok (.iload_n 1, 1) := by decide +kernel
theorem dJ2_indexOfCharUnsafe_4cfef_16 : decode cJ2_indexOfCharUnsafe_4cfef 16 = .ok (.if_icmp .ne 6, 3) := by decide +kernel
theorem dJ2_indexOfCharUnsafe_4cfef_19 : decode cJ2_indexOfCharUnsafe_4cfef 19 = .ok (.iload 4, 2) := by decide +kernel
theorem dJ2_indexOfCharUnsafe_4cfef_21 : decode cJ2_indexOfCharUnsafe_4cfef 21 = .ok (.ireturn, 1) := by decide +kernel
theorem dJ2_indexOfCharUnsafe_4cfef_22 : decode cJ2_indexOfCharUnsafe_4cfef 22 = .ok (.iinc 4 1, 3) := by decide +kernel
theorem dJ2_indexOfCharUnsafe_4cfef_25 : decode cJ2_indexOfCharUnsafe_4cfef 25 = .ok (.goto (-22), 3) := by decide +kernel
theorem dJ2_indexOfCharUnsafe_4cfef_28 : decode cJ2_indexOfCharUnsafe_4cfef 28 = .ok (.iconst (-1), 1) := by decide +kernel
theorem dJ2_indexOfCharUnsafe_4cfef_29 : decode cJ2_indexOfCharUnsafe_4cfef 29 = .ok (.ireturn, 1) := by decide +kernel
theorem dJ2_indexOfSupplementary_4cfef_0 : decode cJ2_indexOfSupplementary_4cfef 0 = .ok (.iload_n 1, 1) := by decide +kernel
theorem dJ2_indexOfSupplementary_4cfef_1 : decode cJ2_indexOfSupplementary_4cfef 1 = .ok (.invokestatic 164, 3) := by decide +kernel
theorem dJ2_indexOfSupplementary_4cfef_4 : decode cJ2_indexOfSupplementary_4cfef 4 = .ok (.ifCond .eq 65, 3) := by decide +kernel
theorem dJ2_indexOfSupplementary_4cfef_7 : decode cJ2_indexOfSupplementary_4cfef 7 = .ok (.iload_n 1, 1) := by decide +kernel
theorem dJ2_indexOfSupplementary_4cfef_8 : decode cJ2_indexOfSupplementary_4cfef 8 = .ok (.invokestatic 157, 3) := by decide +kernel
theorem dJ2_indexOfSupplementary_4cfef_11 : decode cJ2_indexOfSupplementary_4cfef 11 = .ok (.istore 4, 2) := by decide +kernel
theorem dJ2_indexOfSupplementary_4cfef_13 : decode cJ2_indexOfSupplementary_4cfef 13 = .ok (.iload_n 1, 1) := by decide +kernel
theorem dJ2_indexOfSupplementary_4cfef_14 : decode cJ2_indexOfSupplementary_4cfef 14 = .ok (.invokestatic 161, 3) := by decide +kernel
theorem dJ2_indexOfSupplementary_4cfef_17 : decode cJ2_indexOfSupplementary_4cfef 17 = .ok (.istore 5, 2) := by decide +kernel
theorem dJ2_indexOfSupplementary_4cfef_19 : decode cJ2_indexOfSupplementary_4cfef 19 = .ok (.iload_n 2, 1) := by decide +kernel
theorem dJ2_indexOfSupplementary_4cfef_20 : decode cJ2_indexOfSupplementary_4cfef 20 = .ok (.iload_n 3, 1) := by decide +kernel
theorem dJ2_indexOfSupplementary_4cfef_21 : decode cJ2_indexOfSupplementary_4cfef 21 = .ok (.aload_n 0, 1) := by decide +kernel
theorem dJ2_indexOfSupplementary_4cfef_22 : decode cJ2_indexOfSupplementary_4cfef 22 = .ok (.invokestatic 96, 3) := by decide +kernel
theorem dJ2_indexOfSupplementary_4cfef_25 : decode cJ2_indexOfSupplementary_4cfef 25 = .ok (.iload_n 2, 1) := by decide +kernel
theorem dJ2_indexOfSupplementary_4cfef_26 : decode cJ2_indexOfSupplementary_4cfef 26 = .ok (.istore 6, 2) := by decide +kernel
theorem dJ2_indexOfSupplementary_4cfef_28 : decode cJ2_indexOfSupplementary_4cfef 28 = .ok (.iload 6, 2) := by decide +kernel
theorem dJ2_indexOfSupplementary_4cfef_30 : decode cJ2_indexOfSupplementary_4cfef 30 = .ok (.iload_n 3, 1) := by decide +kernel
theorem dJ2_indexOfSupplementary_4cfef_31 : decode cJ2_indexOfSupplementary_4cfef 31 = .ok (.iconst 1, 1) := by decide +kernel
theorem dJ2_indexOfSupplementary_4cfef_32 : decode cJ2_indexOfSupplementary_4cfef 32 = .ok (.isub, 1) := by decide +kernel
theorem dJ2_indexOfSupplementary_4cfef_33 : decode cJ2_indexOfSupplementary_4cfef 33 = .ok (.if_icmp .ge 36, 3) := by decide +kernel
theorem dJ2_indexOfSupplementary_4cfef_36 : decode cJ2_indexOfSupplementary_4cfef 36 = .ok (.aload_n 0, 1) := by decide +kernel
theorem dJ2_indexOfSupplementary_4cfef_37 : decode cJ2_indexOfSupplementary_4cfef 37 = .ok (.iload 6, 2) := by decide +kernel
theorem dJ2_indexOfSupplementary_4cfef_39 : decode cJ2_indexOfSupplementary_4cfef 39 = .ok (.invokestatic 71, 3) := by decide +kernel
theorem dJ2_indexOfSupplementary_4cfef_42 : decode cJ2_indexOfSupplementary_4cfef 42 = .ok (.iload 4, 2) := by decide +kernel
theorem dJ2_indexOfSupplementary_4cfef_44 : decode cJ2_indexOfSupplementary_4cfef 44 = .ok (.if_icmp .ne 19, 3) := by decide +kernel
theorem dJ2_indexOfSupplementary_4cfef_47 : decode cJ2_indexOfSupplementary_4cfef 47 = .ok (.aload_n 0, 1) := by decide +kernel
theorem dJ2_indexOfSupplementary_4cfef_48 : decode cJ2_indexOfSupplementary_4cfef 48 = .ok (.iload 6, 2) := by decide +kernel
theorem dJ2_indexOfSupplementary_4cfef_50 : decode cJ2_indexOfSupplementary_4cfef 50 = .ok (.iconst 1, 1) := by decide +kernel
theorem dJ2_indexOfSupplementary_4cfef_51 : decode cJ2_indexOfSupplementary_4cfef 51 = .ok (.iadd, 1) := by decide +kernel
theorem dJ2_indexOfSupplementary_4cfef_52 : decode cJ2_indexOfSupplementary_4cfef 52 = .ok (.invokestatic 71, 3) := by decide +kernel
theorem dJ2_indexOfSupplementary_4cfef_55 : decode cJ2_indexOfSupplementary_4cfef 55 = .ok (.iload 5, 2) := by decide +kernel
theorem dJ2_indexOfSupplementary_4cfef_57 : decode cJ2_indexOfSupplementary_4cfef 57 = .ok (.if_icmp .ne 6, 3) := by decide +kernel
theorem dJ2_indexOfSupplementary_4cfef_60 : decode cJ2_indexOfSupplementary_4cfef 60 = .ok (.iload 6, 2) := by decide +kernel
theorem dJ2_indexOfSupplementary_4cfef_62 : decode cJ2_indexOfSupplementary_4cfef 62 = .ok (.ireturn, 1) := by decide +kernel
theorem dJ2_indexOfSupplementary_4cfef_63 : decode cJ2_indexOfSupplementary_4cfef 63 = .ok (.iinc 6 1, 3) := by decide +kernel
theorem dJ2_indexOfSupplementary_4cfef_66 : decode cJ2_indexOfSupplementary_4cfef 66 = .ok (.goto (-38), 3) := by decide +kernel
theorem dJ2_indexOfSupplementary_4cfef_69 : decode cJ2_indexOfSupplementary_4cfef 69 = .ok (.iconst (-1), 1) := by decide +kernel
theorem dJ2_indexOfSupplementary_4cfef_70 : decode cJ2_indexOfSupplementary_4cfef 70 = .ok (.ireturn, 1) := by decide +kernel
theorem dJ2_checkBoundsBeginEnd_d044e_0 : decode cJ2_checkBoundsBeginEnd_d044e 0 = .ok (.iload_n 0, 1) := by decide +kernel
theorem dJ2_checkBoundsBeginEnd_d044e_1 : decode cJ2_checkBoundsBeginEnd_d044e 1 = .ok (.iload_n 1, 1) := by decide +kernel
theorem dJ2_checkBoundsBeginEnd_d044e_2 : decode cJ2_checkBoundsBeginEnd_d044e 2 = .ok (.aload_n 2, 1) := by decide +kernel
theorem dJ2_checkBoundsBeginEnd_d044e_3 : decode cJ2_checkBoundsBeginEnd_d044e 3 = .ok (.invokestatic 48, 3) := by decide +kernel
theorem dJ2_checkBoundsBeginEnd_d044e_6 : decode cJ2_checkBoundsBeginEnd_d044e 6 = .ok (.invokestatic 241, 3) := by decide +kernel
theorem dJ2_checkBoundsBeginEnd_d044e_9 : decode cJ2_checkBoundsBeginEnd_d044e 9 = .ok (.return_, 1) := by decide +kernel
theorem dJ3_checkFromToIndex_8c36e_0 : decode cJ3_checkFromToIndex_8c36e 0 = .ok (.iload_n 0, 1) := by decide +kernel
theorem dJ3_checkFromToIndex_8c36e_1 : decode cJ3_checkFromToIndex_8c36e 1 = .ok (.ifCond .lt 13, 3) := by decide +kernel
theorem dJ3_checkFromToIndex_8c36e_4 : decode cJ3_checkFromToIndex_8c36e 4 = .ok (.iload_n 0, 1) := by decide +kernel
theorem dJ3_checkFromToIndex_8c36e_5 : decode cJ3_checkFromToIndex_8c36e 5 = .ok (.iload_n 1, 1) := by decide +kernel
theorem dJ3_checkFromToIndex_8c36e_6 : decode cJ3_checkFromToIndex_8c36e 6 = .ok (.if_icmp .gt 8, 3) := by decide +kernel
theorem dJ3_checkFromToIndex_8c36e_9 : decode cJ3_checkFromToIndex_8c36e 9 = .ok (.iload_n 1, 1) := by decide +kernel
theorem dJ3_checkFromToIndex_8c36e_10 : decode cJ3_checkFromToIndex_8c36e 10 = .ok (.iload_n 2, 1) := by decide +kernel
theorem dJ3_checkFromToIndex_8c36e_11 : decode cJ3_checkFromToIndex_8c36e 11 = .ok (.if_icmp .le 11, 3) := by decide +kernel
theorem dJ3_checkFromToIndex_8c36e_14 : decode cJ3_checkFromToIndex_8c36e 14 = .ok (.aload_n 3, 1) := by decide +kernel
theorem dJ3_checkFromToIndex_8c36e_15 : decode cJ3_checkFromToIndex_8c36e 15 = .ok (.iload_n 0, 1) := by decide +kernel
theorem dJ3_checkFromToIndex_8c36e_16 : decode cJ3_checkFromToIndex_8c36e 16 = .ok (.iload_n 1, 1) := by decide +kernel
theorem dJ3_checkFromToIndex_8c36e_17 : decode cJ3_checkFromToIndex_8c36e 17 = .ok (.iload_n 2, 1) := by decide +kernel
theorem dJ3_checkFromToIndex_8c36e_18 : decode cJ3_checkFromToIndex_8c36e 18 = .ok (.invokestatic 99, 3) := by decide +kernel
theorem dJ3_checkFromToIndex_8c36e_21 : decode cJ3_checkFromToIndex_8c36e 21 = .ok (.athrow, 1) := by decide +kernel
theorem dJ3_checkFromToIndex_8c36e_22 : decode cJ3_checkFromToIndex_8c36e 22 = .ok (.iload_n 0, 1) := by decide +kernel
theorem dJ3_checkFromToIndex_8c36e_23 : decode cJ3_checkFromToIndex_8c36e 23 = .ok (.ireturn, 1) := by decide +kernel
theorem dJ7_fill_53178_0 : decode cJ7_fill_53178 0 = .ok (.iconst 0, 1) := by decide +kernel
theorem dJ7_fill_53178_1 : decode cJ7_fill_53178 1 = .ok (.istore_n 2, 1) := by decide +kernel
theorem dJ7_fill_53178_2 : decode cJ7_fill_53178 2 = .ok (.aload_n 0, 1) := by decide +kernel
theorem dJ7_fill_53178_3 : decode cJ7_fill_53178 3 = .ok (.arraylength, 1) := by decide +kernel
theorem dJ7_fill_53178_4 : decode cJ7_fill_53178 4 = .ok (.istore_n 3, 1) := by decide +kernel
theorem dJ7_fill_53178_5 : decode cJ7_fill_53178 5 = .ok (.iload_n 2, 1) := by decide +kernel
theorem dJ7_fill_53178_6 : decode cJ7_fill_53178 6 = .ok (.iload_n 3, 1) := by decide +kernel
theorem dJ7_fill_53178_7 : decode cJ7_fill_53178 7 = .ok (.if_icmp .ge 13, 3) := by decide +kernel
theorem dJ7_fill_53178_10 : decode cJ7_fill_53178 10 = .ok (.aload_n 0, 1) := by decide +kernel
theorem dJ7_fill_53178_11 : decode cJ7_fill_53178 11 = .ok (.iload_n 2, 1) := by decide +kernel
theorem dJ7_fill_53178_12 : decode cJ7_fill_53178 12 = .ok (.iload_n 1, 1) := by decide +kernel
theorem dJ7_fill_53178_13 : decode cJ7_fill_53178 13 = .ok (.iastore, 1) := by decide +kernel
theorem dJ7_fill_53178_14 : decode cJ7_fill_53178 14 = .ok (.iinc 2 1, 3) := by decide +kernel
theorem dJ7_fill_53178_17 : decode cJ7_fill_53178 17 = .ok (.goto (-12), 3) := by decide +kernel
theorem dJ7_fill_53178_20 : decode cJ7_fill_53178 20 = .ok (.return_, 1) := by decide +kernel
theorem dJ9_max_7cf53_0 : decode cJ9_max_7cf53 0 = .ok (.iload_n 0, 1) := by decide +kernel
theorem dJ9_max_7cf53_1 : decode cJ9_max_7cf53 1 = .ok (.iload_n 1, 1) := by decide +kernel
theorem dJ9_max_7cf53_2 : decode cJ9_max_7cf53 2 = .ok (.if_icmp .lt 7, 3) := by decide +kernel
theorem dJ9_max_7cf53_5 : decode cJ9_max_7cf53 5 = .ok (.iload_n 0, 1) := by decide +kernel
theorem dJ9_max_7cf53_6 : decode cJ9_max_7cf53 6 = .ok (.goto 4, 3) := by decide +kernel
theorem dJ9_max_7cf53_9 : decode cJ9_max_7cf53 9 = .ok (.iload_n 1, 1) := by decide +kernel
theorem dJ9_max_7cf53_10 : decode cJ9_max_7cf53 10 = .ok (.ireturn, 1) := by decide +kernel
theorem dJ9_min_7cf53_0 : decode cJ9_min_7cf53 0 = .ok (.iload_n 0, 1) := by decide +kernel
theorem dJ9_min_7cf53_1 : decode cJ9_min_7cf53 1 = .ok (.iload_n 1, 1) := by decide +kernel
theorem dJ9_min_7cf53_2 : decode cJ9_min_7cf53 2 = .ok (.if_icmp .gt 7, 3) := by decide +kernel
theorem dJ9_min_7cf53_5 : decode cJ9_min_7cf53 5 = .ok (.iload_n 0, 1) := by decide +kernel
theorem dJ9_min_7cf53_6 : decode cJ9_min_7cf53 6 = .ok (.goto 4, 3) := by decide +kernel
theorem dJ9_min_7cf53_9 : decode cJ9_min_7cf53 9 = .ok (.iload_n 1, 1) := by decide +kernel
theorem dJ9_min_7cf53_10 : decode cJ9_min_7cf53 10 = .ok (.ireturn, 1) := by decide +kernel

theorem dX0_init_0 : decode cX0_init 0 = .ok (.aload_n 0, 1) := by decide +kernel
theorem dX0_init_1 : decode cX0_init 1 = .ok (.invokespecial 1, 3) := by decide +kernel
theorem dX0_init_4 : decode cX0_init 4 = .ok (.aload_n 0, 1) := by decide +kernel
theorem dX0_init_5 : decode cX0_init 5 = .ok (.bipush 20, 2) := by decide +kernel
theorem dX0_init_7 : decode cX0_init 7 = .ok (.anewarray 9, 3) := by decide +kernel
theorem dX0_init_10 : decode cX0_init 10 = .ok (.putfield 11, 3) := by decide +kernel
theorem dX0_init_13 : decode cX0_init 13 = .ok (.aload_n 0, 1) := by decide +kernel
theorem dX0_init_14 : decode cX0_init 14 = .ok (.bipush 8, 2) := by decide +kernel
theorem dX0_init_16 : decode cX0_init 16 = .ok (.anewarray 9, 3) := by decide +kernel
theorem dX0_init_19 : decode cX0_init 19 = .ok (.putfield 15, 3) := by decide +kernel
theorem dX0_init_22 : decode cX0_init 22 = .ok (.aload_n 0, 1) := by decide +kernel
theorem dX0_init_23 : decode cX0_init 23 = .ok (.bipush 60, 2) := by decide +kernel
theorem dX0_init_25 : decode cX0_init 25 = .ok (.anewarray 18, 3) := by decide +kernel
theorem dX0_init_28 : decode cX0_init 28 = .ok (.putfield 20, 3) := by decide +kernel
theorem dX0_init_31 : decode cX0_init 31 = .ok (.aload_n 0, 1) := by decide +kernel
theorem dX0_init_32 : decode cX0_init 32 = .ok (.iconst 4, 1) := by decide +kernel
theorem dX0_init_33 : decode cX0_init 33 = .ok (.newarray .boolean, 2) := by decide +kernel
theorem dX0_init_35 : decode cX0_init 35 = .ok (.putfield 24, 3) := by decide +kernel
theorem dX0_init_38 : decode cX0_init 38 = .ok (.aload_n 0, 1) := by decide +kernel
theorem dX0_init_39 : decode cX0_init 39 = .ok (.iconst 4, 1) := by decide +kernel
theorem dX0_init_40 : decode cX0_init 40 = .ok (.newarray .int, 2) := by decide +kernel
theorem dX0_init_42 : decode cX0_init 42 = .ok (.putfield 28, 3) := by decide +kernel
theorem dX0_init_45 : decode cX0_init 45 = .ok (.aload_n 0, 1) := by decide +kernel
theorem dX0_init_46 : decode cX0_init 46 = .ok (.new 18, 3) := by decide +kernel
theorem dX0_init_49 : decode cX0_init 49 = .ok (.dup, 1) := by decide +kernel
theorem dX0_init_50 : decode cX0_init 50 = .ok (.invokespecial 32, 3) := by decide +kernel
theorem dX0_init_53 : decode cX0_init 53 = .ok (.putfield 33, 3) := by decide +kernel
theorem dX0_init_56 : decode cX0_init 56 = .ok (.return_, 1) := by decide +kernel
theorem dX0_guarantee_0 : decode cX0_guarantee 0 = .ok (.iload_n 1, 1) := by decide +kernel
theorem dX0_guarantee_1 : decode cX0_guarantee 1 = .ok (.invokestatic 37, 3) := by decide +kernel
theorem dX0_guarantee_4 : decode cX0_guarantee 4 = .ok (.ifCond .eq 33, 3) := by decide +kernel
theorem dX0_guarantee_7 : decode cX0_guarantee 7 = .ok (.lload_n 2, 1) := by decide +kernel
theorem dX0_guarantee_8 : decode cX0_guarantee 8 = .ok (.invokestatic 41, 3) := by decide +kernel
theorem dX0_guarantee_11 : decode cX0_guarantee 11 = .ok (.ifCond .eq 26, 3) := by decide +kernel
theorem dX0_guarantee_14 : decode cX0_guarantee 14 = .ok (.iload 4, 2) := by decide +kernel
theorem dX0_guarantee_16 : decode cX0_guarantee 16 = .ok (.iload 5, 2) := by decide +kernel
theorem dX0_guarantee_18 : decode cX0_guarantee 18 = .ok (.invokestatic 45, 3) := by decide +kernel
theorem dX0_guarantee_21 : decode cX0_guarantee 21 = .ok (.ifCond .eq 16, 3) := by decide +kernel
theorem dX0_guarantee_24 : decode cX0_guarantee 24 = .ok (.iload 7, 2) := by decide +kernel
theorem dX0_guarantee_26 : decode cX0_guarantee 26 = .ok (.ifCond .lt 11, 3) := by decide +kernel
theorem dX0_guarantee_29 : decode cX0_guarantee 29 = .ok (.iload 7, 2) := by decide +kernel
theorem dX0_guarantee_31 : decode cX0_guarantee 31 = .ok (.sipush 1000, 3) := by decide +kernel
theorem dX0_guarantee_34 : decode cX0_guarantee 34 = .ok (.if_icmp .le 13, 3) := by decide +kernel
theorem dX0_guarantee_37 : decode cX0_guarantee 37 = .ok (.new 49, 3) := by decide +kernel
theorem dX0_guarantee_40 : decode cX0_guarantee 40 = .ok (.dup, 1) := by decide +kernel
theorem dX0_guarantee_41 : decode cX0_guarantee 41 = .ok (.ldc 51, 2) := by decide +kernel
theorem dX0_guarantee_43 : decode cX0_guarantee 43 = .ok (.invokespecial 53, 3) := by decide +kernel
theorem dX0_guarantee_46 : decode cX0_guarantee 46 = .ok (.athrow, 1) := by decide +kernel
theorem dX0_guarantee_47 : decode cX0_guarantee 47 = .ok (.aload_n 0, 1) := by decide +kernel
theorem dX0_guarantee_48 : decode cX0_guarantee 48 = .ok (.getfield 56, 3) := by decide +kernel
theorem dX0_guarantee_51 : decode cX0_guarantee 51 = .ok (.bipush 20, 2) := by decide +kernel
theorem dX0_guarantee_53 : decode cX0_guarantee 53 = .ok (.if_icmp .lt 13, 3) := by decide +kernel
theorem dX0_guarantee_56 : decode cX0_guarantee 56 = .ok (.new 60, 3) := by decide +kernel
theorem dX0_guarantee_59 : decode cX0_guarantee 59 = .ok (.dup, 1) := by decide +kernel
theorem dX0_guarantee_60 : decode cX0_guarantee 60 = .ok (.ldc 62, 2) := by decide +kernel
theorem dX0_guarantee_62 : decode cX0_guarantee 62 = .ok (.invokespecial 64, 3) := by decide +kernel
theorem dX0_guarantee_65 : decode cX0_guarantee 65 = .ok (.athrow, 1) := by decide +kernel
theorem dX0_guarantee_66 : decode cX0_guarantee 66 = .ok (.aload_n 0, 1) := by decide +kernel
theorem dX0_guarantee_67 : decode cX0_guarantee 67 = .ok (.getfield 56, 3) := by decide +kernel
theorem dX0_guarantee_70 : decode cX0_guarantee 70 = .ok (.iconst 1, 1) := by decide +kernel
theorem dX0_guarantee_71 : decode cX0_guarantee 71 = .ok (.iadd, 1) := by decide +kernel
theorem dX0_guarantee_72 : decode cX0_guarantee 72 = .ok (.istore 8, 2) := by decide +kernel
theorem dX0_guarantee_74 : decode cX0_guarantee 74 = .ok (.new 9, 3) := by decide +kernel
theorem dX0_guarantee_77 : decode cX0_guarantee 77 = .ok (.dup, 1) := by decide +kernel
theorem dX0_guarantee_78 : decode cX0_guarantee 78 = .ok (.iload 8, 2) := by decide +kernel
theorem dX0_guarantee_80 : decode cX0_guarantee 80 = .ok (.iload_n 1, 1) := by decide +kernel
theorem dX0_guarantee_81 : decode cX0_guarantee 81 = .ok (.lload_n 2, 1) := by decide +kernel
theorem dX0_guarantee_82 : decode cX0_guarantee 82 = .ok (.new 65, 3) := by decide +kernel
theorem dX0_guarantee_85 : decode cX0_guarantee 85 = .ok (.dup, 1) := by decide +kernel
theorem dX0_guarantee_86 : decode cX0_guarantee 86 = .ok (.iload 4, 2) := by decide +kernel
theorem dX0_guarantee_88 : decode cX0_guarantee 88 = .ok (.iload 5, 2) := by decide +kernel
theorem dX0_guarantee_90 : decode cX0_guarantee 90 = .ok (.invokespecial 67, 3) := by decide +kernel
theorem dX0_guarantee_93 : decode cX0_guarantee 93 = .ok (.iload 6, 2) := by decide +kernel
theorem dX0_guarantee_95 : decode cX0_guarantee 95 = .ok (.new 70, 3) := by decide +kernel
theorem dX0_guarantee_98 : decode cX0_guarantee 98 = .ok (.dup, 1) := by decide +kernel
theorem dX0_guarantee_99 : decode cX0_guarantee 99 = .ok (.iload 7, 2) := by decide +kernel
theorem dX0_guarantee_101 : decode cX0_guarantee 101 = .ok (.aload_n 0, 1) := by decide +kernel
theorem dX0_guarantee_102 : decode cX0_guarantee 102 = .ok (.getfield 72, 3) := by decide +kernel
theorem dX0_guarantee_105 : decode cX0_guarantee 105 = .ok (.invokespecial 75, 3) := by decide +kernel
theorem dX0_guarantee_108 : decode cX0_guarantee 108 = .ok (.invokespecial 76, 3) := by decide +kernel
theorem dX0_guarantee_111 : decode cX0_guarantee 111 = .ok (.astore 9, 2) := by decide +kernel
theorem dX0_guarantee_113 : decode cX0_guarantee 113 = .ok (.aload_n 0, 1) := by decide +kernel
theorem dX0_guarantee_114 : decode cX0_guarantee 114 = .ok (.getfield 11, 3) := by decide +kernel
theorem dX0_guarantee_117 : decode cX0_guarantee 117 = .ok (.aload_n 0, 1) := by decide +kernel
theorem dX0_guarantee_118 : decode cX0_guarantee 118 = .ok (.getfield 56, 3) := by decide +kernel
theorem dX0_guarantee_121 : decode cX0_guarantee 121 = .ok (.aload 9, 2) := by decide +kernel
theorem dX0_guarantee_123 : decode cX0_guarantee 123 = .ok (.aastore, 1) := by decide +kernel
theorem dX0_guarantee_124 : decode cX0_guarantee 124 = .ok (.aload_n 0, 1) := by decide +kernel
theorem dX0_guarantee_125 : decode cX0_guarantee 125 = .ok (.iload 8, 2) := by decide +kernel
theorem dX0_guarantee_127 : decode cX0_guarantee 127 = .ok (.putfield 56, 3) := by decide +kernel
theorem dX0_guarantee_130 : decode cX0_guarantee 130 = .ok (.aload_n 0, 1) := by decide +kernel
theorem dX0_guarantee_131 : decode cX0_guarantee 131 = .ok (.aload 9, 2) := by decide +kernel
theorem dX0_guarantee_133 : decode cX0_guarantee 133 = .ok (.invokevirtual 79, 3) := by decide +kernel
theorem dX0_guarantee_136 : decode cX0_guarantee 136 = .ok (.iload 8, 2) := by decide +kernel
theorem dX0_guarantee_138 : decode cX0_guarantee 138 = .ok (.ireturn, 1) := by decide +kernel
theorem dX0_first_0 : decode cX0_first 0 = .ok (.aload_n 0, 1) := by decide +kernel
theorem dX0_first_1 : decode cX0_first 1 = .ok (.iload_n 1, 1) := by decide +kernel
theorem dX0_first_2 : decode cX0_first 2 = .ok (.invokevirtual 83, 3) := by decide +kernel
theorem dX0_first_5 : decode cX0_first 5 = .ok (.astore_n 2, 1) := by decide +kernel
theorem dX0_first_6 : decode cX0_first 6 = .ok (.aload_n 2, 1) := by decide +kernel
theorem dX0_first_7 : decode cX0_first 7 = .ok (.ifnull 16, 3) := by decide +kernel
theorem dX0_first_10 : decode cX0_first 10 = .ok (.aload_n 0, 1) := by decide +kernel
theorem dX0_first_11 : decode cX0_first 11 = .ok (.getfield 15, 3) := by decide +kernel
theorem dX0_first_14 : decode cX0_first 14 = .ok (.aload_n 2, 1) := by decide +kernel
theorem dX0_first_15 : decode cX0_first 15 = .ok (.getfield 87, 3) := by decide +kernel
theorem dX0_first_18 : decode cX0_first 18 = .ok (.aaload, 1) := by decide +kernel
theorem dX0_first_19 : decode cX0_first 19 = .ok (.aload_n 2, 1) := by decide +kernel
theorem dX0_first_20 : decode cX0_first 20 = .ok (.if_acmp .ne 5, 3) := by decide +kernel
theorem dX0_first_23 : decode cX0_first 23 = .ok (.iconst 0, 1) := by decide +kernel
theorem dX0_first_24 : decode cX0_first 24 = .ok (.ireturn, 1) := by decide +kernel
theorem dX0_first_25 : decode cX0_first 25 = .ok (.aload_n 0, 1) := by decide +kernel
theorem dX0_first_26 : decode cX0_first 26 = .ok (.aload_n 2, 1) := by decide +kernel
theorem dX0_first_27 : decode cX0_first 27 = .ok (.invokevirtual 90, 3) := by decide +kernel
theorem dX0_first_30 : decode cX0_first 30 = .ok (.iconst 1, 1) := by decide +kernel
theorem dX0_first_31 : decode cX0_first 31 = .ok (.ireturn, 1) := by decide +kernel
theorem dX0_reserve_0 : decode cX0_reserve 0 = .ok (.iload_n 1, 1) := by decide +kernel
theorem dX0_reserve_1 : decode cX0_reserve 1 = .ok (.invokestatic 93, 3) := by decide +kernel
theorem dX0_reserve_4 : decode cX0_reserve 4 = .ok (.ifCond .eq 17, 3) := by decide +kernel
theorem dX0_reserve_7 : decode cX0_reserve 7 = .ok (.iload_n 2, 1) := by decide +kernel
theorem dX0_reserve_8 : decode cX0_reserve 8 = .ok (.invokestatic 37, 3) := by decide +kernel
theorem dX0_reserve_11 : decode cX0_reserve 11 = .ok (.ifCond .eq 10, 3) := by decide +kernel
theorem dX0_reserve_14 : decode cX0_reserve 14 = .ok (.lload_n 3, 1) := by decide +kernel
theorem dX0_reserve_15 : decode cX0_reserve 15 = .ok (.invokestatic 41, 3) := by decide +kernel
theorem dX0_reserve_18 : decode cX0_reserve 18 = .ok (.ifCond .ne 13, 3) := by decide +kernel
theorem dX0_reserve_21 : decode cX0_reserve 21 = .ok (.new 49, 3) := by decide +kernel
theorem dX0_reserve_24 : decode cX0_reserve 24 = .ok (.dup, 1) := by decide +kernel
theorem dX0_reserve_25 : decode cX0_reserve 25 = .ok (.ldc 96, 2) := by decide +kernel
theorem dX0_reserve_27 : decode cX0_reserve 27 = .ok (.invokespecial 53, 3) := by decide +kernel
theorem dX0_reserve_30 : decode cX0_reserve 30 = .ok (.athrow, 1) := by decide +kernel
theorem dX0_reserve_31 : decode cX0_reserve 31 = .ok (.aload_n 0, 1) := by decide +kernel
theorem dX0_reserve_32 : decode cX0_reserve 32 = .ok (.getfield 98, 3) := by decide +kernel
theorem dX0_reserve_35 : decode cX0_reserve 35 = .ok (.bipush 60, 2) := by decide +kernel
theorem dX0_reserve_37 : decode cX0_reserve 37 = .ok (.if_icmp .lt 13, 3) := by decide +kernel
theorem dX0_reserve_40 : decode cX0_reserve 40 = .ok (.new 60, 3) := by decide +kernel
theorem dX0_reserve_43 : decode cX0_reserve 43 = .ok (.dup, 1) := by decide +kernel
theorem dX0_reserve_44 : decode cX0_reserve 44 = .ok (.ldc 101, 2) := by decide +kernel
theorem dX0_reserve_46 : decode cX0_reserve 46 = .ok (.invokespecial 64, 3) := by decide +kernel
theorem dX0_reserve_49 : decode cX0_reserve 49 = .ok (.athrow, 1) := by decide +kernel
theorem dX0_reserve_50 : decode cX0_reserve 50 = .ok (.aload_n 0, 1) := by decide +kernel
theorem dX0_reserve_51 : decode cX0_reserve 51 = .ok (.iload_n 2, 1) := by decide +kernel
theorem dX0_reserve_52 : decode cX0_reserve 52 = .ok (.lload_n 3, 1) := by decide +kernel
theorem dX0_reserve_53 : decode cX0_reserve 53 = .ok (.invokevirtual 103, 3) := by decide +kernel
theorem dX0_reserve_56 : decode cX0_reserve 56 = .ok (.ifCond .ne 14, 3) := by decide +kernel
theorem dX0_reserve_59 : decode cX0_reserve 59 = .ok (.ldc2_w 107, 3) := by decide +kernel
theorem dX0_reserve_62 : decode cX0_reserve 62 = .ok (.aload_n 0, 1) := by decide +kernel
theorem dX0_reserve_63 : decode cX0_reserve 63 = .ok (.iload_n 2, 1) := by decide +kernel
theorem dX0_reserve_64 : decode cX0_reserve 64 = .ok (.invokevirtual 109, 3) := by decide +kernel
theorem dX0_reserve_67 : decode cX0_reserve 67 = .ok (.lsub, 1) := by decide +kernel
theorem dX0_reserve_68 : decode cX0_reserve 68 = .ok (.l2i, 1) := by decide +kernel
theorem dX0_reserve_69 : decode cX0_reserve 69 = .ok (.ireturn, 1) := by decide +kernel
theorem dX0_reserve_70 : decode cX0_reserve 70 = .ok (.aload_n 0, 1) := by decide +kernel
theorem dX0_reserve_71 : decode cX0_reserve 71 = .ok (.getfield 24, 3) := by decide +kernel
theorem dX0_reserve_74 : decode cX0_reserve 74 = .ok (.iload_n 1, 1) := by decide +kernel
theorem dX0_reserve_75 : decode cX0_reserve 75 = .ok (.baload, 1) := by decide +kernel
theorem dX0_reserve_76 : decode cX0_reserve 76 = .ok (.ifCond .eq 22, 3) := by decide +kernel
theorem dX0_reserve_79 : decode cX0_reserve 79 = .ok (.aload_n 0, 1) := by decide +kernel
theorem dX0_reserve_80 : decode cX0_reserve 80 = .ok (.getfield 24, 3) := by decide +kernel
theorem dX0_reserve_83 : decode cX0_reserve 83 = .ok (.iload_n 1, 1) := by decide +kernel
theorem dX0_reserve_84 : decode cX0_reserve 84 = .ok (.iconst 0, 1) := by decide +kernel
theorem dX0_reserve_85 : decode cX0_reserve 85 = .ok (.bastore, 1) := by decide +kernel
theorem dX0_reserve_86 : decode cX0_reserve 86 = .ok (.aload_n 0, 1) := by decide +kernel
theorem dX0_reserve_87 : decode cX0_reserve 87 = .ok (.getfield 28, 3) := by decide +kernel
theorem dX0_reserve_90 : decode cX0_reserve 90 = .ok (.iload_n 1, 1) := by decide +kernel
theorem dX0_reserve_91 : decode cX0_reserve 91 = .ok (.dup2, 1) := by decide +kernel
theorem dX0_reserve_92 : decode cX0_reserve 92 = .ok (.iaload, 1) := by decide +kernel
theorem dX0_reserve_93 : decode cX0_reserve 93 = .ok (.iconst 1, 1) := by decide +kernel
theorem dX0_reserve_94 : decode cX0_reserve 94 = .ok (.iadd, 1) := by decide +kernel
theorem dX0_reserve_95 : decode cX0_reserve 95 = .ok (.iastore, 1) := by decide +kernel
theorem dX0_reserve_96 : decode cX0_reserve 96 = .ok (.iconst (-1), 1) := by decide +kernel
theorem dX0_reserve_97 : decode cX0_reserve 97 = .ok (.ireturn, 1) := by decide +kernel
theorem dX0_reserve_98 : decode cX0_reserve 98 = .ok (.aload_n 0, 1) := by decide +kernel
theorem dX0_reserve_99 : decode cX0_reserve 99 = .ok (.invokevirtual 113, 3) := by decide +kernel
theorem dX0_reserve_102 : decode cX0_reserve 102 = .ok (.ireturn, 1) := by decide +kernel
theorem dX0_end_0 : decode cX0_end 0 = .ok (.aload_n 0, 1) := by decide +kernel
theorem dX0_end_1 : decode cX0_end 1 = .ok (.iload_n 1, 1) := by decide +kernel
theorem dX0_end_2 : decode cX0_end 2 = .ok (.invokevirtual 117, 3) := by decide +kernel
theorem dX0_end_5 : decode cX0_end 5 = .ok (.astore_n 3, 1) := by decide +kernel
theorem dX0_end_6 : decode cX0_end 6 = .ok (.aload_n 3, 1) := by decide +kernel
theorem dX0_end_7 : decode cX0_end 7 = .ok (.ifnull 13, 3) := by decide +kernel
theorem dX0_end_10 : decode cX0_end 10 = .ok (.iload_n 2, 1) := by decide +kernel
theorem dX0_end_11 : decode cX0_end 11 = .ok (.iconst 1, 1) := by decide +kernel
theorem dX0_end_12 : decode cX0_end 12 = .ok (.if_icmp .eq 18, 3) := by decide +kernel
theorem dX0_end_15 : decode cX0_end 15 = .ok (.iload_n 2, 1) := by decide +kernel
theorem dX0_end_16 : decode cX0_end 16 = .ok (.iconst 2, 1) := by decide +kernel
theorem dX0_end_17 : decode cX0_end 17 = .ok (.if_icmp .eq 13, 3) := by decide +kernel
theorem dX0_end_20 : decode cX0_end 20 = .ok (.new 49, 3) := by decide +kernel
theorem dX0_end_23 : decode cX0_end 23 = .ok (.dup, 1) := by decide +kernel
theorem dX0_end_24 : decode cX0_end 24 = .ok (.ldc 121, 2) := by decide +kernel
theorem dX0_end_26 : decode cX0_end 26 = .ok (.invokespecial 53, 3) := by decide +kernel
theorem dX0_end_29 : decode cX0_end 29 = .ok (.athrow, 1) := by decide +kernel
theorem dX0_end_30 : decode cX0_end 30 = .ok (.aload_n 3, 1) := by decide +kernel
theorem dX0_end_31 : decode cX0_end 31 = .ok (.getfield 123, 3) := by decide +kernel
theorem dX0_end_34 : decode cX0_end 34 = .ok (.ifCond .eq 5, 3) := by decide +kernel
theorem dX0_end_37 : decode cX0_end 37 = .ok (.iconst 0, 1) := by decide +kernel
theorem dX0_end_38 : decode cX0_end 38 = .ok (.ireturn, 1) := by decide +kernel
theorem dX0_end_39 : decode cX0_end 39 = .ok (.aload_n 3, 1) := by decide +kernel
theorem dX0_end_40 : decode cX0_end 40 = .ok (.invokevirtual 126, 3) := by decide +kernel
theorem dX0_end_43 : decode cX0_end 43 = .ok (.aload_n 0, 1) := by decide +kernel
theorem dX0_end_44 : decode cX0_end 44 = .ok (.aload_n 3, 1) := by decide +kernel
theorem dX0_end_45 : decode cX0_end 45 = .ok (.iload_n 2, 1) := by decide +kernel
theorem dX0_end_46 : decode cX0_end 46 = .ok (.invokevirtual 129, 3) := by decide +kernel
theorem dX0_end_49 : decode cX0_end 49 = .ok (.iconst 1, 1) := by decide +kernel
theorem dX0_end_50 : decode cX0_end 50 = .ok (.ireturn, 1) := by decide +kernel
theorem dX0_reduce_0 : decode cX0_reduce 0 = .ok (.aload_n 0, 1) := by decide +kernel
theorem dX0_reduce_1 : decode cX0_reduce 1 = .ok (.iload_n 1, 1) := by decide +kernel
theorem dX0_reduce_2 : decode cX0_reduce 2 = .ok (.invokevirtual 117, 3) := by decide +kernel
theorem dX0_reduce_5 : decode cX0_reduce 5 = .ok (.astore 4, 2) := by decide +kernel
theorem dX0_reduce_7 : decode cX0_reduce 7 = .ok (.aload 4, 2) := by decide +kernel
theorem dX0_reduce_9 : decode cX0_reduce 9 = .ok (.ifnull 9, 3) := by decide +kernel
theorem dX0_reduce_12 : decode cX0_reduce 12 = .ok (.lload_n 2, 1) := by decide +kernel
theorem dX0_reduce_13 : decode cX0_reduce 13 = .ok (.lconst 1, 1) := by decide +kernel
theorem dX0_reduce_14 : decode cX0_reduce 14 = .ok (.lcmp, 1) := by decide +kernel
theorem dX0_reduce_15 : decode cX0_reduce 15 = .ok (.ifCond .ge 13, 3) := by decide +kernel
theorem dX0_reduce_18 : decode cX0_reduce 18 = .ok (.new 49, 3) := by decide +kernel
theorem dX0_reduce_21 : decode cX0_reduce 21 = .ok (.dup, 1) := by decide +kernel
theorem dX0_reduce_22 : decode cX0_reduce 22 = .ok (.ldc 133, 2) := by decide +kernel
theorem dX0_reduce_24 : decode cX0_reduce 24 = .ok (.invokespecial 53, 3) := by decide +kernel
theorem dX0_reduce_27 : decode cX0_reduce 27 = .ok (.athrow, 1) := by decide +kernel
theorem dX0_reduce_28 : decode cX0_reduce 28 = .ok (.aload 4, 2) := by decide +kernel
theorem dX0_reduce_30 : decode cX0_reduce 30 = .ok (.getfield 123, 3) := by decide +kernel
theorem dX0_reduce_33 : decode cX0_reduce 33 = .ok (.ifCond .ne 13, 3) := by decide +kernel
theorem dX0_reduce_36 : decode cX0_reduce 36 = .ok (.aload 4, 2) := by decide +kernel
theorem dX0_reduce_38 : decode cX0_reduce 38 = .ok (.invokevirtual 135, 3) := by decide +kernel
theorem dX0_reduce_41 : decode cX0_reduce 41 = .ok (.lload_n 2, 1) := by decide +kernel
theorem dX0_reduce_42 : decode cX0_reduce 42 = .ok (.lcmp, 1) := by decide +kernel
theorem dX0_reduce_43 : decode cX0_reduce 43 = .ok (.ifCond .gt 7, 3) := by decide +kernel
theorem dX0_reduce_46 : decode cX0_reduce 46 = .ok (.ldc2_w 139, 3) := by decide +kernel
theorem dX0_reduce_49 : decode cX0_reduce 49 = .ok (.lreturn, 1) := by decide +kernel
theorem dX0_reduce_50 : decode cX0_reduce 50 = .ok (.aload 4, 2) := by decide +kernel
theorem dX0_reduce_52 : decode cX0_reduce 52 = .ok (.lload_n 2, 1) := by decide +kernel
theorem dX0_reduce_53 : decode cX0_reduce 53 = .ok (.invokevirtual 141, 3) := by decide +kernel
theorem dX0_reduce_56 : decode cX0_reduce 56 = .ok (.aload 4, 2) := by decide +kernel
theorem dX0_reduce_58 : decode cX0_reduce 58 = .ok (.invokevirtual 135, 3) := by decide +kernel
theorem dX0_reduce_61 : decode cX0_reduce 61 = .ok (.lreturn, 1) := by decide +kernel
theorem dX0_claim_0 : decode cX0_claim 0 = .ok (.aload_n 0, 1) := by decide +kernel
theorem dX0_claim_1 : decode cX0_claim 1 = .ok (.iload_n 1, 1) := by decide +kernel
theorem dX0_claim_2 : decode cX0_claim 2 = .ok (.invokevirtual 117, 3) := by decide +kernel
theorem dX0_claim_5 : decode cX0_claim 5 = .ok (.astore 4, 2) := by decide +kernel
theorem dX0_claim_7 : decode cX0_claim 7 = .ok (.aload 4, 2) := by decide +kernel
theorem dX0_claim_9 : decode cX0_claim 9 = .ok (.ifnull 9, 3) := by decide +kernel
theorem dX0_claim_12 : decode cX0_claim 12 = .ok (.lload_n 2, 1) := by decide +kernel
theorem dX0_claim_13 : decode cX0_claim 13 = .ok (.lconst 1, 1) := by decide +kernel
theorem dX0_claim_14 : decode cX0_claim 14 = .ok (.lcmp, 1) := by decide +kernel
theorem dX0_claim_15 : decode cX0_claim 15 = .ok (.ifCond .ge 13, 3) := by decide +kernel
theorem dX0_claim_18 : decode cX0_claim 18 = .ok (.new 49, 3) := by decide +kernel
theorem dX0_claim_21 : decode cX0_claim 21 = .ok (.dup, 1) := by decide +kernel
theorem dX0_claim_22 : decode cX0_claim 22 = .ok (.ldc 133, 2) := by decide +kernel
theorem dX0_claim_24 : decode cX0_claim 24 = .ok (.invokespecial 53, 3) := by decide +kernel
theorem dX0_claim_27 : decode cX0_claim 27 = .ok (.athrow, 1) := by decide +kernel
theorem dX0_claim_28 : decode cX0_claim 28 = .ok (.aload 4, 2) := by decide +kernel
theorem dX0_claim_30 : decode cX0_claim 30 = .ok (.getfield 123, 3) := by decide +kernel
theorem dX0_claim_33 : decode cX0_claim 33 = .ok (.ifCond .ne 13, 3) := by decide +kernel
theorem dX0_claim_36 : decode cX0_claim 36 = .ok (.aload 4, 2) := by decide +kernel
theorem dX0_claim_38 : decode cX0_claim 38 = .ok (.invokevirtual 135, 3) := by decide +kernel
theorem dX0_claim_41 : decode cX0_claim 41 = .ok (.lload_n 2, 1) := by decide +kernel
theorem dX0_claim_42 : decode cX0_claim 42 = .ok (.lcmp, 1) := by decide +kernel
theorem dX0_claim_43 : decode cX0_claim 43 = .ok (.ifCond .ge 7, 3) := by decide +kernel
theorem dX0_claim_46 : decode cX0_claim 46 = .ok (.ldc2_w 139, 3) := by decide +kernel
theorem dX0_claim_49 : decode cX0_claim 49 = .ok (.lreturn, 1) := by decide +kernel
theorem dX0_claim_50 : decode cX0_claim 50 = .ok (.aload 4, 2) := by decide +kernel
theorem dX0_claim_52 : decode cX0_claim 52 = .ok (.lload_n 2, 1) := by decide +kernel
theorem dX0_claim_53 : decode cX0_claim 53 = .ok (.aload_n 0, 1) := by decide +kernel
theorem dX0_claim_54 : decode cX0_claim 54 = .ok (.getfield 72, 3) := by decide +kernel
theorem dX0_claim_57 : decode cX0_claim 57 = .ok (.invokevirtual 145, 3) := by decide +kernel
theorem dX0_claim_60 : decode cX0_claim 60 = .ok (.lstore 5, 2) := by decide +kernel
theorem dX0_claim_62 : decode cX0_claim 62 = .ok (.aload 4, 2) := by decide +kernel
theorem dX0_claim_64 : decode cX0_claim 64 = .ok (.invokevirtual 126, 3) := by decide +kernel
theorem dX0_claim_67 : decode cX0_claim 67 = .ok (.aload_n 0, 1) := by decide +kernel
theorem dX0_claim_68 : decode cX0_claim 68 = .ok (.aload 4, 2) := by decide +kernel
theorem dX0_claim_70 : decode cX0_claim 70 = .ok (.iconst 3, 1) := by decide +kernel
theorem dX0_claim_71 : decode cX0_claim 71 = .ok (.invokevirtual 129, 3) := by decide +kernel
theorem dX0_claim_74 : decode cX0_claim 74 = .ok (.lload 5, 2) := by decide +kernel
theorem dX0_claim_76 : decode cX0_claim 76 = .ok (.lreturn, 1) := by decide +kernel
theorem dX0_close_0 : decode cX0_close 0 = .ok (.aload_n 0, 1) := by decide +kernel
theorem dX0_close_1 : decode cX0_close 1 = .ok (.iload_n 1, 1) := by decide +kernel
theorem dX0_close_2 : decode cX0_close 2 = .ok (.invokevirtual 83, 3) := by decide +kernel
theorem dX0_close_5 : decode cX0_close 5 = .ok (.astore_n 2, 1) := by decide +kernel
theorem dX0_close_6 : decode cX0_close 6 = .ok (.aload_n 2, 1) := by decide +kernel
theorem dX0_close_7 : decode cX0_close 7 = .ok (.ifnull 10, 3) := by decide +kernel
theorem dX0_close_10 : decode cX0_close 10 = .ok (.aload_n 2, 1) := by decide +kernel
theorem dX0_close_11 : decode cX0_close 11 = .ok (.getfield 149, 3) := by decide +kernel
theorem dX0_close_14 : decode cX0_close 14 = .ok (.ifCond .eq 5, 3) := by decide +kernel
theorem dX0_close_17 : decode cX0_close 17 = .ok (.iconst 0, 1) := by decide +kernel
theorem dX0_close_18 : decode cX0_close 18 = .ok (.ireturn, 1) := by decide +kernel
theorem dX0_close_19 : decode cX0_close 19 = .ok (.aload_n 2, 1) := by decide +kernel
theorem dX0_close_20 : decode cX0_close 20 = .ok (.aload_n 0, 1) := by decide +kernel
theorem dX0_close_21 : decode cX0_close 21 = .ok (.getfield 72, 3) := by decide +kernel
theorem dX0_close_24 : decode cX0_close 24 = .ok (.invokevirtual 153, 3) := by decide +kernel
theorem dX0_close_27 : decode cX0_close 27 = .ok (.iconst 1, 1) := by decide +kernel
theorem dX0_close_28 : decode cX0_close 28 = .ok (.ireturn, 1) := by decide +kernel
theorem dX0_fails_0 : decode cX0_fails 0 = .ok (.iload_n 1, 1) := by decide +kernel
theorem dX0_fails_1 : decode cX0_fails 1 = .ok (.invokestatic 93, 3) := by decide +kernel
theorem dX0_fails_4 : decode cX0_fails 4 = .ok (.ifCond .eq 13, 3) := by decide +kernel
theorem dX0_fails_7 : decode cX0_fails 7 = .ok (.aload_n 0, 1) := by decide +kernel
theorem dX0_fails_8 : decode cX0_fails 8 = .ok (.getfield 24, 3) := by decide +kernel
theorem dX0_fails_11 : decode cX0_fails 11 = .ok (.iload_n 1, 1) := by decide +kernel
theorem dX0_fails_12 : decode cX0_fails 12 = .ok (.baload, 1) := by decide +kernel
theorem dX0_fails_13 : decode cX0_fails 13 = .ok (.iload_n 2, 1) := by decide +kernel
theorem dX0_fails_14 : decode cX0_fails 14 = .ok (.if_icmp .ne 5, 3) := by decide +kernel
theorem dX0_fails_17 : decode cX0_fails 17 = .ok (.iconst 0, 1) := by decide +kernel
theorem dX0_fails_18 : decode cX0_fails 18 = .ok (.ireturn, 1) := by decide +kernel
theorem dX0_fails_19 : decode cX0_fails 19 = .ok (.aload_n 0, 1) := by decide +kernel
theorem dX0_fails_20 : decode cX0_fails 20 = .ok (.getfield 24, 3) := by decide +kernel
theorem dX0_fails_23 : decode cX0_fails 23 = .ok (.iload_n 1, 1) := by decide +kernel
theorem dX0_fails_24 : decode cX0_fails 24 = .ok (.iload_n 2, 1) := by decide +kernel
theorem dX0_fails_25 : decode cX0_fails 25 = .ok (.bastore, 1) := by decide +kernel
theorem dX0_fails_26 : decode cX0_fails 26 = .ok (.iconst 1, 1) := by decide +kernel
theorem dX0_fails_27 : decode cX0_fails 27 = .ok (.ireturn, 1) := by decide +kernel
theorem dX0_tick_0 : decode cX0_tick 0 = .ok (.iload_n 1, 1) := by decide +kernel
theorem dX0_tick_1 : decode cX0_tick 1 = .ok (.aload_n 0, 1) := by decide +kernel
theorem dX0_tick_2 : decode cX0_tick 2 = .ok (.getfield 72, 3) := by decide +kernel
theorem dX0_tick_5 : decode cX0_tick 5 = .ok (.if_icmp .lt 9, 3) := by decide +kernel
theorem dX0_tick_8 : decode cX0_tick 8 = .ok (.iload_n 1, 1) := by decide +kernel
theorem dX0_tick_9 : decode cX0_tick 9 = .ok (.ldc 157, 2) := by decide +kernel
theorem dX0_tick_11 : decode cX0_tick 11 = .ok (.if_icmp .le 5, 3) := by decide +kernel
theorem dX0_tick_14 : decode cX0_tick 14 = .ok (.iconst 0, 1) := by decide +kernel
theorem dX0_tick_15 : decode cX0_tick 15 = .ok (.ireturn, 1) := by decide +kernel
theorem dX0_tick_16 : decode cX0_tick 16 = .ok (.aload_n 0, 1) := by decide +kernel
theorem dX0_tick_17 : decode cX0_tick 17 = .ok (.iload_n 1, 1) := by decide +kernel
theorem dX0_tick_18 : decode cX0_tick 18 = .ok (.putfield 72, 3) := by decide +kernel
theorem dX0_tick_21 : decode cX0_tick 21 = .ok (.iconst 1, 1) := by decide +kernel
theorem dX0_tick_22 : decode cX0_tick 22 = .ok (.ireturn, 1) := by decide +kernel
theorem dX0_interest_0 : decode cX0_interest 0 = .ok (.aload_n 0, 1) := by decide +kernel
theorem dX0_interest_1 : decode cX0_interest 1 = .ok (.iload_n 1, 1) := by decide +kernel
theorem dX0_interest_2 : decode cX0_interest 2 = .ok (.invokevirtual 83, 3) := by decide +kernel
theorem dX0_interest_5 : decode cX0_interest 5 = .ok (.astore_n 2, 1) := by decide +kernel
theorem dX0_interest_6 : decode cX0_interest 6 = .ok (.aload_n 2, 1) := by decide +kernel
theorem dX0_interest_7 : decode cX0_interest 7 = .ok (.ifnonnull 13, 3) := by decide +kernel
theorem dX0_interest_10 : decode cX0_interest 10 = .ok (.new 49, 3) := by decide +kernel
theorem dX0_interest_13 : decode cX0_interest 13 = .ok (.dup, 1) := by decide +kernel
theorem dX0_interest_14 : decode cX0_interest 14 = .ok (.ldc 158, 2) := by decide +kernel
theorem dX0_interest_16 : decode cX0_interest 16 = .ok (.invokespecial 53, 3) := by decide +kernel
theorem dX0_interest_19 : decode cX0_interest 19 = .ok (.athrow, 1) := by decide +kernel
theorem dX0_interest_20 : decode cX0_interest 20 = .ok (.aload_n 2, 1) := by decide +kernel
theorem dX0_interest_21 : decode cX0_interest 21 = .ok (.getfield 160, 3) := by decide +kernel
theorem dX0_interest_24 : decode cX0_interest 24 = .ok (.aload_n 0, 1) := by decide +kernel
theorem dX0_interest_25 : decode cX0_interest 25 = .ok (.getfield 72, 3) := by decide +kernel
theorem dX0_interest_28 : decode cX0_interest 28 = .ok (.aload_n 2, 1) := by decide +kernel
theorem dX0_interest_29 : decode cX0_interest 29 = .ok (.getfield 164, 3) := by decide +kernel
theorem dX0_interest_32 : decode cX0_interest 32 = .ok (.invokevirtual 168, 3) := by decide +kernel
theorem dX0_interest_35 : decode cX0_interest 35 = .ok (.lreturn, 1) := by decide +kernel
theorem dX0_free_0 : decode cX0_free 0 = .ok (.iload_n 1, 1) := by decide +kernel
theorem dX0_free_1 : decode cX0_free 1 = .ok (.invokestatic 37, 3) := by decide +kernel
theorem dX0_free_4 : decode cX0_free 4 = .ok (.ifCond .eq 11, 3) := by decide +kernel
theorem dX0_free_7 : decode cX0_free 7 = .ok (.aload_n 0, 1) := by decide +kernel
theorem dX0_free_8 : decode cX0_free 8 = .ok (.iload_n 1, 1) := by decide +kernel
theorem dX0_free_9 : decode cX0_free 9 = .ok (.invokevirtual 109, 3) := by decide +kernel
theorem dX0_free_12 : decode cX0_free 12 = .ok (.goto 6, 3) := by decide +kernel
theorem dX0_free_15 : decode cX0_free 15 = .ok (.ldc2_w 139, 3) := by decide +kernel
theorem dX0_free_18 : decode cX0_free 18 = .ok (.lreturn, 1) := by decide +kernel
theorem dX0_list_0 : decode cX0_list 0 = .ok (.iload_n 1, 1) := by decide +kernel
theorem dX0_list_1 : decode cX0_list 1 = .ok (.invokestatic 37, 3) := by decide +kernel
theorem dX0_list_4 : decode cX0_list 4 = .ok (.ifCond .eq 7, 3) := by decide +kernel
theorem dX0_list_7 : decode cX0_list 7 = .ok (.iload_n 2, 1) := by decide +kernel
theorem dX0_list_8 : decode cX0_list 8 = .ok (.ifCond .ge 5, 3) := by decide +kernel
theorem dX0_list_11 : decode cX0_list 11 = .ok (.iconst (-1), 1) := by decide +kernel
theorem dX0_list_12 : decode cX0_list 12 = .ok (.ireturn, 1) := by decide +kernel
theorem dX0_list_13 : decode cX0_list 13 = .ok (.iconst 0, 1) := by decide +kernel
theorem dX0_list_14 : decode cX0_list 14 = .ok (.istore_n 3, 1) := by decide +kernel
theorem dX0_list_15 : decode cX0_list 15 = .ok (.aload_n 0, 1) := by decide +kernel
theorem dX0_list_16 : decode cX0_list 16 = .ok (.getfield 15, 3) := by decide +kernel
theorem dX0_list_19 : decode cX0_list 19 = .ok (.iload_n 1, 1) := by decide +kernel
theorem dX0_list_20 : decode cX0_list 20 = .ok (.aaload, 1) := by decide +kernel
theorem dX0_list_21 : decode cX0_list 21 = .ok (.astore 4, 2) := by decide +kernel
theorem dX0_list_23 : decode cX0_list 23 = .ok (.aload 4, 2) := by decide +kernel
theorem dX0_list_25 : decode cX0_list 25 = .ok (.ifnull 27, 3) := by decide +kernel
theorem dX0_list_28 : decode cX0_list 28 = .ok (.iload_n 3, 1) := by decide +kernel
theorem dX0_list_29 : decode cX0_list 29 = .ok (.iload_n 2, 1) := by decide +kernel
theorem dX0_list_30 : decode cX0_list 30 = .ok (.if_icmp .ne 9, 3) := by decide +kernel
theorem dX0_list_33 : decode cX0_list 33 = .ok (.aload 4, 2) := by decide +kernel
theorem dX0_list_35 : decode cX0_list 35 = .ok (.getfield 172, 3) := by decide +kernel
theorem dX0_list_38 : decode cX0_list 38 = .ok (.ireturn, 1) := by decide +kernel
theorem dX0_list_39 : decode cX0_list 39 = .ok (.iinc 3 1, 3) := by decide +kernel
theorem dX0_list_42 : decode cX0_list 42 = .ok (.aload 4, 2) := by decide +kernel
theorem dX0_list_44 : decode cX0_list 44 = .ok (.getfield 175, 3) := by decide +kernel
theorem dX0_list_47 : decode cX0_list 47 = .ok (.astore 4, 2) := by decide +kernel
theorem dX0_list_49 : decode cX0_list 49 = .ok (.goto (-26), 3) := by decide +kernel
theorem dX0_list_52 : decode cX0_list 52 = .ok (.iconst (-1), 1) := by decide +kernel
theorem dX0_list_53 : decode cX0_list 53 = .ok (.ireturn, 1) := by decide +kernel
theorem dX0_look_0 : decode cX0_look 0 = .ok (.aload_n 0, 1) := by decide +kernel
theorem dX0_look_1 : decode cX0_look 1 = .ok (.iload_n 1, 1) := by decide +kernel
theorem dX0_look_2 : decode cX0_look 2 = .ok (.invokevirtual 83, 3) := by decide +kernel
theorem dX0_look_5 : decode cX0_look 5 = .ok (.astore_n 3, 1) := by decide +kernel
theorem dX0_look_6 : decode cX0_look 6 = .ok (.aload_n 3, 1) := by decide +kernel
theorem dX0_look_7 : decode cX0_look 7 = .ok (.ifnonnull 13, 3) := by decide +kernel
theorem dX0_look_10 : decode cX0_look 10 = .ok (.new 179, 3) := by decide +kernel
theorem dX0_look_13 : decode cX0_look 13 = .ok (.dup, 1) := by decide +kernel
theorem dX0_look_14 : decode cX0_look 14 = .ok (.ldc 158, 2) := by decide +kernel
theorem dX0_look_16 : decode cX0_look 16 = .ok (.invokespecial 181, 3) := by decide +kernel
theorem dX0_look_19 : decode cX0_look 19 = .ok (.athrow, 1) := by decide +kernel
theorem dX0_look_20 : decode cX0_look 20 = .ok (.iload_n 2, 1) := by decide +kernel
theorem dX0_look_21 : decode cX0_look 21 = .ok (.tableswitch 106 0 8 #[51, 57, 62, 67, 72, 77, 83, 96, 101], 51) := by decide +kernel
theorem dX0_look_72 : decode cX0_look 72 = .ok (.aload_n 3, 1) := by decide +kernel
theorem dX0_look_73 : decode cX0_look 73 = .ok (.getfield 87, 3) := by decide +kernel
theorem dX0_look_76 : decode cX0_look 76 = .ok (.i2l, 1) := by decide +kernel
theorem dX0_look_77 : decode cX0_look 77 = .ok (.lreturn, 1) := by decide +kernel
theorem dX0_look_78 : decode cX0_look 78 = .ok (.aload_n 3, 1) := by decide +kernel
theorem dX0_look_79 : decode cX0_look 79 = .ok (.getfield 164, 3) := by decide +kernel
theorem dX0_look_82 : decode cX0_look 82 = .ok (.lreturn, 1) := by decide +kernel
theorem dX0_look_83 : decode cX0_look 83 = .ok (.aload_n 3, 1) := by decide +kernel
theorem dX0_look_84 : decode cX0_look 84 = .ok (.getfield 182, 3) := by decide +kernel
theorem dX0_look_87 : decode cX0_look 87 = .ok (.lreturn, 1) := by decide +kernel
theorem dX0_look_88 : decode cX0_look 88 = .ok (.aload_n 3, 1) := by decide +kernel
theorem dX0_look_89 : decode cX0_look 89 = .ok (.invokevirtual 185, 3) := by decide +kernel
theorem dX0_look_92 : decode cX0_look 92 = .ok (.lreturn, 1) := by decide +kernel
theorem dX0_look_93 : decode cX0_look 93 = .ok (.aload_n 3, 1) := by decide +kernel
theorem dX0_look_94 : decode cX0_look 94 = .ok (.invokevirtual 188, 3) := by decide +kernel
theorem dX0_look_97 : decode cX0_look 97 = .ok (.lreturn, 1) := by decide +kernel
theorem dX0_look_98 : decode cX0_look 98 = .ok (.aload_n 3, 1) := by decide +kernel
theorem dX0_look_99 : decode cX0_look 99 = .ok (.getfield 191, 3) := by decide +kernel
theorem dX0_look_102 : decode cX0_look 102 = .ok (.i2l, 1) := by decide +kernel
theorem dX0_look_103 : decode cX0_look 103 = .ok (.lreturn, 1) := by decide +kernel
theorem dX0_look_104 : decode cX0_look 104 = .ok (.aload_n 3, 1) := by decide +kernel
theorem dX0_look_105 : decode cX0_look 105 = .ok (.getfield 149, 3) := by decide +kernel
theorem dX0_look_108 : decode cX0_look 108 = .ok (.ifCond .eq 7, 3) := by decide +kernel
theorem dX0_look_111 : decode cX0_look 111 = .ok (.lconst 1, 1) := by decide +kernel
theorem dX0_look_112 : decode cX0_look 112 = .ok (.goto 4, 3) := by decide +kernel
theorem dX0_look_115 : decode cX0_look 115 = .ok (.lconst 0, 1) := by decide +kernel
theorem dX0_look_116 : decode cX0_look 116 = .ok (.lreturn, 1) := by decide +kernel
theorem dX0_look_117 : decode cX0_look 117 = .ok (.aload_n 3, 1) := by decide +kernel
theorem dX0_look_118 : decode cX0_look 118 = .ok (.invokevirtual 194, 3) := by decide +kernel
theorem dX0_look_121 : decode cX0_look 121 = .ok (.lreturn, 1) := by decide +kernel
theorem dX0_look_122 : decode cX0_look 122 = .ok (.aload_n 3, 1) := by decide +kernel
theorem dX0_look_123 : decode cX0_look 123 = .ok (.getfield 197, 3) := by decide +kernel
theorem dX0_look_126 : decode cX0_look 126 = .ok (.lreturn, 1) := by decide +kernel
theorem dX0_look_127 : decode cX0_look 127 = .ok (.new 179, 3) := by decide +kernel
theorem dX0_look_130 : decode cX0_look 130 = .ok (.dup, 1) := by decide +kernel
theorem dX0_look_131 : decode cX0_look 131 = .ok (.ldc 200, 2) := by decide +kernel
theorem dX0_look_133 : decode cX0_look 133 = .ok (.invokespecial 181, 3) := by decide +kernel
theorem dX0_look_136 : decode cX0_look 136 = .ok (.athrow, 1) := by decide +kernel
theorem dX0_of_0 : decode cX0_of 0 = .ok (.aload_n 0, 1) := by decide +kernel
theorem dX0_of_1 : decode cX0_of 1 = .ok (.iload_n 1, 1) := by decide +kernel
theorem dX0_of_2 : decode cX0_of 2 = .ok (.invokevirtual 117, 3) := by decide +kernel
theorem dX0_of_5 : decode cX0_of 5 = .ok (.astore_n 3, 1) := by decide +kernel
theorem dX0_of_6 : decode cX0_of 6 = .ok (.aload_n 3, 1) := by decide +kernel
theorem dX0_of_7 : decode cX0_of 7 = .ok (.ifnonnull 13, 3) := by decide +kernel
theorem dX0_of_10 : decode cX0_of 10 = .ok (.new 179, 3) := by decide +kernel
theorem dX0_of_13 : decode cX0_of 13 = .ok (.dup, 1) := by decide +kernel
theorem dX0_of_14 : decode cX0_of 14 = .ok (.ldc 202, 2) := by decide +kernel
theorem dX0_of_16 : decode cX0_of 16 = .ok (.invokespecial 181, 3) := by decide +kernel
theorem dX0_of_19 : decode cX0_of 19 = .ok (.athrow, 1) := by decide +kernel
theorem dX0_of_20 : decode cX0_of 20 = .ok (.aload_n 3, 1) := by decide +kernel
theorem dX0_of_21 : decode cX0_of 21 = .ok (.iload_n 2, 1) := by decide +kernel
theorem dX0_of_22 : decode cX0_of 22 = .ok (.iconst 5, 1) := by decide +kernel
theorem dX0_of_23 : decode cX0_of 23 = .ok (.isub, 1) := by decide +kernel
theorem dX0_of_24 : decode cX0_of 24 = .ok (.invokevirtual 204, 3) := by decide +kernel
theorem dX0_of_27 : decode cX0_of 27 = .ok (.ifCond .eq 12, 3) := by decide +kernel
theorem dX0_of_30 : decode cX0_of 30 = .ok (.aload_n 3, 1) := by decide +kernel
theorem dX0_of_31 : decode cX0_of 31 = .ok (.iload_n 2, 1) := by decide +kernel
theorem dX0_of_32 : decode cX0_of 32 = .ok (.iconst 5, 1) := by decide +kernel
theorem dX0_of_33 : decode cX0_of 33 = .ok (.isub, 1) := by decide +kernel
theorem dX0_of_34 : decode cX0_of 34 = .ok (.invokevirtual 207, 3) := by decide +kernel
theorem dX0_of_37 : decode cX0_of 37 = .ok (.i2l, 1) := by decide +kernel
theorem dX0_of_38 : decode cX0_of 38 = .ok (.lreturn, 1) := by decide +kernel
theorem dX0_of_39 : decode cX0_of 39 = .ok (.aload_n 3, 1) := by decide +kernel
theorem dX0_of_40 : decode cX0_of 40 = .ok (.iload_n 2, 1) := by decide +kernel
theorem dX0_of_41 : decode cX0_of 41 = .ok (.bipush 9, 2) := by decide +kernel
theorem dX0_of_43 : decode cX0_of 43 = .ok (.isub, 1) := by decide +kernel
theorem dX0_of_44 : decode cX0_of 44 = .ok (.invokevirtual 204, 3) := by decide +kernel
theorem dX0_of_47 : decode cX0_of 47 = .ok (.ifCond .eq 13, 3) := by decide +kernel
theorem dX0_of_50 : decode cX0_of 50 = .ok (.aload_n 3, 1) := by decide +kernel
theorem dX0_of_51 : decode cX0_of 51 = .ok (.getfield 211, 3) := by decide +kernel
theorem dX0_of_54 : decode cX0_of 54 = .ok (.iload_n 2, 1) := by decide +kernel
theorem dX0_of_55 : decode cX0_of 55 = .ok (.bipush 9, 2) := by decide +kernel
theorem dX0_of_57 : decode cX0_of 57 = .ok (.isub, 1) := by decide +kernel
theorem dX0_of_58 : decode cX0_of 58 = .ok (.laload, 1) := by decide +kernel
theorem dX0_of_59 : decode cX0_of 59 = .ok (.lreturn, 1) := by decide +kernel
theorem dX0_of_60 : decode cX0_of 60 = .ok (.iload_n 2, 1) := by decide +kernel
theorem dX0_of_61 : decode cX0_of 61 = .ok (.tableswitch 63 0 4 #[35, 41, 46, 51, 57], 35) := by decide +kernel
theorem dX0_of_96 : decode cX0_of 96 = .ok (.aload_n 3, 1) := by decide +kernel
theorem dX0_of_97 : decode cX0_of 97 = .ok (.getfield 215, 3) := by decide +kernel
theorem dX0_of_100 : decode cX0_of 100 = .ok (.i2l, 1) := by decide +kernel
theorem dX0_of_101 : decode cX0_of 101 = .ok (.lreturn, 1) := by decide +kernel
theorem dX0_of_102 : decode cX0_of 102 = .ok (.aload_n 3, 1) := by decide +kernel
theorem dX0_of_103 : decode cX0_of 103 = .ok (.getfield 216, 3) := by decide +kernel
theorem dX0_of_106 : decode cX0_of 106 = .ok (.lreturn, 1) := by decide +kernel
theorem dX0_of_107 : decode cX0_of 107 = .ok (.aload_n 3, 1) := by decide +kernel
theorem dX0_of_108 : decode cX0_of 108 = .ok (.invokevirtual 135, 3) := by decide +kernel
theorem dX0_of_111 : decode cX0_of 111 = .ok (.lreturn, 1) := by decide +kernel
theorem dX0_of_112 : decode cX0_of 112 = .ok (.aload_n 3, 1) := by decide +kernel
theorem dX0_of_113 : decode cX0_of 113 = .ok (.getfield 123, 3) := by decide +kernel
theorem dX0_of_116 : decode cX0_of 116 = .ok (.i2l, 1) := by decide +kernel
theorem dX0_of_117 : decode cX0_of 117 = .ok (.lreturn, 1) := by decide +kernel
theorem dX0_of_118 : decode cX0_of 118 = .ok (.aload_n 3, 1) := by decide +kernel
theorem dX0_of_119 : decode cX0_of 119 = .ok (.getfield 219, 3) := by decide +kernel
theorem dX0_of_122 : decode cX0_of 122 = .ok (.i2l, 1) := by decide +kernel
theorem dX0_of_123 : decode cX0_of 123 = .ok (.lreturn, 1) := by decide +kernel
theorem dX0_of_124 : decode cX0_of 124 = .ok (.new 179, 3) := by decide +kernel
theorem dX0_of_127 : decode cX0_of 127 = .ok (.dup, 1) := by decide +kernel
theorem dX0_of_128 : decode cX0_of 128 = .ok (.ldc 222, 2) := by decide +kernel
theorem dX0_of_130 : decode cX0_of 130 = .ok (.invokespecial 181, 3) := by decide +kernel
theorem dX0_of_133 : decode cX0_of 133 = .ok (.athrow, 1) := by decide +kernel
theorem dX0_count_0 : decode cX0_count 0 = .ok (.iload_n 1, 1) := by decide +kernel
theorem dX0_count_1 : decode cX0_count 1 = .ok (.bipush 10, 2) := by decide +kernel
theorem dX0_count_3 : decode cX0_count 3 = .ok (.if_icmp .lt 23, 3) := by decide +kernel
theorem dX0_count_6 : decode cX0_count 6 = .ok (.iload_n 1, 1) := by decide +kernel
theorem dX0_count_7 : decode cX0_count 7 = .ok (.bipush 10, 2) := by decide +kernel
theorem dX0_count_9 : decode cX0_count 9 = .ok (.isub, 1) := by decide +kernel
theorem dX0_count_10 : decode cX0_count 10 = .ok (.invokestatic 93, 3) := by decide +kernel
theorem dX0_count_13 : decode cX0_count 13 = .ok (.ifCond .eq 13, 3) := by decide +kernel
theorem dX0_count_16 : decode cX0_count 16 = .ok (.aload_n 0, 1) := by decide +kernel
theorem dX0_count_17 : decode cX0_count 17 = .ok (.getfield 28, 3) := by decide +kernel
theorem dX0_count_20 : decode cX0_count 20 = .ok (.iload_n 1, 1) := by decide +kernel
theorem dX0_count_21 : decode cX0_count 21 = .ok (.bipush 10, 2) := by decide +kernel
theorem dX0_count_23 : decode cX0_count 23 = .ok (.isub, 1) := by decide +kernel
theorem dX0_count_24 : decode cX0_count 24 = .ok (.iaload, 1) := by decide +kernel
theorem dX0_count_25 : decode cX0_count 25 = .ok (.ireturn, 1) := by decide +kernel
theorem dX0_count_26 : decode cX0_count 26 = .ok (.iload_n 1, 1) := by decide +kernel
theorem dX0_count_27 : decode cX0_count 27 = .ok (.tableswitch 49 0 3 #[29, 34, 39, 44], 29) := by decide +kernel
theorem dX0_count_56 : decode cX0_count 56 = .ok (.aload_n 0, 1) := by decide +kernel
theorem dX0_count_57 : decode cX0_count 57 = .ok (.getfield 56, 3) := by decide +kernel
theorem dX0_count_60 : decode cX0_count 60 = .ok (.ireturn, 1) := by decide +kernel
theorem dX0_count_61 : decode cX0_count 61 = .ok (.aload_n 0, 1) := by decide +kernel
theorem dX0_count_62 : decode cX0_count 62 = .ok (.getfield 98, 3) := by decide +kernel
theorem dX0_count_65 : decode cX0_count 65 = .ok (.ireturn, 1) := by decide +kernel
theorem dX0_count_66 : decode cX0_count 66 = .ok (.aload_n 0, 1) := by decide +kernel
theorem dX0_count_67 : decode cX0_count 67 = .ok (.getfield 224, 3) := by decide +kernel
theorem dX0_count_70 : decode cX0_count 70 = .ok (.ireturn, 1) := by decide +kernel
theorem dX0_count_71 : decode cX0_count 71 = .ok (.aload_n 0, 1) := by decide +kernel
theorem dX0_count_72 : decode cX0_count 72 = .ok (.getfield 72, 3) := by decide +kernel
theorem dX0_count_75 : decode cX0_count 75 = .ok (.ireturn, 1) := by decide +kernel
theorem dX0_count_76 : decode cX0_count 76 = .ok (.iconst (-1), 1) := by decide +kernel
theorem dX0_count_77 : decode cX0_count 77 = .ok (.ireturn, 1) := by decide +kernel
theorem dX0_isHolder_0 : decode cX0_isHolder 0 = .ok (.iload_n 0, 1) := by decide +kernel
theorem dX0_isHolder_1 : decode cX0_isHolder 1 = .ok (.ifCond .lt 13, 3) := by decide +kernel
theorem dX0_isHolder_4 : decode cX0_isHolder 4 = .ok (.iload_n 0, 1) := by decide +kernel
theorem dX0_isHolder_5 : decode cX0_isHolder 5 = .ok (.bipush 8, 2) := by decide +kernel
theorem dX0_isHolder_7 : decode cX0_isHolder 7 = .ok (.if_icmp .ge 7, 3) := by decide +kernel
theorem dX0_isHolder_10 : decode cX0_isHolder 10 = .ok (.iconst 1, 1) := by decide +kernel
theorem dX0_isHolder_11 : decode cX0_isHolder 11 = .ok (.goto 4, 3) := by decide +kernel
theorem dX0_isHolder_14 : decode cX0_isHolder 14 = .ok (.iconst 0, 1) := by decide +kernel
theorem dX0_isHolder_15 : decode cX0_isHolder 15 = .ok (.ireturn, 1) := by decide +kernel
theorem dX0_isDesk_0 : decode cX0_isDesk 0 = .ok (.iload_n 0, 1) := by decide +kernel
theorem dX0_isDesk_1 : decode cX0_isDesk 1 = .ok (.ifCond .lt 12, 3) := by decide +kernel
theorem dX0_isDesk_4 : decode cX0_isDesk 4 = .ok (.iload_n 0, 1) := by decide +kernel
theorem dX0_isDesk_5 : decode cX0_isDesk 5 = .ok (.iconst 4, 1) := by decide +kernel
theorem dX0_isDesk_6 : decode cX0_isDesk 6 = .ok (.if_icmp .ge 7, 3) := by decide +kernel
theorem dX0_isDesk_9 : decode cX0_isDesk 9 = .ok (.iconst 1, 1) := by decide +kernel
theorem dX0_isDesk_10 : decode cX0_isDesk 10 = .ok (.goto 4, 3) := by decide +kernel
theorem dX0_isDesk_13 : decode cX0_isDesk 13 = .ok (.iconst 0, 1) := by decide +kernel
theorem dX0_isDesk_14 : decode cX0_isDesk 14 = .ok (.ireturn, 1) := by decide +kernel
theorem dX0_isCents_0 : decode cX0_isCents 0 = .ok (.lload_n 0, 1) := by decide +kernel
theorem dX0_isCents_1 : decode cX0_isCents 1 = .ok (.lconst 1, 1) := by decide +kernel
theorem dX0_isCents_2 : decode cX0_isCents 2 = .ok (.lcmp, 1) := by decide +kernel
theorem dX0_isCents_3 : decode cX0_isCents 3 = .ok (.ifCond .lt 15, 3) := by decide +kernel
theorem dX0_isCents_6 : decode cX0_isCents 6 = .ok (.lload_n 0, 1) := by decide +kernel
theorem dX0_isCents_7 : decode cX0_isCents 7 = .ok (.ldc2_w 227, 3) := by decide +kernel
theorem dX0_isCents_10 : decode cX0_isCents 10 = .ok (.lcmp, 1) := by decide +kernel
theorem dX0_isCents_11 : decode cX0_isCents 11 = .ok (.ifCond .gt 7, 3) := by decide +kernel
theorem dX0_isCents_14 : decode cX0_isCents 14 = .ok (.iconst 1, 1) := by decide +kernel
theorem dX0_isCents_15 : decode cX0_isCents 15 = .ok (.goto 4, 3) := by decide +kernel
theorem dX0_isCents_18 : decode cX0_isCents 18 = .ok (.iconst 0, 1) := by decide +kernel
theorem dX0_isCents_19 : decode cX0_isCents 19 = .ok (.ireturn, 1) := by decide +kernel
theorem dX0_isShare_0 : decode cX0_isShare 0 = .ok (.iload_n 0, 1) := by decide +kernel
theorem dX0_isShare_1 : decode cX0_isShare 1 = .ok (.ifCond .lt 23, 3) := by decide +kernel
theorem dX0_isShare_4 : decode cX0_isShare 4 = .ok (.iload_n 1, 1) := by decide +kernel
theorem dX0_isShare_5 : decode cX0_isShare 5 = .ok (.iconst 1, 1) := by decide +kernel
theorem dX0_isShare_6 : decode cX0_isShare 6 = .ok (.if_icmp .lt 18, 3) := by decide +kernel
theorem dX0_isShare_9 : decode cX0_isShare 9 = .ok (.iload_n 1, 1) := by decide +kernel
theorem dX0_isShare_10 : decode cX0_isShare 10 = .ok (.bipush 100, 2) := by decide +kernel
theorem dX0_isShare_12 : decode cX0_isShare 12 = .ok (.if_icmp .gt 12, 3) := by decide +kernel
theorem dX0_isShare_15 : decode cX0_isShare 15 = .ok (.iload_n 0, 1) := by decide +kernel
theorem dX0_isShare_16 : decode cX0_isShare 16 = .ok (.iload_n 1, 1) := by decide +kernel
theorem dX0_isShare_17 : decode cX0_isShare 17 = .ok (.if_icmp .gt 7, 3) := by decide +kernel
theorem dX0_isShare_20 : decode cX0_isShare 20 = .ok (.iconst 1, 1) := by decide +kernel
theorem dX0_isShare_21 : decode cX0_isShare 21 = .ok (.goto 4, 3) := by decide +kernel
theorem dX0_isShare_24 : decode cX0_isShare 24 = .ok (.iconst 0, 1) := by decide +kernel
theorem dX0_isShare_25 : decode cX0_isShare 25 = .ok (.ireturn, 1) := by decide +kernel
theorem dX0_guaranteeNumbered_0 : decode cX0_guaranteeNumbered 0 = .ok (.iload_n 1, 1) := by decide +kernel
theorem dX0_guaranteeNumbered_1 : decode cX0_guaranteeNumbered 1 = .ok (.iconst 1, 1) := by decide +kernel
theorem dX0_guaranteeNumbered_2 : decode cX0_guaranteeNumbered 2 = .ok (.if_icmp .lt 22, 3) := by decide +kernel
theorem dX0_guaranteeNumbered_5 : decode cX0_guaranteeNumbered 5 = .ok (.iload_n 1, 1) := by decide +kernel
theorem dX0_guaranteeNumbered_6 : decode cX0_guaranteeNumbered 6 = .ok (.aload_n 0, 1) := by decide +kernel
theorem dX0_guaranteeNumbered_7 : decode cX0_guaranteeNumbered 7 = .ok (.getfield 56, 3) := by decide +kernel
theorem dX0_guaranteeNumbered_10 : decode cX0_guaranteeNumbered 10 = .ok (.if_icmp .gt 14, 3) := by decide +kernel
theorem dX0_guaranteeNumbered_13 : decode cX0_guaranteeNumbered 13 = .ok (.aload_n 0, 1) := by decide +kernel
theorem dX0_guaranteeNumbered_14 : decode cX0_guaranteeNumbered 14 = .ok (.getfield 11, 3) := by decide +kernel
theorem dX0_guaranteeNumbered_17 : decode cX0_guaranteeNumbered 17 = .ok (.iload_n 1, 1) := by decide +kernel
theorem dX0_guaranteeNumbered_18 : decode cX0_guaranteeNumbered 18 = .ok (.iconst 1, 1) := by decide +kernel
theorem dX0_guaranteeNumbered_19 : decode cX0_guaranteeNumbered 19 = .ok (.isub, 1) := by decide +kernel
theorem dX0_guaranteeNumbered_20 : decode cX0_guaranteeNumbered 20 = .ok (.aaload, 1) := by decide +kernel
theorem dX0_guaranteeNumbered_21 : decode cX0_guaranteeNumbered 21 = .ok (.goto 4, 3) := by decide +kernel
theorem dX0_guaranteeNumbered_24 : decode cX0_guaranteeNumbered 24 = .ok (.aconst_null, 1) := by decide +kernel
theorem dX0_guaranteeNumbered_25 : decode cX0_guaranteeNumbered 25 = .ok (.areturn, 1) := by decide +kernel
theorem dX0_reservationNumbered_0 : decode cX0_reservationNumbered 0 = .ok (.iload_n 1, 1) := by decide +kernel
theorem dX0_reservationNumbered_1 : decode cX0_reservationNumbered 1 = .ok (.iconst 1, 1) := by decide +kernel
theorem dX0_reservationNumbered_2 : decode cX0_reservationNumbered 2 = .ok (.if_icmp .lt 22, 3) := by decide +kernel
theorem dX0_reservationNumbered_5 : decode cX0_reservationNumbered 5 = .ok (.iload_n 1, 1) := by decide +kernel
theorem dX0_reservationNumbered_6 : decode cX0_reservationNumbered 6 = .ok (.aload_n 0, 1) := by decide +kernel
theorem dX0_reservationNumbered_7 : decode cX0_reservationNumbered 7 = .ok (.getfield 98, 3) := by decide +kernel
theorem dX0_reservationNumbered_10 : decode cX0_reservationNumbered 10 = .ok (.if_icmp .gt 14, 3) := by decide +kernel
theorem dX0_reservationNumbered_13 : decode cX0_reservationNumbered 13 = .ok (.aload_n 0, 1) := by decide +kernel
theorem dX0_reservationNumbered_14 : decode cX0_reservationNumbered 14 = .ok (.getfield 20, 3) := by decide +kernel
theorem dX0_reservationNumbered_17 : decode cX0_reservationNumbered 17 = .ok (.iload_n 1, 1) := by decide +kernel
theorem dX0_reservationNumbered_18 : decode cX0_reservationNumbered 18 = .ok (.iconst 1, 1) := by decide +kernel
theorem dX0_reservationNumbered_19 : decode cX0_reservationNumbered 19 = .ok (.isub, 1) := by decide +kernel
theorem dX0_reservationNumbered_20 : decode cX0_reservationNumbered 20 = .ok (.aaload, 1) := by decide +kernel
theorem dX0_reservationNumbered_21 : decode cX0_reservationNumbered 21 = .ok (.goto 4, 3) := by decide +kernel
theorem dX0_reservationNumbered_24 : decode cX0_reservationNumbered 24 = .ok (.aconst_null, 1) := by decide +kernel
theorem dX0_reservationNumbered_25 : decode cX0_reservationNumbered 25 = .ok (.areturn, 1) := by decide +kernel
theorem dX0_putLast_0 : decode cX0_putLast 0 = .ok (.aload_n 0, 1) := by decide +kernel
theorem dX0_putLast_1 : decode cX0_putLast 1 = .ok (.getfield 15, 3) := by decide +kernel
theorem dX0_putLast_4 : decode cX0_putLast 4 = .ok (.aload_n 1, 1) := by decide +kernel
theorem dX0_putLast_5 : decode cX0_putLast 5 = .ok (.getfield 87, 3) := by decide +kernel
theorem dX0_putLast_8 : decode cX0_putLast 8 = .ok (.aaload, 1) := by decide +kernel
theorem dX0_putLast_9 : decode cX0_putLast 9 = .ok (.astore_n 2, 1) := by decide +kernel
theorem dX0_putLast_10 : decode cX0_putLast 10 = .ok (.aload_n 2, 1) := by decide +kernel
theorem dX0_putLast_11 : decode cX0_putLast 11 = .ok (.ifnonnull 14, 3) := by decide +kernel
theorem dX0_putLast_14 : decode cX0_putLast 14 = .ok (.aload_n 0, 1) := by decide +kernel
theorem dX0_putLast_15 : decode cX0_putLast 15 = .ok (.getfield 15, 3) := by decide +kernel
theorem dX0_putLast_18 : decode cX0_putLast 18 = .ok (.aload_n 1, 1) := by decide +kernel
theorem dX0_putLast_19 : decode cX0_putLast 19 = .ok (.getfield 87, 3) := by decide +kernel
theorem dX0_putLast_22 : decode cX0_putLast 22 = .ok (.aload_n 1, 1) := by decide +kernel
theorem dX0_putLast_23 : decode cX0_putLast 23 = .ok (.aastore, 1) := by decide +kernel
theorem dX0_putLast_24 : decode cX0_putLast 24 = .ok (.return_, 1) := by decide +kernel
theorem dX0_putLast_25 : decode cX0_putLast 25 = .ok (.aload_n 2, 1) := by decide +kernel
theorem dX0_putLast_26 : decode cX0_putLast 26 = .ok (.getfield 175, 3) := by decide +kernel
theorem dX0_putLast_29 : decode cX0_putLast 29 = .ok (.ifnull 11, 3) := by decide +kernel
theorem dX0_putLast_32 : decode cX0_putLast 32 = .ok (.aload_n 2, 1) := by decide +kernel
theorem dX0_putLast_33 : decode cX0_putLast 33 = .ok (.getfield 175, 3) := by decide +kernel
theorem dX0_putLast_36 : decode cX0_putLast 36 = .ok (.astore_n 2, 1) := by decide +kernel
theorem dX0_putLast_37 : decode cX0_putLast 37 = .ok (.goto (-12), 3) := by decide +kernel
theorem dX0_putLast_40 : decode cX0_putLast 40 = .ok (.aload_n 2, 1) := by decide +kernel
theorem dX0_putLast_41 : decode cX0_putLast 41 = .ok (.aload_n 1, 1) := by decide +kernel
theorem dX0_putLast_42 : decode cX0_putLast 42 = .ok (.putfield 175, 3) := by decide +kernel
theorem dX0_putLast_45 : decode cX0_putLast 45 = .ok (.return_, 1) := by decide +kernel
theorem dX0_putFirst_0 : decode cX0_putFirst 0 = .ok (.aload_n 0, 1) := by decide +kernel
theorem dX0_putFirst_1 : decode cX0_putFirst 1 = .ok (.getfield 15, 3) := by decide +kernel
theorem dX0_putFirst_4 : decode cX0_putFirst 4 = .ok (.aload_n 1, 1) := by decide +kernel
theorem dX0_putFirst_5 : decode cX0_putFirst 5 = .ok (.getfield 87, 3) := by decide +kernel
theorem dX0_putFirst_8 : decode cX0_putFirst 8 = .ok (.aaload, 1) := by decide +kernel
theorem dX0_putFirst_9 : decode cX0_putFirst 9 = .ok (.astore_n 2, 1) := by decide +kernel
theorem dX0_putFirst_10 : decode cX0_putFirst 10 = .ok (.aload_n 2, 1) := by decide +kernel
theorem dX0_putFirst_11 : decode cX0_putFirst 11 = .ok (.ifnull 19, 3) := by decide +kernel
theorem dX0_putFirst_14 : decode cX0_putFirst 14 = .ok (.aload_n 2, 1) := by decide +kernel
theorem dX0_putFirst_15 : decode cX0_putFirst 15 = .ok (.getfield 175, 3) := by decide +kernel
theorem dX0_putFirst_18 : decode cX0_putFirst 18 = .ok (.aload_n 1, 1) := by decide +kernel
theorem dX0_putFirst_19 : decode cX0_putFirst 19 = .ok (.if_acmp .eq 11, 3) := by decide +kernel
theorem dX0_putFirst_22 : decode cX0_putFirst 22 = .ok (.aload_n 2, 1) := by decide +kernel
theorem dX0_putFirst_23 : decode cX0_putFirst 23 = .ok (.getfield 175, 3) := by decide +kernel
theorem dX0_putFirst_26 : decode cX0_putFirst 26 = .ok (.astore_n 2, 1) := by decide +kernel
theorem dX0_putFirst_27 : decode cX0_putFirst 27 = .ok (.goto (-17), 3) := by decide +kernel
theorem dX0_putFirst_30 : decode cX0_putFirst 30 = .ok (.aload_n 2, 1) := by decide +kernel
theorem dX0_putFirst_31 : decode cX0_putFirst 31 = .ok (.ifnull 34, 3) := by decide +kernel
theorem dX0_putFirst_34 : decode cX0_putFirst 34 = .ok (.aload_n 2, 1) := by decide +kernel
theorem dX0_putFirst_35 : decode cX0_putFirst 35 = .ok (.aload_n 1, 1) := by decide +kernel
theorem dX0_putFirst_36 : decode cX0_putFirst 36 = .ok (.getfield 175, 3) := by decide +kernel
theorem dX0_putFirst_39 : decode cX0_putFirst 39 = .ok (.putfield 175, 3) := by decide +kernel
theorem dX0_putFirst_42 : decode cX0_putFirst 42 = .ok (.aload_n 1, 1) := by decide +kernel
theorem dX0_putFirst_43 : decode cX0_putFirst 43 = .ok (.aload_n 0, 1) := by decide +kernel
theorem dX0_putFirst_44 : decode cX0_putFirst 44 = .ok (.getfield 15, 3) := by decide +kernel
theorem dX0_putFirst_47 : decode cX0_putFirst 47 = .ok (.aload_n 1, 1) := by decide +kernel
theorem dX0_putFirst_48 : decode cX0_putFirst 48 = .ok (.getfield 87, 3) := by decide +kernel
theorem dX0_putFirst_51 : decode cX0_putFirst 51 = .ok (.aaload, 1) := by decide +kernel
theorem dX0_putFirst_52 : decode cX0_putFirst 52 = .ok (.putfield 175, 3) := by decide +kernel
theorem dX0_putFirst_55 : decode cX0_putFirst 55 = .ok (.aload_n 0, 1) := by decide +kernel
theorem dX0_putFirst_56 : decode cX0_putFirst 56 = .ok (.getfield 15, 3) := by decide +kernel
theorem dX0_putFirst_59 : decode cX0_putFirst 59 = .ok (.aload_n 1, 1) := by decide +kernel
theorem dX0_putFirst_60 : decode cX0_putFirst 60 = .ok (.getfield 87, 3) := by decide +kernel
theorem dX0_putFirst_63 : decode cX0_putFirst 63 = .ok (.aload_n 1, 1) := by decide +kernel
theorem dX0_putFirst_64 : decode cX0_putFirst 64 = .ok (.aastore, 1) := by decide +kernel
theorem dX0_putFirst_65 : decode cX0_putFirst 65 = .ok (.return_, 1) := by decide +kernel
theorem dX0_mayCoverTogether_0 : decode cX0_mayCoverTogether 0 = .ok (.lconst 0, 1) := by decide +kernel
theorem dX0_mayCoverTogether_1 : decode cX0_mayCoverTogether 1 = .ok (.lstore_n 2, 1) := by decide +kernel
theorem dX0_mayCoverTogether_2 : decode cX0_mayCoverTogether 2 = .ok (.aload_n 0, 1) := by decide +kernel
theorem dX0_mayCoverTogether_3 : decode cX0_mayCoverTogether 3 = .ok (.getfield 15, 3) := by decide +kernel
theorem dX0_mayCoverTogether_6 : decode cX0_mayCoverTogether 6 = .ok (.iload_n 1, 1) := by decide +kernel
theorem dX0_mayCoverTogether_7 : decode cX0_mayCoverTogether 7 = .ok (.aaload, 1) := by decide +kernel
theorem dX0_mayCoverTogether_8 : decode cX0_mayCoverTogether 8 = .ok (.astore 4, 2) := by decide +kernel
theorem dX0_mayCoverTogether_10 : decode cX0_mayCoverTogether 10 = .ok (.aload 4, 2) := by decide +kernel
theorem dX0_mayCoverTogether_12 : decode cX0_mayCoverTogether 12 = .ok (.ifnull 21, 3) := by decide +kernel
theorem dX0_mayCoverTogether_15 : decode cX0_mayCoverTogether 15 = .ok (.lload_n 2, 1) := by decide +kernel
theorem dX0_mayCoverTogether_16 : decode cX0_mayCoverTogether 16 = .ok (.aload 4, 2) := by decide +kernel
theorem dX0_mayCoverTogether_18 : decode cX0_mayCoverTogether 18 = .ok (.invokevirtual 188, 3) := by decide +kernel
theorem dX0_mayCoverTogether_21 : decode cX0_mayCoverTogether 21 = .ok (.ladd, 1) := by decide +kernel
theorem dX0_mayCoverTogether_22 : decode cX0_mayCoverTogether 22 = .ok (.lstore_n 2, 1) := by decide +kernel
theorem dX0_mayCoverTogether_23 : decode cX0_mayCoverTogether 23 = .ok (.aload 4, 2) := by decide +kernel
theorem dX0_mayCoverTogether_25 : decode cX0_mayCoverTogether 25 = .ok (.getfield 175, 3) := by decide +kernel
theorem dX0_mayCoverTogether_28 : decode cX0_mayCoverTogether 28 = .ok (.astore 4, 2) := by decide +kernel
theorem dX0_mayCoverTogether_30 : decode cX0_mayCoverTogether 30 = .ok (.goto (-20), 3) := by decide +kernel
theorem dX0_mayCoverTogether_33 : decode cX0_mayCoverTogether 33 = .ok (.lload_n 2, 1) := by decide +kernel
theorem dX0_mayCoverTogether_34 : decode cX0_mayCoverTogether 34 = .ok (.ldc2_w 229, 3) := by decide +kernel
theorem dX0_mayCoverTogether_37 : decode cX0_mayCoverTogether 37 = .ok (.invokestatic 231, 3) := by decide +kernel
theorem dX0_mayCoverTogether_40 : decode cX0_mayCoverTogether 40 = .ok (.lreturn, 1) := by decide +kernel
theorem dX0_draftCovers_0 : decode cX0_draftCovers 0 = .ok (.aload_n 0, 1) := by decide +kernel
theorem dX0_draftCovers_1 : decode cX0_draftCovers 1 = .ok (.getfield 33, 3) := by decide +kernel
theorem dX0_draftCovers_4 : decode cX0_draftCovers 4 = .ok (.iload_n 1, 1) := by decide +kernel
theorem dX0_draftCovers_5 : decode cX0_draftCovers 5 = .ok (.lload_n 2, 1) := by decide +kernel
theorem dX0_draftCovers_6 : decode cX0_draftCovers 6 = .ok (.invokevirtual 237, 3) := by decide +kernel
theorem dX0_draftCovers_9 : decode cX0_draftCovers 9 = .ok (.lload_n 2, 1) := by decide +kernel
theorem dX0_draftCovers_10 : decode cX0_draftCovers 10 = .ok (.lstore 4, 2) := by decide +kernel
theorem dX0_draftCovers_12 : decode cX0_draftCovers 12 = .ok (.aload_n 0, 1) := by decide +kernel
theorem dX0_draftCovers_13 : decode cX0_draftCovers 13 = .ok (.getfield 15, 3) := by decide +kernel
theorem dX0_draftCovers_16 : decode cX0_draftCovers 16 = .ok (.iload_n 1, 1) := by decide +kernel
theorem dX0_draftCovers_17 : decode cX0_draftCovers 17 = .ok (.aaload, 1) := by decide +kernel
theorem dX0_draftCovers_18 : decode cX0_draftCovers 18 = .ok (.astore 6, 2) := by decide +kernel
theorem dX0_draftCovers_20 : decode cX0_draftCovers 20 = .ok (.aload 6, 2) := by decide +kernel
theorem dX0_draftCovers_22 : decode cX0_draftCovers 22 = .ok (.ifnull 62, 3) := by decide +kernel
theorem dX0_draftCovers_25 : decode cX0_draftCovers 25 = .ok (.lload 4, 2) := by decide +kernel
theorem dX0_draftCovers_27 : decode cX0_draftCovers 27 = .ok (.lconst 0, 1) := by decide +kernel
theorem dX0_draftCovers_28 : decode cX0_draftCovers 28 = .ok (.lcmp, 1) := by decide +kernel
theorem dX0_draftCovers_29 : decode cX0_draftCovers 29 = .ok (.ifCond .le 55, 3) := by decide +kernel
theorem dX0_draftCovers_32 : decode cX0_draftCovers 32 = .ok (.lload 4, 2) := by decide +kernel
theorem dX0_draftCovers_34 : decode cX0_draftCovers 34 = .ok (.aload 6, 2) := by decide +kernel
theorem dX0_draftCovers_36 : decode cX0_draftCovers 36 = .ok (.invokevirtual 188, 3) := by decide +kernel
theorem dX0_draftCovers_39 : decode cX0_draftCovers 39 = .ok (.invokestatic 231, 3) := by decide +kernel
theorem dX0_draftCovers_42 : decode cX0_draftCovers 42 = .ok (.lstore 7, 2) := by decide +kernel
theorem dX0_draftCovers_44 : decode cX0_draftCovers 44 = .ok (.lload 7, 2) := by decide +kernel
theorem dX0_draftCovers_46 : decode cX0_draftCovers 46 = .ok (.lconst 0, 1) := by decide +kernel
theorem dX0_draftCovers_47 : decode cX0_draftCovers 47 = .ok (.lcmp, 1) := by decide +kernel
theorem dX0_draftCovers_48 : decode cX0_draftCovers 48 = .ok (.ifCond .le 19, 3) := by decide +kernel
theorem dX0_draftCovers_51 : decode cX0_draftCovers 51 = .ok (.aload_n 0, 1) := by decide +kernel
theorem dX0_draftCovers_52 : decode cX0_draftCovers 52 = .ok (.getfield 33, 3) := by decide +kernel
theorem dX0_draftCovers_55 : decode cX0_draftCovers 55 = .ok (.aload 6, 2) := by decide +kernel
theorem dX0_draftCovers_57 : decode cX0_draftCovers 57 = .ok (.lload 7, 2) := by decide +kernel
theorem dX0_draftCovers_59 : decode cX0_draftCovers 59 = .ok (.invokevirtual 241, 3) := by decide +kernel
theorem dX0_draftCovers_62 : decode cX0_draftCovers 62 = .ok (.ifCond .ne 5, 3) := by decide +kernel
theorem dX0_draftCovers_65 : decode cX0_draftCovers 65 = .ok (.iconst 0, 1) := by decide +kernel
theorem dX0_draftCovers_66 : decode cX0_draftCovers 66 = .ok (.ireturn, 1) := by decide +kernel
theorem dX0_draftCovers_67 : decode cX0_draftCovers 67 = .ok (.lload 4, 2) := by decide +kernel
theorem dX0_draftCovers_69 : decode cX0_draftCovers 69 = .ok (.lload 7, 2) := by decide +kernel
theorem dX0_draftCovers_71 : decode cX0_draftCovers 71 = .ok (.lsub, 1) := by decide +kernel
theorem dX0_draftCovers_72 : decode cX0_draftCovers 72 = .ok (.lstore 4, 2) := by decide +kernel
theorem dX0_draftCovers_74 : decode cX0_draftCovers 74 = .ok (.aload 6, 2) := by decide +kernel
theorem dX0_draftCovers_76 : decode cX0_draftCovers 76 = .ok (.getfield 175, 3) := by decide +kernel
theorem dX0_draftCovers_79 : decode cX0_draftCovers 79 = .ok (.astore 6, 2) := by decide +kernel
theorem dX0_draftCovers_81 : decode cX0_draftCovers 81 = .ok (.goto (-61), 3) := by decide +kernel
theorem dX0_draftCovers_84 : decode cX0_draftCovers 84 = .ok (.lload 4, 2) := by decide +kernel
theorem dX0_draftCovers_86 : decode cX0_draftCovers 86 = .ok (.lconst 0, 1) := by decide +kernel
theorem dX0_draftCovers_87 : decode cX0_draftCovers 87 = .ok (.lcmp, 1) := by decide +kernel
theorem dX0_draftCovers_88 : decode cX0_draftCovers 88 = .ok (.ifCond .ne 7, 3) := by decide +kernel
theorem dX0_draftCovers_91 : decode cX0_draftCovers 91 = .ok (.iconst 1, 1) := by decide +kernel
theorem dX0_draftCovers_92 : decode cX0_draftCovers 92 = .ok (.goto 4, 3) := by decide +kernel
theorem dX0_draftCovers_95 : decode cX0_draftCovers 95 = .ok (.iconst 0, 1) := by decide +kernel
theorem dX0_draftCovers_96 : decode cX0_draftCovers 96 = .ok (.ireturn, 1) := by decide +kernel
theorem dX0_keepDraft_0 : decode cX0_keepDraft 0 = .ok (.aload_n 0, 1) := by decide +kernel
theorem dX0_keepDraft_1 : decode cX0_keepDraft 1 = .ok (.getfield 33, 3) := by decide +kernel
theorem dX0_keepDraft_4 : decode cX0_keepDraft 4 = .ok (.invokevirtual 245, 3) := by decide +kernel
theorem dX0_keepDraft_7 : decode cX0_keepDraft 7 = .ok (.aload_n 0, 1) := by decide +kernel
theorem dX0_keepDraft_8 : decode cX0_keepDraft 8 = .ok (.getfield 20, 3) := by decide +kernel
theorem dX0_keepDraft_11 : decode cX0_keepDraft 11 = .ok (.aload_n 0, 1) := by decide +kernel
theorem dX0_keepDraft_12 : decode cX0_keepDraft 12 = .ok (.getfield 98, 3) := by decide +kernel
theorem dX0_keepDraft_15 : decode cX0_keepDraft 15 = .ok (.aload_n 0, 1) := by decide +kernel
theorem dX0_keepDraft_16 : decode cX0_keepDraft 16 = .ok (.getfield 33, 3) := by decide +kernel
theorem dX0_keepDraft_19 : decode cX0_keepDraft 19 = .ok (.aastore, 1) := by decide +kernel
theorem dX0_keepDraft_20 : decode cX0_keepDraft 20 = .ok (.aload_n 0, 1) := by decide +kernel
theorem dX0_keepDraft_21 : decode cX0_keepDraft 21 = .ok (.dup, 1) := by decide +kernel
theorem dX0_keepDraft_22 : decode cX0_keepDraft 22 = .ok (.getfield 98, 3) := by decide +kernel
theorem dX0_keepDraft_25 : decode cX0_keepDraft 25 = .ok (.iconst 1, 1) := by decide +kernel
theorem dX0_keepDraft_26 : decode cX0_keepDraft 26 = .ok (.iadd, 1) := by decide +kernel
theorem dX0_keepDraft_27 : decode cX0_keepDraft 27 = .ok (.putfield 98, 3) := by decide +kernel
theorem dX0_keepDraft_30 : decode cX0_keepDraft 30 = .ok (.aload_n 0, 1) := by decide +kernel
theorem dX0_keepDraft_31 : decode cX0_keepDraft 31 = .ok (.dup, 1) := by decide +kernel
theorem dX0_keepDraft_32 : decode cX0_keepDraft 32 = .ok (.getfield 224, 3) := by decide +kernel
theorem dX0_keepDraft_35 : decode cX0_keepDraft 35 = .ok (.iconst 1, 1) := by decide +kernel
theorem dX0_keepDraft_36 : decode cX0_keepDraft 36 = .ok (.iadd, 1) := by decide +kernel
theorem dX0_keepDraft_37 : decode cX0_keepDraft 37 = .ok (.putfield 224, 3) := by decide +kernel
theorem dX0_keepDraft_40 : decode cX0_keepDraft 40 = .ok (.aload_n 0, 1) := by decide +kernel
theorem dX0_keepDraft_41 : decode cX0_keepDraft 41 = .ok (.new 18, 3) := by decide +kernel
theorem dX0_keepDraft_44 : decode cX0_keepDraft 44 = .ok (.dup, 1) := by decide +kernel
theorem dX0_keepDraft_45 : decode cX0_keepDraft 45 = .ok (.invokespecial 32, 3) := by decide +kernel
theorem dX0_keepDraft_48 : decode cX0_keepDraft 48 = .ok (.putfield 33, 3) := by decide +kernel
theorem dX0_keepDraft_51 : decode cX0_keepDraft 51 = .ok (.aload_n 0, 1) := by decide +kernel
theorem dX0_keepDraft_52 : decode cX0_keepDraft 52 = .ok (.getfield 98, 3) := by decide +kernel
theorem dX0_keepDraft_55 : decode cX0_keepDraft 55 = .ok (.ireturn, 1) := by decide +kernel
theorem dX0_finish_0 : decode cX0_finish 0 = .ok (.aload_n 1, 1) := by decide +kernel
theorem dX0_finish_1 : decode cX0_finish 1 = .ok (.iload_n 2, 1) := by decide +kernel
theorem dX0_finish_2 : decode cX0_finish 2 = .ok (.putfield 123, 3) := by decide +kernel
theorem dX0_finish_5 : decode cX0_finish 5 = .ok (.aload_n 0, 1) := by decide +kernel
theorem dX0_finish_6 : decode cX0_finish 6 = .ok (.dup, 1) := by decide +kernel
theorem dX0_finish_7 : decode cX0_finish 7 = .ok (.getfield 224, 3) := by decide +kernel
theorem dX0_finish_10 : decode cX0_finish 10 = .ok (.iconst 1, 1) := by decide +kernel
theorem dX0_finish_11 : decode cX0_finish 11 = .ok (.isub, 1) := by decide +kernel
theorem dX0_finish_12 : decode cX0_finish 12 = .ok (.putfield 224, 3) := by decide +kernel
theorem dX0_finish_15 : decode cX0_finish 15 = .ok (.return_, 1) := by decide +kernel
